section
-- ===== PART A: goes FIRST, ahead of the names: the tables' words, and 'selects' of the private methods out of them =====
/-- a private method of a class that the tables say can be made, by its rows of tables_1 -/
def lw_okq (q : MethodName × Nat) : Prop := (q.1.cls ≠ "java/lang/invoke/MethodHandle" ∧ q.1.cls ≠ "java/lang/invoke/VarHandle") ∧ Cond.instantiable q.1.cls q.2 ∈ tables_1 ∧ Cond.privateMethod q.1 ∈ tables_1 ∧ Cond.instanceMethod q.1 ∈ tables_1
theorem lw_p0 : lw_okq (⟨"SourceTree$Spellings", "addAll", "(Ljava/lang/String;)V"⟩, 5) := ⟨⟨by decide +kernel, by decide +kernel⟩, List.mem_of_getElem? (i := 46) (by decide +kernel), List.mem_of_getElem? (i := 88) (by decide +kernel), List.mem_of_getElem? (i := 89) (by decide +kernel)⟩
theorem lw_p1 : lw_okq (⟨"SourceTree$Spellings", "isLast", "(II)Z"⟩, 5) := ⟨⟨by decide +kernel, by decide +kernel⟩, List.mem_of_getElem? (i := 46) (by decide +kernel), List.mem_of_getElem? (i := 156) (by decide +kernel), List.mem_of_getElem? (i := 157) (by decide +kernel)⟩
theorem lw_p2 : lw_okq (⟨"SourceTree$Scanner", "behindBlanks", "(I)I"⟩, 4) := ⟨⟨by decide +kernel, by decide +kernel⟩, List.mem_of_getElem? (i := 197) (by decide +kernel), List.mem_of_getElem? (i := 313) (by decide +kernel), List.mem_of_getElem? (i := 314) (by decide +kernel)⟩
theorem lw_p3 : lw_okq (⟨"SourceTree$Scanner", "scanToken", "(I)I"⟩, 4) := ⟨⟨by decide +kernel, by decide +kernel⟩, List.mem_of_getElem? (i := 197) (by decide +kernel), List.mem_of_getElem? (i := 319) (by decide +kernel), List.mem_of_getElem? (i := 320) (by decide +kernel)⟩
theorem lw_p4 : lw_okq (⟨"SourceTree$Scanner", "scanName", "(I)I"⟩, 4) := ⟨⟨by decide +kernel, by decide +kernel⟩, List.mem_of_getElem? (i := 197) (by decide +kernel), List.mem_of_getElem? (i := 331) (by decide +kernel), List.mem_of_getElem? (i := 332) (by decide +kernel)⟩
theorem lw_p5 : lw_okq (⟨"SourceTree$Scanner", "goesOnName", "(I)Z"⟩, 4) := ⟨⟨by decide +kernel, by decide +kernel⟩, List.mem_of_getElem? (i := 197) (by decide +kernel), List.mem_of_getElem? (i := 335) (by decide +kernel), List.mem_of_getElem? (i := 336) (by decide +kernel)⟩
theorem lw_p6 : lw_okq (⟨"SourceTree$Scanner", "endWith", "(II)I"⟩, 4) := ⟨⟨by decide +kernel, by decide +kernel⟩, List.mem_of_getElem? (i := 197) (by decide +kernel), List.mem_of_getElem? (i := 347) (by decide +kernel), List.mem_of_getElem? (i := 348) (by decide +kernel)⟩
theorem lw_p7 : lw_okq (⟨"SourceTree$Scanner", "scanNumber", "(I)I"⟩, 4) := ⟨⟨by decide +kernel, by decide +kernel⟩, List.mem_of_getElem? (i := 197) (by decide +kernel), List.mem_of_getElem? (i := 351) (by decide +kernel), List.mem_of_getElem? (i := 352) (by decide +kernel)⟩
theorem lw_p8 : lw_okq (⟨"SourceTree$Scanner", "scanRow", "(I)I"⟩, 4) := ⟨⟨by decide +kernel, by decide +kernel⟩, List.mem_of_getElem? (i := 197) (by decide +kernel), List.mem_of_getElem? (i := 361) (by decide +kernel), List.mem_of_getElem? (i := 362) (by decide +kernel)⟩
theorem lw_p9 : lw_okq (⟨"SourceTree$Scanner", "scanMark", "(I)I"⟩, 4) := ⟨⟨by decide +kernel, by decide +kernel⟩, List.mem_of_getElem? (i := 197) (by decide +kernel), List.mem_of_getElem? (i := 427) (by decide +kernel), List.mem_of_getElem? (i := 428) (by decide +kernel)⟩
theorem lw_p10 : lw_okq (⟨"SourceTree$Grammar", "one", "(I)I"⟩, 12) := ⟨⟨by decide +kernel, by decide +kernel⟩, List.mem_of_getElem? (i := 216) (by decide +kernel), List.mem_of_getElem? (i := 436) (by decide +kernel), List.mem_of_getElem? (i := 437) (by decide +kernel)⟩
theorem lw_p11 : lw_okq (⟨"SourceTree$Grammar", "wholeFile", "()V"⟩, 12) := ⟨⟨by decide +kernel, by decide +kernel⟩, List.mem_of_getElem? (i := 216) (by decide +kernel), List.mem_of_getElem? (i := 440) (by decide +kernel), List.mem_of_getElem? (i := 441) (by decide +kernel)⟩
theorem lw_p12 : lw_okq (⟨"java/lang/Throwable", "fillInStackTrace", "(I)Ljava/lang/Throwable;"⟩, 6) := ⟨⟨by decide +kernel, by decide +kernel⟩, List.mem_of_getElem? (i := 503) (by decide +kernel), List.mem_of_getElem? (i := 501) (by decide +kernel), List.mem_of_getElem? (i := 502) (by decide +kernel)⟩
theorem lw_p13 : lw_okq (⟨"SourceTree$Grammar", "canBegin", "(I)Z"⟩, 12) := ⟨⟨by decide +kernel, by decide +kernel⟩, List.mem_of_getElem? (i := 216) (by decide +kernel), List.mem_of_getElem? (i := 533) (by decide +kernel), List.mem_of_getElem? (i := 534) (by decide +kernel)⟩
theorem lw_p14 : lw_okq (⟨"SourceTree$Grammar", "unitOrBody", "()V"⟩, 12) := ⟨⟨by decide +kernel, by decide +kernel⟩, List.mem_of_getElem? (i := 216) (by decide +kernel), List.mem_of_getElem? (i := 552) (by decide +kernel), List.mem_of_getElem? (i := 553) (by decide +kernel)⟩
theorem lw_p15 : lw_okq (⟨"SourceTree$Grammar", "body", "()V"⟩, 12) := ⟨⟨by decide +kernel, by decide +kernel⟩, List.mem_of_getElem? (i := 216) (by decide +kernel), List.mem_of_getElem? (i := 556) (by decide +kernel), List.mem_of_getElem? (i := 557) (by decide +kernel)⟩
def lw_privs_1 : List (MethodName × Nat) := [(⟨"SourceTree$Spellings", "addAll", "(Ljava/lang/String;)V"⟩, 5), (⟨"SourceTree$Spellings", "isLast", "(II)Z"⟩, 5), (⟨"SourceTree$Scanner", "behindBlanks", "(I)I"⟩, 4), (⟨"SourceTree$Scanner", "scanToken", "(I)I"⟩, 4), (⟨"SourceTree$Scanner", "scanName", "(I)I"⟩, 4), (⟨"SourceTree$Scanner", "goesOnName", "(I)Z"⟩, 4), (⟨"SourceTree$Scanner", "endWith", "(II)I"⟩, 4), (⟨"SourceTree$Scanner", "scanNumber", "(I)I"⟩, 4), (⟨"SourceTree$Scanner", "scanRow", "(I)I"⟩, 4), (⟨"SourceTree$Scanner", "scanMark", "(I)I"⟩, 4), (⟨"SourceTree$Grammar", "one", "(I)I"⟩, 12), (⟨"SourceTree$Grammar", "wholeFile", "()V"⟩, 12), (⟨"java/lang/Throwable", "fillInStackTrace", "(I)Ljava/lang/Throwable;"⟩, 6), (⟨"SourceTree$Grammar", "canBegin", "(I)Z"⟩, 12), (⟨"SourceTree$Grammar", "unitOrBody", "()V"⟩, 12), (⟨"SourceTree$Grammar", "body", "()V"⟩, 12)]
theorem lw_r1 : ∀ q ∈ lw_privs_1, lw_okq q := List.forall_mem_cons.mpr ⟨lw_p0, List.forall_mem_cons.mpr ⟨lw_p1, List.forall_mem_cons.mpr ⟨lw_p2, List.forall_mem_cons.mpr ⟨lw_p3, List.forall_mem_cons.mpr ⟨lw_p4, List.forall_mem_cons.mpr ⟨lw_p5, List.forall_mem_cons.mpr ⟨lw_p6, List.forall_mem_cons.mpr ⟨lw_p7, List.forall_mem_cons.mpr ⟨lw_p8, List.forall_mem_cons.mpr ⟨lw_p9, List.forall_mem_cons.mpr ⟨lw_p10, List.forall_mem_cons.mpr ⟨lw_p11, List.forall_mem_cons.mpr ⟨lw_p12, List.forall_mem_cons.mpr ⟨lw_p13, List.forall_mem_cons.mpr ⟨lw_p14, List.forall_mem_cons.mpr ⟨lw_p15, fun _ h => absurd h List.not_mem_nil⟩⟩⟩⟩⟩⟩⟩⟩⟩⟩⟩⟩⟩⟩⟩⟩
theorem lw_p16 : lw_okq (⟨"SourceTree$Grammar", "listOfAny", "(I)V"⟩, 12) := ⟨⟨by decide +kernel, by decide +kernel⟩, List.mem_of_getElem? (i := 216) (by decide +kernel), List.mem_of_getElem? (i := 572) (by decide +kernel), List.mem_of_getElem? (i := 573) (by decide +kernel)⟩
theorem lw_p17 : lw_okq (⟨"SourceTree$Grammar", "nameBehindEnd", "(I)V"⟩, 12) := ⟨⟨by decide +kernel, by decide +kernel⟩, List.mem_of_getElem? (i := 216) (by decide +kernel), List.mem_of_getElem? (i := 582) (by decide +kernel), List.mem_of_getElem? (i := 583) (by decide +kernel)⟩
theorem lw_p18 : lw_okq (⟨"SourceTree$Grammar", "unit", "()V"⟩, 12) := ⟨⟨by decide +kernel, by decide +kernel⟩, List.mem_of_getElem? (i := 216) (by decide +kernel), List.mem_of_getElem? (i := 590) (by decide +kernel), List.mem_of_getElem? (i := 591) (by decide +kernel)⟩
theorem lw_p19 : lw_okq (⟨"SourceTree$Grammar", "interfaceList", "(II)V"⟩, 12) := ⟨⟨by decide +kernel, by decide +kernel⟩, List.mem_of_getElem? (i := 216) (by decide +kernel), List.mem_of_getElem? (i := 594) (by decide +kernel), List.mem_of_getElem? (i := 595) (by decide +kernel)⟩
theorem lw_p20 : lw_okq (⟨"SourceTree$Grammar", "listOfSome", "(II)V"⟩, 12) := ⟨⟨by decide +kernel, by decide +kernel⟩, List.mem_of_getElem? (i := 216) (by decide +kernel), List.mem_of_getElem? (i := 598) (by decide +kernel), List.mem_of_getElem? (i := 599) (by decide +kernel)⟩
theorem lw_p21 : lw_okq (⟨"SourceTree$Grammar", "oneOrMore", "(II)I"⟩, 12) := ⟨⟨by decide +kernel, by decide +kernel⟩, List.mem_of_getElem? (i := 216) (by decide +kernel), List.mem_of_getElem? (i := 602) (by decide +kernel), List.mem_of_getElem? (i := 603) (by decide +kernel)⟩
theorem lw_p22 : lw_okq (⟨"SourceTree$Grammar", "emptyList", "()V"⟩, 12) := ⟨⟨by decide +kernel, by decide +kernel⟩, List.mem_of_getElem? (i := 216) (by decide +kernel), List.mem_of_getElem? (i := 606) (by decide +kernel), List.mem_of_getElem? (i := 607) (by decide +kernel)⟩
theorem lw_p23 : lw_okq (⟨"SourceTree$Grammar", "generic", "()I"⟩, 12) := ⟨⟨by decide +kernel, by decide +kernel⟩, List.mem_of_getElem? (i := 216) (by decide +kernel), List.mem_of_getElem? (i := 610) (by decide +kernel), List.mem_of_getElem? (i := 611) (by decide +kernel)⟩
theorem lw_p24 : lw_okq (⟨"SourceTree$Grammar", "declaredNames", "()V"⟩, 12) := ⟨⟨by decide +kernel, by decide +kernel⟩, List.mem_of_getElem? (i := 216) (by decide +kernel), List.mem_of_getElem? (i := 614) (by decide +kernel), List.mem_of_getElem? (i := 615) (by decide +kernel)⟩
theorem lw_p25 : lw_okq (⟨"SourceTree$Grammar", "type", "()V"⟩, 12) := ⟨⟨by decide +kernel, by decide +kernel⟩, List.mem_of_getElem? (i := 216) (by decide +kernel), List.mem_of_getElem? (i := 625) (by decide +kernel), List.mem_of_getElem? (i := 626) (by decide +kernel)⟩
theorem lw_p26 : lw_okq (⟨"SourceTree$Grammar", "expression", "()V"⟩, 12) := ⟨⟨by decide +kernel, by decide +kernel⟩, List.mem_of_getElem? (i := 216) (by decide +kernel), List.mem_of_getElem? (i := 629) (by decide +kernel), List.mem_of_getElem? (i := 630) (by decide +kernel)⟩
theorem lw_p27 : lw_okq (⟨"SourceTree$Grammar", "signInFront", "()V"⟩, 12) := ⟨⟨by decide +kernel, by decide +kernel⟩, List.mem_of_getElem? (i := 216) (by decide +kernel), List.mem_of_getElem? (i := 634) (by decide +kernel), List.mem_of_getElem? (i := 635) (by decide +kernel)⟩
theorem lw_p28 : lw_okq (⟨"SourceTree$Grammar", "factor", "()V"⟩, 12) := ⟨⟨by decide +kernel, by decide +kernel⟩, List.mem_of_getElem? (i := 216) (by decide +kernel), List.mem_of_getElem? (i := 638) (by decide +kernel), List.mem_of_getElem? (i := 639) (by decide +kernel)⟩
theorem lw_p29 : lw_okq (⟨"SourceTree$Grammar", "primary", "()V"⟩, 12) := ⟨⟨by decide +kernel, by decide +kernel⟩, List.mem_of_getElem? (i := 216) (by decide +kernel), List.mem_of_getElem? (i := 642) (by decide +kernel), List.mem_of_getElem? (i := 643) (by decide +kernel)⟩
theorem lw_p30 : lw_okq (⟨"SourceTree$Grammar", "rowOfSigns", "()V"⟩, 12) := ⟨⟨by decide +kernel, by decide +kernel⟩, List.mem_of_getElem? (i := 216) (by decide +kernel), List.mem_of_getElem? (i := 658) (by decide +kernel), List.mem_of_getElem? (i := 659) (by decide +kernel)⟩
theorem lw_p31 : lw_okq (⟨"SourceTree$Grammar", "behindName", "(IZ)V"⟩, 12) := ⟨⟨by decide +kernel, by decide +kernel⟩, List.mem_of_getElem? (i := 216) (by decide +kernel), List.mem_of_getElem? (i := 664) (by decide +kernel), List.mem_of_getElem? (i := 665) (by decide +kernel)⟩
def lw_privs_2 : List (MethodName × Nat) := [(⟨"SourceTree$Grammar", "listOfAny", "(I)V"⟩, 12), (⟨"SourceTree$Grammar", "nameBehindEnd", "(I)V"⟩, 12), (⟨"SourceTree$Grammar", "unit", "()V"⟩, 12), (⟨"SourceTree$Grammar", "interfaceList", "(II)V"⟩, 12), (⟨"SourceTree$Grammar", "listOfSome", "(II)V"⟩, 12), (⟨"SourceTree$Grammar", "oneOrMore", "(II)I"⟩, 12), (⟨"SourceTree$Grammar", "emptyList", "()V"⟩, 12), (⟨"SourceTree$Grammar", "generic", "()I"⟩, 12), (⟨"SourceTree$Grammar", "declaredNames", "()V"⟩, 12), (⟨"SourceTree$Grammar", "type", "()V"⟩, 12), (⟨"SourceTree$Grammar", "expression", "()V"⟩, 12), (⟨"SourceTree$Grammar", "signInFront", "()V"⟩, 12), (⟨"SourceTree$Grammar", "factor", "()V"⟩, 12), (⟨"SourceTree$Grammar", "primary", "()V"⟩, 12), (⟨"SourceTree$Grammar", "rowOfSigns", "()V"⟩, 12), (⟨"SourceTree$Grammar", "behindName", "(IZ)V"⟩, 12)]
theorem lw_r2 : ∀ q ∈ lw_privs_2, lw_okq q := List.forall_mem_cons.mpr ⟨lw_p16, List.forall_mem_cons.mpr ⟨lw_p17, List.forall_mem_cons.mpr ⟨lw_p18, List.forall_mem_cons.mpr ⟨lw_p19, List.forall_mem_cons.mpr ⟨lw_p20, List.forall_mem_cons.mpr ⟨lw_p21, List.forall_mem_cons.mpr ⟨lw_p22, List.forall_mem_cons.mpr ⟨lw_p23, List.forall_mem_cons.mpr ⟨lw_p24, List.forall_mem_cons.mpr ⟨lw_p25, List.forall_mem_cons.mpr ⟨lw_p26, List.forall_mem_cons.mpr ⟨lw_p27, List.forall_mem_cons.mpr ⟨lw_p28, List.forall_mem_cons.mpr ⟨lw_p29, List.forall_mem_cons.mpr ⟨lw_p30, List.forall_mem_cons.mpr ⟨lw_p31, fun _ h => absurd h List.not_mem_nil⟩⟩⟩⟩⟩⟩⟩⟩⟩⟩⟩⟩⟩⟩⟩⟩
theorem lw_p32 : lw_okq (⟨"SourceTree$Grammar", "operatorThatJoins", "(I)I"⟩, 12) := ⟨⟨by decide +kernel, by decide +kernel⟩, List.mem_of_getElem? (i := 216) (by decide +kernel), List.mem_of_getElem? (i := 668) (by decide +kernel), List.mem_of_getElem? (i := 669) (by decide +kernel)⟩
theorem lw_p33 : lw_okq (⟨"SourceTree$Grammar", "tellPending", "(II)V"⟩, 12) := ⟨⟨by decide +kernel, by decide +kernel⟩, List.mem_of_getElem? (i := 216) (by decide +kernel), List.mem_of_getElem? (i := 681) (by decide +kernel), List.mem_of_getElem? (i := 682) (by decide +kernel)⟩
theorem lw_p34 : lw_okq (⟨"SourceTree$Grammar", "takeDirection", "()Z"⟩, 12) := ⟨⟨by decide +kernel, by decide +kernel⟩, List.mem_of_getElem? (i := 216) (by decide +kernel), List.mem_of_getElem? (i := 685) (by decide +kernel), List.mem_of_getElem? (i := 686) (by decide +kernel)⟩
theorem lw_p35 : lw_okq (⟨"SourceTree$Grammar", "expressionBehind", "(I)V"⟩, 12) := ⟨⟨by decide +kernel, by decide +kernel⟩, List.mem_of_getElem? (i := 216) (by decide +kernel), List.mem_of_getElem? (i := 689) (by decide +kernel), List.mem_of_getElem? (i := 690) (by decide +kernel)⟩
theorem lw_p36 : lw_okq (⟨"SourceTree$Grammar", "tellDeclared", "(III)I"⟩, 12) := ⟨⟨by decide +kernel, by decide +kernel⟩, List.mem_of_getElem? (i := 216) (by decide +kernel), List.mem_of_getElem? (i := 700) (by decide +kernel), List.mem_of_getElem? (i := 701) (by decide +kernel)⟩
theorem lw_p37 : lw_okq (⟨"SourceTree$Grammar", "port", "()I"⟩, 12) := ⟨⟨by decide +kernel, by decide +kernel⟩, List.mem_of_getElem? (i := 216) (by decide +kernel), List.mem_of_getElem? (i := 710) (by decide +kernel), List.mem_of_getElem? (i := 711) (by decide +kernel)⟩
theorem lw_p38 : lw_okq (⟨"SourceTree$Grammar", "declaration", "()I"⟩, 12) := ⟨⟨by decide +kernel, by decide +kernel⟩, List.mem_of_getElem? (i := 216) (by decide +kernel), List.mem_of_getElem? (i := 714) (by decide +kernel), List.mem_of_getElem? (i := 715) (by decide +kernel)⟩
theorem lw_p39 : lw_okq (⟨"SourceTree$Grammar", "objects", "(I)I"⟩, 12) := ⟨⟨by decide +kernel, by decide +kernel⟩, List.mem_of_getElem? (i := 216) (by decide +kernel), List.mem_of_getElem? (i := 718) (by decide +kernel), List.mem_of_getElem? (i := 719) (by decide +kernel)⟩
theorem lw_p40 : lw_okq (⟨"SourceTree$Grammar", "typeDeclaration", "()V"⟩, 12) := ⟨⟨by decide +kernel, by decide +kernel⟩, List.mem_of_getElem? (i := 216) (by decide +kernel), List.mem_of_getElem? (i := 722) (by decide +kernel), List.mem_of_getElem? (i := 723) (by decide +kernel)⟩
theorem lw_p41 : lw_okq (⟨"SourceTree$Grammar", "subtypeDeclaration", "()V"⟩, 12) := ⟨⟨by decide +kernel, by decide +kernel⟩, List.mem_of_getElem? (i := 216) (by decide +kernel), List.mem_of_getElem? (i := 726) (by decide +kernel), List.mem_of_getElem? (i := 727) (by decide +kernel)⟩
theorem lw_p42 : lw_okq (⟨"SourceTree$Grammar", "concurrent", "()V"⟩, 12) := ⟨⟨by decide +kernel, by decide +kernel⟩, List.mem_of_getElem? (i := 216) (by decide +kernel), List.mem_of_getElem? (i := 730) (by decide +kernel), List.mem_of_getElem? (i := 731) (by decide +kernel)⟩
theorem lw_p43 : lw_okq (⟨"SourceTree$Grammar", "process", "(I)V"⟩, 12) := ⟨⟨by decide +kernel, by decide +kernel⟩, List.mem_of_getElem? (i := 216) (by decide +kernel), List.mem_of_getElem? (i := 734) (by decide +kernel), List.mem_of_getElem? (i := 735) (by decide +kernel)⟩
theorem lw_p44 : lw_okq (⟨"SourceTree$Grammar", "concurrentAssignment", "(I)V"⟩, 12) := ⟨⟨by decide +kernel, by decide +kernel⟩, List.mem_of_getElem? (i := 216) (by decide +kernel), List.mem_of_getElem? (i := 738) (by decide +kernel), List.mem_of_getElem? (i := 739) (by decide +kernel)⟩
theorem lw_p45 : lw_okq (⟨"SourceTree$Grammar", "mode", "()I"⟩, 12) := ⟨⟨by decide +kernel, by decide +kernel⟩, List.mem_of_getElem? (i := 216) (by decide +kernel), List.mem_of_getElem? (i := 742) (by decide +kernel), List.mem_of_getElem? (i := 743) (by decide +kernel)⟩
theorem lw_p46 : lw_okq (⟨"SourceTree$Grammar", "instance", "(I)V"⟩, 12) := ⟨⟨by decide +kernel, by decide +kernel⟩, List.mem_of_getElem? (i := 216) (by decide +kernel), List.mem_of_getElem? (i := 746) (by decide +kernel), List.mem_of_getElem? (i := 747) (by decide +kernel)⟩
theorem lw_p47 : lw_okq (⟨"SourceTree$Grammar", "mapList", "(I)V"⟩, 12) := ⟨⟨by decide +kernel, by decide +kernel⟩, List.mem_of_getElem? (i := 216) (by decide +kernel), List.mem_of_getElem? (i := 750) (by decide +kernel), List.mem_of_getElem? (i := 751) (by decide +kernel)⟩
def lw_privs_3 : List (MethodName × Nat) := [(⟨"SourceTree$Grammar", "operatorThatJoins", "(I)I"⟩, 12), (⟨"SourceTree$Grammar", "tellPending", "(II)V"⟩, 12), (⟨"SourceTree$Grammar", "takeDirection", "()Z"⟩, 12), (⟨"SourceTree$Grammar", "expressionBehind", "(I)V"⟩, 12), (⟨"SourceTree$Grammar", "tellDeclared", "(III)I"⟩, 12), (⟨"SourceTree$Grammar", "port", "()I"⟩, 12), (⟨"SourceTree$Grammar", "declaration", "()I"⟩, 12), (⟨"SourceTree$Grammar", "objects", "(I)I"⟩, 12), (⟨"SourceTree$Grammar", "typeDeclaration", "()V"⟩, 12), (⟨"SourceTree$Grammar", "subtypeDeclaration", "()V"⟩, 12), (⟨"SourceTree$Grammar", "concurrent", "()V"⟩, 12), (⟨"SourceTree$Grammar", "process", "(I)V"⟩, 12), (⟨"SourceTree$Grammar", "concurrentAssignment", "(I)V"⟩, 12), (⟨"SourceTree$Grammar", "mode", "()I"⟩, 12), (⟨"SourceTree$Grammar", "instance", "(I)V"⟩, 12), (⟨"SourceTree$Grammar", "mapList", "(I)V"⟩, 12)]
theorem lw_r3 : ∀ q ∈ lw_privs_3, lw_okq q := List.forall_mem_cons.mpr ⟨lw_p32, List.forall_mem_cons.mpr ⟨lw_p33, List.forall_mem_cons.mpr ⟨lw_p34, List.forall_mem_cons.mpr ⟨lw_p35, List.forall_mem_cons.mpr ⟨lw_p36, List.forall_mem_cons.mpr ⟨lw_p37, List.forall_mem_cons.mpr ⟨lw_p38, List.forall_mem_cons.mpr ⟨lw_p39, List.forall_mem_cons.mpr ⟨lw_p40, List.forall_mem_cons.mpr ⟨lw_p41, List.forall_mem_cons.mpr ⟨lw_p42, List.forall_mem_cons.mpr ⟨lw_p43, List.forall_mem_cons.mpr ⟨lw_p44, List.forall_mem_cons.mpr ⟨lw_p45, List.forall_mem_cons.mpr ⟨lw_p46, List.forall_mem_cons.mpr ⟨lw_p47, fun _ h => absurd h List.not_mem_nil⟩⟩⟩⟩⟩⟩⟩⟩⟩⟩⟩⟩⟩⟩⟩⟩
theorem lw_p48 : lw_okq (⟨"SourceTree$Grammar", "generate", "(I)V"⟩, 12) := ⟨⟨by decide +kernel, by decide +kernel⟩, List.mem_of_getElem? (i := 216) (by decide +kernel), List.mem_of_getElem? (i := 754) (by decide +kernel), List.mem_of_getElem? (i := 755) (by decide +kernel)⟩
theorem lw_p49 : lw_okq (⟨"SourceTree$Grammar", "map", "()V"⟩, 12) := ⟨⟨by decide +kernel, by decide +kernel⟩, List.mem_of_getElem? (i := 216) (by decide +kernel), List.mem_of_getElem? (i := 758) (by decide +kernel), List.mem_of_getElem? (i := 759) (by decide +kernel)⟩
theorem lw_p50 : lw_okq (⟨"SourceTree$Grammar", "statement", "()V"⟩, 12) := ⟨⟨by decide +kernel, by decide +kernel⟩, List.mem_of_getElem? (i := 216) (by decide +kernel), List.mem_of_getElem? (i := 762) (by decide +kernel), List.mem_of_getElem? (i := 763) (by decide +kernel)⟩
theorem lw_p51 : lw_okq (⟨"SourceTree$Grammar", "ifStatement", "()V"⟩, 12) := ⟨⟨by decide +kernel, by decide +kernel⟩, List.mem_of_getElem? (i := 216) (by decide +kernel), List.mem_of_getElem? (i := 766) (by decide +kernel), List.mem_of_getElem? (i := 767) (by decide +kernel)⟩
theorem lw_p52 : lw_okq (⟨"SourceTree$Grammar", "caseStatement", "()V"⟩, 12) := ⟨⟨by decide +kernel, by decide +kernel⟩, List.mem_of_getElem? (i := 216) (by decide +kernel), List.mem_of_getElem? (i := 770) (by decide +kernel), List.mem_of_getElem? (i := 771) (by decide +kernel)⟩
theorem lw_p53 : lw_okq (⟨"SourceTree$Grammar", "loopStatement", "()V"⟩, 12) := ⟨⟨by decide +kernel, by decide +kernel⟩, List.mem_of_getElem? (i := 216) (by decide +kernel), List.mem_of_getElem? (i := 774) (by decide +kernel), List.mem_of_getElem? (i := 775) (by decide +kernel)⟩
theorem lw_p54 : lw_okq (⟨"SourceTree$Grammar", "leaveOrRepeat", "(I)V"⟩, 12) := ⟨⟨by decide +kernel, by decide +kernel⟩, List.mem_of_getElem? (i := 216) (by decide +kernel), List.mem_of_getElem? (i := 778) (by decide +kernel), List.mem_of_getElem? (i := 779) (by decide +kernel)⟩
theorem lw_p55 : lw_okq (⟨"SourceTree$Grammar", "waitStatement", "()V"⟩, 12) := ⟨⟨by decide +kernel, by decide +kernel⟩, List.mem_of_getElem? (i := 216) (by decide +kernel), List.mem_of_getElem? (i := 782) (by decide +kernel), List.mem_of_getElem? (i := 783) (by decide +kernel)⟩
theorem lw_p56 : lw_okq (⟨"SourceTree$Grammar", "timeBehind", "(I)V"⟩, 12) := ⟨⟨by decide +kernel, by decide +kernel⟩, List.mem_of_getElem? (i := 216) (by decide +kernel), List.mem_of_getElem? (i := 786) (by decide +kernel), List.mem_of_getElem? (i := 787) (by decide +kernel)⟩
theorem lw_p57 : lw_okq (⟨"SourceTree$Grammar", "reportStatement", "()V"⟩, 12) := ⟨⟨by decide +kernel, by decide +kernel⟩, List.mem_of_getElem? (i := 216) (by decide +kernel), List.mem_of_getElem? (i := 790) (by decide +kernel), List.mem_of_getElem? (i := 791) (by decide +kernel)⟩
theorem lw_p58 : lw_okq (⟨"SourceTree$Grammar", "assignment", "()V"⟩, 12) := ⟨⟨by decide +kernel, by decide +kernel⟩, List.mem_of_getElem? (i := 216) (by decide +kernel), List.mem_of_getElem? (i := 794) (by decide +kernel), List.mem_of_getElem? (i := 795) (by decide +kernel)⟩
theorem lw_p59 : lw_okq (⟨"SourceTree$Grammar", "element", "()V"⟩, 12) := ⟨⟨by decide +kernel, by decide +kernel⟩, List.mem_of_getElem? (i := 216) (by decide +kernel), List.mem_of_getElem? (i := 798) (by decide +kernel), List.mem_of_getElem? (i := 799) (by decide +kernel)⟩
theorem lw_p60 : lw_okq (⟨"SourceTree$Grammar", "time", "()V"⟩, 12) := ⟨⟨by decide +kernel, by decide +kernel⟩, List.mem_of_getElem? (i := 216) (by decide +kernel), List.mem_of_getElem? (i := 802) (by decide +kernel), List.mem_of_getElem? (i := 803) (by decide +kernel)⟩
theorem lw_p61 : lw_okq (⟨"SourceTree$Grammar", "choice", "()V"⟩, 12) := ⟨⟨by decide +kernel, by decide +kernel⟩, List.mem_of_getElem? (i := 216) (by decide +kernel), List.mem_of_getElem? (i := 806) (by decide +kernel), List.mem_of_getElem? (i := 807) (by decide +kernel)⟩
theorem lw_p62 : lw_okq (⟨"SourceTree", "addFour", "(I)V"⟩, 6) := ⟨⟨by decide +kernel, by decide +kernel⟩, List.mem_of_getElem? (i := 24) (by decide +kernel), List.mem_of_getElem? (i := 835) (by decide +kernel), List.mem_of_getElem? (i := 836) (by decide +kernel)⟩
theorem lw_p63 : lw_okq (⟨"SourceTreeModel", "firstNames", "()V"⟩, 20) := ⟨⟨by decide +kernel, by decide +kernel⟩, List.mem_of_getElem? (i := 903) (by decide +kernel), List.mem_of_getElem? (i := 909) (by decide +kernel), List.mem_of_getElem? (i := 910) (by decide +kernel)⟩
def lw_privs_4 : List (MethodName × Nat) := [(⟨"SourceTree$Grammar", "generate", "(I)V"⟩, 12), (⟨"SourceTree$Grammar", "map", "()V"⟩, 12), (⟨"SourceTree$Grammar", "statement", "()V"⟩, 12), (⟨"SourceTree$Grammar", "ifStatement", "()V"⟩, 12), (⟨"SourceTree$Grammar", "caseStatement", "()V"⟩, 12), (⟨"SourceTree$Grammar", "loopStatement", "()V"⟩, 12), (⟨"SourceTree$Grammar", "leaveOrRepeat", "(I)V"⟩, 12), (⟨"SourceTree$Grammar", "waitStatement", "()V"⟩, 12), (⟨"SourceTree$Grammar", "timeBehind", "(I)V"⟩, 12), (⟨"SourceTree$Grammar", "reportStatement", "()V"⟩, 12), (⟨"SourceTree$Grammar", "assignment", "()V"⟩, 12), (⟨"SourceTree$Grammar", "element", "()V"⟩, 12), (⟨"SourceTree$Grammar", "time", "()V"⟩, 12), (⟨"SourceTree$Grammar", "choice", "()V"⟩, 12), (⟨"SourceTree", "addFour", "(I)V"⟩, 6), (⟨"SourceTreeModel", "firstNames", "()V"⟩, 20)]
theorem lw_r4 : ∀ q ∈ lw_privs_4, lw_okq q := List.forall_mem_cons.mpr ⟨lw_p48, List.forall_mem_cons.mpr ⟨lw_p49, List.forall_mem_cons.mpr ⟨lw_p50, List.forall_mem_cons.mpr ⟨lw_p51, List.forall_mem_cons.mpr ⟨lw_p52, List.forall_mem_cons.mpr ⟨lw_p53, List.forall_mem_cons.mpr ⟨lw_p54, List.forall_mem_cons.mpr ⟨lw_p55, List.forall_mem_cons.mpr ⟨lw_p56, List.forall_mem_cons.mpr ⟨lw_p57, List.forall_mem_cons.mpr ⟨lw_p58, List.forall_mem_cons.mpr ⟨lw_p59, List.forall_mem_cons.mpr ⟨lw_p60, List.forall_mem_cons.mpr ⟨lw_p61, List.forall_mem_cons.mpr ⟨lw_p62, List.forall_mem_cons.mpr ⟨lw_p63, fun _ h => absurd h List.not_mem_nil⟩⟩⟩⟩⟩⟩⟩⟩⟩⟩⟩⟩⟩⟩⟩⟩
theorem lw_p64 : lw_okq (⟨"SourceTreeModel", "cutUp", "()V"⟩, 20) := ⟨⟨by decide +kernel, by decide +kernel⟩, List.mem_of_getElem? (i := 903) (by decide +kernel), List.mem_of_getElem? (i := 993) (by decide +kernel), List.mem_of_getElem? (i := 994) (by decide +kernel)⟩
theorem lw_p65 : lw_okq (⟨"SourceTreeModel", "skip", "(I)I"⟩, 20) := ⟨⟨by decide +kernel, by decide +kernel⟩, List.mem_of_getElem? (i := 903) (by decide +kernel), List.mem_of_getElem? (i := 997) (by decide +kernel), List.mem_of_getElem? (i := 998) (by decide +kernel)⟩
theorem lw_p66 : lw_okq (⟨"SourceTreeModel", "at", "(I)I"⟩, 20) := ⟨⟨by decide +kernel, by decide +kernel⟩, List.mem_of_getElem? (i := 903) (by decide +kernel), List.mem_of_getElem? (i := 1001) (by decide +kernel), List.mem_of_getElem? (i := 1002) (by decide +kernel)⟩
theorem lw_p67 : lw_okq (⟨"SourceTreeModel", "wordOf", "(II)I"⟩, 20) := ⟨⟨by decide +kernel, by decide +kernel⟩, List.mem_of_getElem? (i := 903) (by decide +kernel), List.mem_of_getElem? (i := 1011) (by decide +kernel), List.mem_of_getElem? (i := 1012) (by decide +kernel)⟩
theorem lw_p68 : lw_okq (⟨"SourceTreeModel", "letterAt", "(I)I"⟩, 20) := ⟨⟨by decide +kernel, by decide +kernel⟩, List.mem_of_getElem? (i := 903) (by decide +kernel), List.mem_of_getElem? (i := 1016) (by decide +kernel), List.mem_of_getElem? (i := 1017) (by decide +kernel)⟩
theorem lw_p69 : lw_okq (⟨"SourceTreeModel", "nameOf", "(II)I"⟩, 20) := ⟨⟨by decide +kernel, by decide +kernel⟩, List.mem_of_getElem? (i := 903) (by decide +kernel), List.mem_of_getElem? (i := 1020) (by decide +kernel), List.mem_of_getElem? (i := 1021) (by decide +kernel)⟩
theorem lw_p70 : lw_okq (⟨"SourceTreeModel", "token", "(III)V"⟩, 20) := ⟨⟨by decide +kernel, by decide +kernel⟩, List.mem_of_getElem? (i := 903) (by decide +kernel), List.mem_of_getElem? (i := 1024) (by decide +kernel), List.mem_of_getElem? (i := 1025) (by decide +kernel)⟩
theorem lw_p71 : lw_okq (⟨"SourceTreeModel", "stop", "(I)V"⟩, 20) := ⟨⟨by decide +kernel, by decide +kernel⟩, List.mem_of_getElem? (i := 903) (by decide +kernel), List.mem_of_getElem? (i := 1040) (by decide +kernel), List.mem_of_getElem? (i := 1041) (by decide +kernel)⟩
theorem lw_p72 : lw_okq (⟨"SourceTreeModel", "isWord", "(Ljava/lang/String;)Z"⟩, 20) := ⟨⟨by decide +kernel, by decide +kernel⟩, List.mem_of_getElem? (i := 903) (by decide +kernel), List.mem_of_getElem? (i := 1045) (by decide +kernel), List.mem_of_getElem? (i := 1046) (by decide +kernel)⟩
theorem lw_p73 : lw_okq (⟨"SourceTreeModel", "kind", "()I"⟩, 20) := ⟨⟨by decide +kernel, by decide +kernel⟩, List.mem_of_getElem? (i := 903) (by decide +kernel), List.mem_of_getElem? (i := 1049) (by decide +kernel), List.mem_of_getElem? (i := 1050) (by decide +kernel)⟩
theorem lw_p74 : lw_okq (⟨"SourceTreeModel", "unit", "()V"⟩, 20) := ⟨⟨by decide +kernel, by decide +kernel⟩, List.mem_of_getElem? (i := 903) (by decide +kernel), List.mem_of_getElem? (i := 1056) (by decide +kernel), List.mem_of_getElem? (i := 1057) (by decide +kernel)⟩
theorem lw_p75 : lw_okq (⟨"SourceTreeModel", "on", "()V"⟩, 20) := ⟨⟨by decide +kernel, by decide +kernel⟩, List.mem_of_getElem? (i := 903) (by decide +kernel), List.mem_of_getElem? (i := 1060) (by decide +kernel), List.mem_of_getElem? (i := 1061) (by decide +kernel)⟩
theorem lw_p76 : lw_okq (⟨"SourceTreeModel", "aName", "()I"⟩, 20) := ⟨⟨by decide +kernel, by decide +kernel⟩, List.mem_of_getElem? (i := 903) (by decide +kernel), List.mem_of_getElem? (i := 1064) (by decide +kernel), List.mem_of_getElem? (i := 1065) (by decide +kernel)⟩
theorem lw_p77 : lw_okq (⟨"SourceTreeModel", "word", "(Ljava/lang/String;)V"⟩, 20) := ⟨⟨by decide +kernel, by decide +kernel⟩, List.mem_of_getElem? (i := 903) (by decide +kernel), List.mem_of_getElem? (i := 1069) (by decide +kernel), List.mem_of_getElem? (i := 1070) (by decide +kernel)⟩
theorem lw_p78 : lw_okq (⟨"SourceTreeModel", "takes", "(Ljava/lang/String;)Z"⟩, 20) := ⟨⟨by decide +kernel, by decide +kernel⟩, List.mem_of_getElem? (i := 903) (by decide +kernel), List.mem_of_getElem? (i := 1073) (by decide +kernel), List.mem_of_getElem? (i := 1074) (by decide +kernel)⟩
theorem lw_p79 : lw_okq (⟨"SourceTreeModel", "must", "(Z)V"⟩, 20) := ⟨⟨by decide +kernel, by decide +kernel⟩, List.mem_of_getElem? (i := 903) (by decide +kernel), List.mem_of_getElem? (i := 1077) (by decide +kernel), List.mem_of_getElem? (i := 1078) (by decide +kernel)⟩
def lw_privs_5 : List (MethodName × Nat) := [(⟨"SourceTreeModel", "cutUp", "()V"⟩, 20), (⟨"SourceTreeModel", "skip", "(I)I"⟩, 20), (⟨"SourceTreeModel", "at", "(I)I"⟩, 20), (⟨"SourceTreeModel", "wordOf", "(II)I"⟩, 20), (⟨"SourceTreeModel", "letterAt", "(I)I"⟩, 20), (⟨"SourceTreeModel", "nameOf", "(II)I"⟩, 20), (⟨"SourceTreeModel", "token", "(III)V"⟩, 20), (⟨"SourceTreeModel", "stop", "(I)V"⟩, 20), (⟨"SourceTreeModel", "isWord", "(Ljava/lang/String;)Z"⟩, 20), (⟨"SourceTreeModel", "kind", "()I"⟩, 20), (⟨"SourceTreeModel", "unit", "()V"⟩, 20), (⟨"SourceTreeModel", "on", "()V"⟩, 20), (⟨"SourceTreeModel", "aName", "()I"⟩, 20), (⟨"SourceTreeModel", "word", "(Ljava/lang/String;)V"⟩, 20), (⟨"SourceTreeModel", "takes", "(Ljava/lang/String;)Z"⟩, 20), (⟨"SourceTreeModel", "must", "(Z)V"⟩, 20)]
theorem lw_r5 : ∀ q ∈ lw_privs_5, lw_okq q := List.forall_mem_cons.mpr ⟨lw_p64, List.forall_mem_cons.mpr ⟨lw_p65, List.forall_mem_cons.mpr ⟨lw_p66, List.forall_mem_cons.mpr ⟨lw_p67, List.forall_mem_cons.mpr ⟨lw_p68, List.forall_mem_cons.mpr ⟨lw_p69, List.forall_mem_cons.mpr ⟨lw_p70, List.forall_mem_cons.mpr ⟨lw_p71, List.forall_mem_cons.mpr ⟨lw_p72, List.forall_mem_cons.mpr ⟨lw_p73, List.forall_mem_cons.mpr ⟨lw_p74, List.forall_mem_cons.mpr ⟨lw_p75, List.forall_mem_cons.mpr ⟨lw_p76, List.forall_mem_cons.mpr ⟨lw_p77, List.forall_mem_cons.mpr ⟨lw_p78, List.forall_mem_cons.mpr ⟨lw_p79, fun _ h => absurd h List.not_mem_nil⟩⟩⟩⟩⟩⟩⟩⟩⟩⟩⟩⟩⟩⟩⟩⟩
theorem lw_p80 : lw_okq (⟨"SourceTreeModel", "lists", "(Ljava/lang/String;I)V"⟩, 20) := ⟨⟨by decide +kernel, by decide +kernel⟩, List.mem_of_getElem? (i := 903) (by decide +kernel), List.mem_of_getElem? (i := 1082) (by decide +kernel), List.mem_of_getElem? (i := 1083) (by decide +kernel)⟩
theorem lw_p81 : lw_okq (⟨"SourceTreeModel", "sign", "(I)V"⟩, 20) := ⟨⟨by decide +kernel, by decide +kernel⟩, List.mem_of_getElem? (i := 903) (by decide +kernel), List.mem_of_getElem? (i := 1086) (by decide +kernel), List.mem_of_getElem? (i := 1087) (by decide +kernel)⟩
theorem lw_p82 : lw_okq (⟨"SourceTreeModel", "takesMark", "(I)Z"⟩, 20) := ⟨⟨by decide +kernel, by decide +kernel⟩, List.mem_of_getElem? (i := 903) (by decide +kernel), List.mem_of_getElem? (i := 1090) (by decide +kernel), List.mem_of_getElem? (i := 1091) (by decide +kernel)⟩
theorem lw_p83 : lw_okq (⟨"SourceTreeModel", "isMark", "(I)Z"⟩, 20) := ⟨⟨by decide +kernel, by decide +kernel⟩, List.mem_of_getElem? (i := 903) (by decide +kernel), List.mem_of_getElem? (i := 1094) (by decide +kernel), List.mem_of_getElem? (i := 1095) (by decide +kernel)⟩
theorem lw_p84 : lw_okq (⟨"SourceTreeModel", "several", "(I)I"⟩, 20) := ⟨⟨by decide +kernel, by decide +kernel⟩, List.mem_of_getElem? (i := 903) (by decide +kernel), List.mem_of_getElem? (i := 1098) (by decide +kernel), List.mem_of_getElem? (i := 1099) (by decide +kernel)⟩
theorem lw_p85 : lw_okq (⟨"SourceTreeModel", "groupNames", "()V"⟩, 20) := ⟨⟨by decide +kernel, by decide +kernel⟩, List.mem_of_getElem? (i := 903) (by decide +kernel), List.mem_of_getElem? (i := 1102) (by decide +kernel), List.mem_of_getElem? (i := 1103) (by decide +kernel)⟩
theorem lw_p86 : lw_okq (⟨"SourceTreeModel", "lay", "(III)V"⟩, 20) := ⟨⟨by decide +kernel, by decide +kernel⟩, List.mem_of_getElem? (i := 903) (by decide +kernel), List.mem_of_getElem? (i := 1109) (by decide +kernel), List.mem_of_getElem? (i := 1110) (by decide +kernel)⟩
theorem lw_p87 : lw_okq (⟨"SourceTreeModel", "type", "()V"⟩, 20) := ⟨⟨by decide +kernel, by decide +kernel⟩, List.mem_of_getElem? (i := 903) (by decide +kernel), List.mem_of_getElem? (i := 1113) (by decide +kernel), List.mem_of_getElem? (i := 1114) (by decide +kernel)⟩
theorem lw_p88 : lw_okq (⟨"SourceTreeModel", "expression", "()V"⟩, 20) := ⟨⟨by decide +kernel, by decide +kernel⟩, List.mem_of_getElem? (i := 903) (by decide +kernel), List.mem_of_getElem? (i := 1118) (by decide +kernel), List.mem_of_getElem? (i := 1119) (by decide +kernel)⟩
theorem lw_p89 : lw_okq (⟨"SourceTreeModel", "relation", "()V"⟩, 20) := ⟨⟨by decide +kernel, by decide +kernel⟩, List.mem_of_getElem? (i := 903) (by decide +kernel), List.mem_of_getElem? (i := 1122) (by decide +kernel), List.mem_of_getElem? (i := 1123) (by decide +kernel)⟩
theorem lw_p90 : lw_okq (⟨"SourceTreeModel", "shift", "()V"⟩, 20) := ⟨⟨by decide +kernel, by decide +kernel⟩, List.mem_of_getElem? (i := 903) (by decide +kernel), List.mem_of_getElem? (i := 1126) (by decide +kernel), List.mem_of_getElem? (i := 1127) (by decide +kernel)⟩
theorem lw_p91 : lw_okq (⟨"SourceTreeModel", "sum", "()V"⟩, 20) := ⟨⟨by decide +kernel, by decide +kernel⟩, List.mem_of_getElem? (i := 903) (by decide +kernel), List.mem_of_getElem? (i := 1130) (by decide +kernel), List.mem_of_getElem? (i := 1131) (by decide +kernel)⟩
theorem lw_p92 : lw_okq (⟨"SourceTreeModel", "term", "()V"⟩, 20) := ⟨⟨by decide +kernel, by decide +kernel⟩, List.mem_of_getElem? (i := 903) (by decide +kernel), List.mem_of_getElem? (i := 1134) (by decide +kernel), List.mem_of_getElem? (i := 1135) (by decide +kernel)⟩
theorem lw_p93 : lw_okq (⟨"SourceTreeModel", "factor", "()V"⟩, 20) := ⟨⟨by decide +kernel, by decide +kernel⟩, List.mem_of_getElem? (i := 903) (by decide +kernel), List.mem_of_getElem? (i := 1138) (by decide +kernel), List.mem_of_getElem? (i := 1139) (by decide +kernel)⟩
theorem lw_p94 : lw_okq (⟨"SourceTreeModel", "primary", "()V"⟩, 20) := ⟨⟨by decide +kernel, by decide +kernel⟩, List.mem_of_getElem? (i := 903) (by decide +kernel), List.mem_of_getElem? (i := 1144) (by decide +kernel), List.mem_of_getElem? (i := 1145) (by decide +kernel)⟩
theorem lw_p95 : lw_okq (⟨"SourceTreeModel", "opens", "()V"⟩, 20) := ⟨⟨by decide +kernel, by decide +kernel⟩, List.mem_of_getElem? (i := 903) (by decide +kernel), List.mem_of_getElem? (i := 1148) (by decide +kernel), List.mem_of_getElem? (i := 1149) (by decide +kernel)⟩
def lw_privs_6 : List (MethodName × Nat) := [(⟨"SourceTreeModel", "lists", "(Ljava/lang/String;I)V"⟩, 20), (⟨"SourceTreeModel", "sign", "(I)V"⟩, 20), (⟨"SourceTreeModel", "takesMark", "(I)Z"⟩, 20), (⟨"SourceTreeModel", "isMark", "(I)Z"⟩, 20), (⟨"SourceTreeModel", "several", "(I)I"⟩, 20), (⟨"SourceTreeModel", "groupNames", "()V"⟩, 20), (⟨"SourceTreeModel", "lay", "(III)V"⟩, 20), (⟨"SourceTreeModel", "type", "()V"⟩, 20), (⟨"SourceTreeModel", "expression", "()V"⟩, 20), (⟨"SourceTreeModel", "relation", "()V"⟩, 20), (⟨"SourceTreeModel", "shift", "()V"⟩, 20), (⟨"SourceTreeModel", "sum", "()V"⟩, 20), (⟨"SourceTreeModel", "term", "()V"⟩, 20), (⟨"SourceTreeModel", "factor", "()V"⟩, 20), (⟨"SourceTreeModel", "primary", "()V"⟩, 20), (⟨"SourceTreeModel", "opens", "()V"⟩, 20)]
theorem lw_r6 : ∀ q ∈ lw_privs_6, lw_okq q := List.forall_mem_cons.mpr ⟨lw_p80, List.forall_mem_cons.mpr ⟨lw_p81, List.forall_mem_cons.mpr ⟨lw_p82, List.forall_mem_cons.mpr ⟨lw_p83, List.forall_mem_cons.mpr ⟨lw_p84, List.forall_mem_cons.mpr ⟨lw_p85, List.forall_mem_cons.mpr ⟨lw_p86, List.forall_mem_cons.mpr ⟨lw_p87, List.forall_mem_cons.mpr ⟨lw_p88, List.forall_mem_cons.mpr ⟨lw_p89, List.forall_mem_cons.mpr ⟨lw_p90, List.forall_mem_cons.mpr ⟨lw_p91, List.forall_mem_cons.mpr ⟨lw_p92, List.forall_mem_cons.mpr ⟨lw_p93, List.forall_mem_cons.mpr ⟨lw_p94, List.forall_mem_cons.mpr ⟨lw_p95, fun _ h => absurd h List.not_mem_nil⟩⟩⟩⟩⟩⟩⟩⟩⟩⟩⟩⟩⟩⟩⟩⟩
theorem lw_p96 : lw_okq (⟨"SourceTreeModel", "closes", "(I)V"⟩, 20) := ⟨⟨by decide +kernel, by decide +kernel⟩, List.mem_of_getElem? (i := 903) (by decide +kernel), List.mem_of_getElem? (i := 1152) (by decide +kernel), List.mem_of_getElem? (i := 1153) (by decide +kernel)⟩
theorem lw_p97 : lw_okq (⟨"SourceTreeModel", "behind", "(I)V"⟩, 20) := ⟨⟨by decide +kernel, by decide +kernel⟩, List.mem_of_getElem? (i := 903) (by decide +kernel), List.mem_of_getElem? (i := 1156) (by decide +kernel), List.mem_of_getElem? (i := 1157) (by decide +kernel)⟩
theorem lw_p98 : lw_okq (⟨"SourceTreeModel", "nameNode", "()V"⟩, 20) := ⟨⟨by decide +kernel, by decide +kernel⟩, List.mem_of_getElem? (i := 903) (by decide +kernel), List.mem_of_getElem? (i := 1160) (by decide +kernel), List.mem_of_getElem? (i := 1161) (by decide +kernel)⟩
theorem lw_p99 : lw_okq (⟨"SourceTreeModel", "termSign", "()I"⟩, 20) := ⟨⟨by decide +kernel, by decide +kernel⟩, List.mem_of_getElem? (i := 903) (by decide +kernel), List.mem_of_getElem? (i := 1166) (by decide +kernel), List.mem_of_getElem? (i := 1167) (by decide +kernel)⟩
theorem lw_p100 : lw_okq (⟨"SourceTreeModel", "sumSign", "()I"⟩, 20) := ⟨⟨by decide +kernel, by decide +kernel⟩, List.mem_of_getElem? (i := 903) (by decide +kernel), List.mem_of_getElem? (i := 1172) (by decide +kernel), List.mem_of_getElem? (i := 1173) (by decide +kernel)⟩
theorem lw_p101 : lw_okq (⟨"SourceTreeModel", "isTwo", "(I)Z"⟩, 20) := ⟨⟨by decide +kernel, by decide +kernel⟩, List.mem_of_getElem? (i := 903) (by decide +kernel), List.mem_of_getElem? (i := 1178) (by decide +kernel), List.mem_of_getElem? (i := 1179) (by decide +kernel)⟩
theorem lw_p102 : lw_okq (⟨"SourceTreeModel", "takesTwo", "(I)Z"⟩, 20) := ⟨⟨by decide +kernel, by decide +kernel⟩, List.mem_of_getElem? (i := 903) (by decide +kernel), List.mem_of_getElem? (i := 1188) (by decide +kernel), List.mem_of_getElem? (i := 1189) (by decide +kernel)⟩
theorem lw_p103 : lw_okq (⟨"SourceTreeModel", "again", "(III)I"⟩, 20) := ⟨⟨by decide +kernel, by decide +kernel⟩, List.mem_of_getElem? (i := 903) (by decide +kernel), List.mem_of_getElem? (i := 1192) (by decide +kernel), List.mem_of_getElem? (i := 1193) (by decide +kernel)⟩
theorem lw_p104 : lw_okq (⟨"SourceTreeModel", "ownName", "(I)V"⟩, 20) := ⟨⟨by decide +kernel, by decide +kernel⟩, List.mem_of_getElem? (i := 903) (by decide +kernel), List.mem_of_getElem? (i := 1198) (by decide +kernel), List.mem_of_getElem? (i := 1199) (by decide +kernel)⟩
theorem lw_p105 : lw_okq (⟨"SourceTreeModel", "body", "()V"⟩, 20) := ⟨⟨by decide +kernel, by decide +kernel⟩, List.mem_of_getElem? (i := 903) (by decide +kernel), List.mem_of_getElem? (i := 1203) (by decide +kernel), List.mem_of_getElem? (i := 1204) (by decide +kernel)⟩
theorem lw_p106 : lw_okq (⟨"SourceTreeModel", "declarations", "(Z)V"⟩, 20) := ⟨⟨by decide +kernel, by decide +kernel⟩, List.mem_of_getElem? (i := 903) (by decide +kernel), List.mem_of_getElem? (i := 1208) (by decide +kernel), List.mem_of_getElem? (i := 1209) (by decide +kernel)⟩
theorem lw_p107 : lw_okq (⟨"SourceTreeModel", "objects", "(I)I"⟩, 20) := ⟨⟨by decide +kernel, by decide +kernel⟩, List.mem_of_getElem? (i := 903) (by decide +kernel), List.mem_of_getElem? (i := 1213) (by decide +kernel), List.mem_of_getElem? (i := 1214) (by decide +kernel)⟩
theorem lw_p108 : lw_okq (⟨"SourceTreeModel", "enumeration", "()I"⟩, 20) := ⟨⟨by decide +kernel, by decide +kernel⟩, List.mem_of_getElem? (i := 903) (by decide +kernel), List.mem_of_getElem? (i := 1220) (by decide +kernel), List.mem_of_getElem? (i := 1221) (by decide +kernel)⟩
theorem lw_p109 : lw_okq (⟨"SourceTreeModel", "subtype", "()I"⟩, 20) := ⟨⟨by decide +kernel, by decide +kernel⟩, List.mem_of_getElem? (i := 903) (by decide +kernel), List.mem_of_getElem? (i := 1225) (by decide +kernel), List.mem_of_getElem? (i := 1226) (by decide +kernel)⟩
theorem lw_p110 : lw_okq (⟨"SourceTreeModel", "concurrents", "()V"⟩, 20) := ⟨⟨by decide +kernel, by decide +kernel⟩, List.mem_of_getElem? (i := 903) (by decide +kernel), List.mem_of_getElem? (i := 1230) (by decide +kernel), List.mem_of_getElem? (i := 1231) (by decide +kernel)⟩
theorem lw_p111 : lw_okq (⟨"SourceTreeModel", "concurrent", "()V"⟩, 20) := ⟨⟨by decide +kernel, by decide +kernel⟩, List.mem_of_getElem? (i := 903) (by decide +kernel), List.mem_of_getElem? (i := 1235) (by decide +kernel), List.mem_of_getElem? (i := 1236) (by decide +kernel)⟩
def lw_privs_7 : List (MethodName × Nat) := [(⟨"SourceTreeModel", "closes", "(I)V"⟩, 20), (⟨"SourceTreeModel", "behind", "(I)V"⟩, 20), (⟨"SourceTreeModel", "nameNode", "()V"⟩, 20), (⟨"SourceTreeModel", "termSign", "()I"⟩, 20), (⟨"SourceTreeModel", "sumSign", "()I"⟩, 20), (⟨"SourceTreeModel", "isTwo", "(I)Z"⟩, 20), (⟨"SourceTreeModel", "takesTwo", "(I)Z"⟩, 20), (⟨"SourceTreeModel", "again", "(III)I"⟩, 20), (⟨"SourceTreeModel", "ownName", "(I)V"⟩, 20), (⟨"SourceTreeModel", "body", "()V"⟩, 20), (⟨"SourceTreeModel", "declarations", "(Z)V"⟩, 20), (⟨"SourceTreeModel", "objects", "(I)I"⟩, 20), (⟨"SourceTreeModel", "enumeration", "()I"⟩, 20), (⟨"SourceTreeModel", "subtype", "()I"⟩, 20), (⟨"SourceTreeModel", "concurrents", "()V"⟩, 20), (⟨"SourceTreeModel", "concurrent", "()V"⟩, 20)]
theorem lw_r7 : ∀ q ∈ lw_privs_7, lw_okq q := List.forall_mem_cons.mpr ⟨lw_p96, List.forall_mem_cons.mpr ⟨lw_p97, List.forall_mem_cons.mpr ⟨lw_p98, List.forall_mem_cons.mpr ⟨lw_p99, List.forall_mem_cons.mpr ⟨lw_p100, List.forall_mem_cons.mpr ⟨lw_p101, List.forall_mem_cons.mpr ⟨lw_p102, List.forall_mem_cons.mpr ⟨lw_p103, List.forall_mem_cons.mpr ⟨lw_p104, List.forall_mem_cons.mpr ⟨lw_p105, List.forall_mem_cons.mpr ⟨lw_p106, List.forall_mem_cons.mpr ⟨lw_p107, List.forall_mem_cons.mpr ⟨lw_p108, List.forall_mem_cons.mpr ⟨lw_p109, List.forall_mem_cons.mpr ⟨lw_p110, List.forall_mem_cons.mpr ⟨lw_p111, fun _ h => absurd h List.not_mem_nil⟩⟩⟩⟩⟩⟩⟩⟩⟩⟩⟩⟩⟩⟩⟩⟩
theorem lw_p112 : lw_okq (⟨"SourceTreeModel", "process", "(I)V"⟩, 20) := ⟨⟨by decide +kernel, by decide +kernel⟩, List.mem_of_getElem? (i := 903) (by decide +kernel), List.mem_of_getElem? (i := 1239) (by decide +kernel), List.mem_of_getElem? (i := 1240) (by decide +kernel)⟩
theorem lw_p113 : lw_okq (⟨"SourceTreeModel", "nameNodes", "()I"⟩, 20) := ⟨⟨by decide +kernel, by decide +kernel⟩, List.mem_of_getElem? (i := 903) (by decide +kernel), List.mem_of_getElem? (i := 1243) (by decide +kernel), List.mem_of_getElem? (i := 1244) (by decide +kernel)⟩
theorem lw_p114 : lw_okq (⟨"SourceTreeModel", "statements", "()V"⟩, 20) := ⟨⟨by decide +kernel, by decide +kernel⟩, List.mem_of_getElem? (i := 903) (by decide +kernel), List.mem_of_getElem? (i := 1247) (by decide +kernel), List.mem_of_getElem? (i := 1248) (by decide +kernel)⟩
theorem lw_p115 : lw_okq (⟨"SourceTreeModel", "statement", "()Z"⟩, 20) := ⟨⟨by decide +kernel, by decide +kernel⟩, List.mem_of_getElem? (i := 903) (by decide +kernel), List.mem_of_getElem? (i := 1251) (by decide +kernel), List.mem_of_getElem? (i := 1252) (by decide +kernel)⟩
theorem lw_p116 : lw_okq (⟨"SourceTreeModel", "assignment", "()V"⟩, 20) := ⟨⟨by decide +kernel, by decide +kernel⟩, List.mem_of_getElem? (i := 903) (by decide +kernel), List.mem_of_getElem? (i := 1255) (by decide +kernel), List.mem_of_getElem? (i := 1256) (by decide +kernel)⟩
theorem lw_p117 : lw_okq (⟨"SourceTreeModel", "target", "(I)V"⟩, 20) := ⟨⟨by decide +kernel, by decide +kernel⟩, List.mem_of_getElem? (i := 903) (by decide +kernel), List.mem_of_getElem? (i := 1259) (by decide +kernel), List.mem_of_getElem? (i := 1260) (by decide +kernel)⟩
theorem lw_p118 : lw_okq (⟨"SourceTreeModel", "mode", "()I"⟩, 20) := ⟨⟨by decide +kernel, by decide +kernel⟩, List.mem_of_getElem? (i := 903) (by decide +kernel), List.mem_of_getElem? (i := 1263) (by decide +kernel), List.mem_of_getElem? (i := 1264) (by decide +kernel)⟩
theorem lw_p119 : lw_okq (⟨"SourceTreeModel", "time", "()V"⟩, 20) := ⟨⟨by decide +kernel, by decide +kernel⟩, List.mem_of_getElem? (i := 903) (by decide +kernel), List.mem_of_getElem? (i := 1269) (by decide +kernel), List.mem_of_getElem? (i := 1270) (by decide +kernel)⟩
theorem lw_p120 : lw_okq (⟨"SourceTreeModel", "elements", "()I"⟩, 20) := ⟨⟨by decide +kernel, by decide +kernel⟩, List.mem_of_getElem? (i := 903) (by decide +kernel), List.mem_of_getElem? (i := 1274) (by decide +kernel), List.mem_of_getElem? (i := 1275) (by decide +kernel)⟩
theorem lw_p121 : lw_okq (⟨"SourceTreeModel", "branches", "()V"⟩, 20) := ⟨⟨by decide +kernel, by decide +kernel⟩, List.mem_of_getElem? (i := 903) (by decide +kernel), List.mem_of_getElem? (i := 1280) (by decide +kernel), List.mem_of_getElem? (i := 1281) (by decide +kernel)⟩
theorem lw_p122 : lw_okq (⟨"SourceTreeModel", "cases", "()V"⟩, 20) := ⟨⟨by decide +kernel, by decide +kernel⟩, List.mem_of_getElem? (i := 903) (by decide +kernel), List.mem_of_getElem? (i := 1288) (by decide +kernel), List.mem_of_getElem? (i := 1289) (by decide +kernel)⟩
theorem lw_p123 : lw_okq (⟨"SourceTreeModel", "loop", "()V"⟩, 20) := ⟨⟨by decide +kernel, by decide +kernel⟩, List.mem_of_getElem? (i := 903) (by decide +kernel), List.mem_of_getElem? (i := 1297) (by decide +kernel), List.mem_of_getElem? (i := 1298) (by decide +kernel)⟩
theorem lw_p124 : lw_okq (⟨"SourceTreeModel", "leave", "(I)V"⟩, 20) := ⟨⟨by decide +kernel, by decide +kernel⟩, List.mem_of_getElem? (i := 903) (by decide +kernel), List.mem_of_getElem? (i := 1302) (by decide +kernel), List.mem_of_getElem? (i := 1303) (by decide +kernel)⟩
theorem lw_p125 : lw_okq (⟨"SourceTreeModel", "waits", "()V"⟩, 20) := ⟨⟨by decide +kernel, by decide +kernel⟩, List.mem_of_getElem? (i := 903) (by decide +kernel), List.mem_of_getElem? (i := 1308) (by decide +kernel), List.mem_of_getElem? (i := 1309) (by decide +kernel)⟩
theorem lw_p126 : lw_okq (⟨"SourceTreeModel", "nothing", "()V"⟩, 20) := ⟨⟨by decide +kernel, by decide +kernel⟩, List.mem_of_getElem? (i := 903) (by decide +kernel), List.mem_of_getElem? (i := 1315) (by decide +kernel), List.mem_of_getElem? (i := 1316) (by decide +kernel)⟩
theorem lw_p127 : lw_okq (⟨"SourceTreeModel", "report", "(I)V"⟩, 20) := ⟨⟨by decide +kernel, by decide +kernel⟩, List.mem_of_getElem? (i := 903) (by decide +kernel), List.mem_of_getElem? (i := 1320) (by decide +kernel), List.mem_of_getElem? (i := 1321) (by decide +kernel)⟩
def lw_privs_8 : List (MethodName × Nat) := [(⟨"SourceTreeModel", "process", "(I)V"⟩, 20), (⟨"SourceTreeModel", "nameNodes", "()I"⟩, 20), (⟨"SourceTreeModel", "statements", "()V"⟩, 20), (⟨"SourceTreeModel", "statement", "()Z"⟩, 20), (⟨"SourceTreeModel", "assignment", "()V"⟩, 20), (⟨"SourceTreeModel", "target", "(I)V"⟩, 20), (⟨"SourceTreeModel", "mode", "()I"⟩, 20), (⟨"SourceTreeModel", "time", "()V"⟩, 20), (⟨"SourceTreeModel", "elements", "()I"⟩, 20), (⟨"SourceTreeModel", "branches", "()V"⟩, 20), (⟨"SourceTreeModel", "cases", "()V"⟩, 20), (⟨"SourceTreeModel", "loop", "()V"⟩, 20), (⟨"SourceTreeModel", "leave", "(I)V"⟩, 20), (⟨"SourceTreeModel", "waits", "()V"⟩, 20), (⟨"SourceTreeModel", "nothing", "()V"⟩, 20), (⟨"SourceTreeModel", "report", "(I)V"⟩, 20)]
theorem lw_r8 : ∀ q ∈ lw_privs_8, lw_okq q := List.forall_mem_cons.mpr ⟨lw_p112, List.forall_mem_cons.mpr ⟨lw_p113, List.forall_mem_cons.mpr ⟨lw_p114, List.forall_mem_cons.mpr ⟨lw_p115, List.forall_mem_cons.mpr ⟨lw_p116, List.forall_mem_cons.mpr ⟨lw_p117, List.forall_mem_cons.mpr ⟨lw_p118, List.forall_mem_cons.mpr ⟨lw_p119, List.forall_mem_cons.mpr ⟨lw_p120, List.forall_mem_cons.mpr ⟨lw_p121, List.forall_mem_cons.mpr ⟨lw_p122, List.forall_mem_cons.mpr ⟨lw_p123, List.forall_mem_cons.mpr ⟨lw_p124, List.forall_mem_cons.mpr ⟨lw_p125, List.forall_mem_cons.mpr ⟨lw_p126, List.forall_mem_cons.mpr ⟨lw_p127, fun _ h => absurd h List.not_mem_nil⟩⟩⟩⟩⟩⟩⟩⟩⟩⟩⟩⟩⟩⟩⟩⟩
theorem lw_p128 : lw_okq (⟨"SourceTreeModel", "flow", "(I)V"⟩, 20) := ⟨⟨by decide +kernel, by decide +kernel⟩, List.mem_of_getElem? (i := 903) (by decide +kernel), List.mem_of_getElem? (i := 1325) (by decide +kernel), List.mem_of_getElem? (i := 1326) (by decide +kernel)⟩
theorem lw_p129 : lw_okq (⟨"SourceTreeModel", "instance", "(I)V"⟩, 20) := ⟨⟨by decide +kernel, by decide +kernel⟩, List.mem_of_getElem? (i := 903) (by decide +kernel), List.mem_of_getElem? (i := 1329) (by decide +kernel), List.mem_of_getElem? (i := 1330) (by decide +kernel)⟩
theorem lw_p130 : lw_okq (⟨"SourceTreeModel", "maps", "(Ljava/lang/String;)V"⟩, 20) := ⟨⟨by decide +kernel, by decide +kernel⟩, List.mem_of_getElem? (i := 903) (by decide +kernel), List.mem_of_getElem? (i := 1333) (by decide +kernel), List.mem_of_getElem? (i := 1334) (by decide +kernel)⟩
theorem lw_p131 : lw_okq (⟨"SourceTreeModel", "manyTimes", "(I)V"⟩, 20) := ⟨⟨by decide +kernel, by decide +kernel⟩, List.mem_of_getElem? (i := 903) (by decide +kernel), List.mem_of_getElem? (i := 1339) (by decide +kernel), List.mem_of_getElem? (i := 1340) (by decide +kernel)⟩
theorem lw_p132 : lw_okq (⟨"SourceTreeModel", "inside", "(I)V"⟩, 20) := ⟨⟨by decide +kernel, by decide +kernel⟩, List.mem_of_getElem? (i := 903) (by decide +kernel), List.mem_of_getElem? (i := 1343) (by decide +kernel), List.mem_of_getElem? (i := 1344) (by decide +kernel)⟩
theorem lw_p133 : lw_okq (⟨"SourceTreeModel", "perhaps", "(I)V"⟩, 20) := ⟨⟨by decide +kernel, by decide +kernel⟩, List.mem_of_getElem? (i := 903) (by decide +kernel), List.mem_of_getElem? (i := 1348) (by decide +kernel), List.mem_of_getElem? (i := 1349) (by decide +kernel)⟩
def lw_privs_9 : List (MethodName × Nat) := [(⟨"SourceTreeModel", "flow", "(I)V"⟩, 20), (⟨"SourceTreeModel", "instance", "(I)V"⟩, 20), (⟨"SourceTreeModel", "maps", "(Ljava/lang/String;)V"⟩, 20), (⟨"SourceTreeModel", "manyTimes", "(I)V"⟩, 20), (⟨"SourceTreeModel", "inside", "(I)V"⟩, 20), (⟨"SourceTreeModel", "perhaps", "(I)V"⟩, 20)]
theorem lw_r9 : ∀ q ∈ lw_privs_9, lw_okq q := List.forall_mem_cons.mpr ⟨lw_p128, List.forall_mem_cons.mpr ⟨lw_p129, List.forall_mem_cons.mpr ⟨lw_p130, List.forall_mem_cons.mpr ⟨lw_p131, List.forall_mem_cons.mpr ⟨lw_p132, List.forall_mem_cons.mpr ⟨lw_p133, fun _ h => absurd h List.not_mem_nil⟩⟩⟩⟩⟩⟩
def lw_privs : List (MethodName × Nat) := lw_privs_1 ++ (lw_privs_2 ++ (lw_privs_3 ++ (lw_privs_4 ++ (lw_privs_5 ++ (lw_privs_6 ++ (lw_privs_7 ++ (lw_privs_8 ++ (lw_privs_9))))))))
def lw_tbl : List Cond := k2_sels lw_privs ++ tables_1
theorem lw_privs_ok : ∀ q ∈ lw_privs, lw_okq q := by
  show ∀ q ∈ lw_privs_1 ++ (lw_privs_2 ++ (lw_privs_3 ++ (lw_privs_4 ++ (lw_privs_5 ++ (lw_privs_6 ++ (lw_privs_7 ++ (lw_privs_8 ++ (lw_privs_9)))))))), lw_okq q
  exact List.forall_mem_append.mpr ⟨lw_r1, List.forall_mem_append.mpr ⟨lw_r2, List.forall_mem_append.mpr ⟨lw_r3, List.forall_mem_append.mpr ⟨lw_r4, List.forall_mem_append.mpr ⟨lw_r5, List.forall_mem_append.mpr ⟨lw_r6, List.forall_mem_append.mpr ⟨lw_r7, List.forall_mem_append.mpr ⟨lw_r8, lw_r9⟩⟩⟩⟩⟩⟩⟩⟩
end
section
def jj_T : List Cond := lw_tbl.filter goodWord
theorem jj_T_good : ∀ w ∈ jj_T, goodWord w = true := fun w hw => (List.mem_filter.mp hw).2
theorem jw {w : Cond} (i : Nat) (h : lw_tbl[i]? = some w) (hg : goodWord w = true) : w ∈ jj_T := List.mem_filter.mpr ⟨List.mem_of_getElem? h, hg⟩
def T_ST : u_T := fun k => match k with
  | 0 => ("SourceTree", "characters", "LSourceTree$IntRow;", true)
  | 1 => ("SourceTree", "spellings", "LSourceTree$Spellings;", true)
  | 2 => ("SourceTree", "tree", "LSourceTree$Table;", true)
  | 3 => ("SourceTree", "scanner", "LSourceTree$Scanner;", true)
  | 4 => ("SourceTree", "grammar", "LSourceTree$Grammar;", true)
  | _ => ("SourceTree", "faultPlace", "I", false)
def t_ST : Nat → FieldType := fun k => match k with
  | 0 => .object "SourceTree$IntRow"
  | 1 => .object "SourceTree$Spellings"
  | 2 => .object "SourceTree$Table"
  | 3 => .object "SourceTree$Scanner"
  | 4 => .object "SourceTree$Grammar"
  | _ => .int
def T_IR : u_T := fun k => match k with
  | 0 => ("SourceTree$IntRow", "cells", "[I", false)
  | _ => ("SourceTree$IntRow", "size", "I", false)
def t_IR : Nat → FieldType := fun k => match k with
  | 0 => .array .int
  | _ => .int
def T_TB : u_T := fun k => match k with
  | 0 => ("SourceTree$Table", "cells", "[I", false)
  | _ => ("SourceTree$Table", "size", "I", false)
def t_TB : Nat → FieldType := fun k => match k with
  | 0 => .array .int
  | _ => .int
def T_SP : u_T := fun k => match k with
  | 0 => ("SourceTree$Spellings", "letters", "LSourceTree$IntRow;", true)
  | 1 => ("SourceTree$Spellings", "starts", "LSourceTree$IntRow;", true)
  | 2 => ("SourceTree$Spellings", "newest", "LSourceTree$IntRow;", true)
  | 3 => ("SourceTree$Spellings", "before", "LSourceTree$IntRow;", true)
  | _ => ("SourceTree$Spellings", "mixed", "I", false)
def t_SP : Nat → FieldType := fun k => match k with
  | 0 => .object "SourceTree$IntRow"
  | 1 => .object "SourceTree$IntRow"
  | 2 => .object "SourceTree$IntRow"
  | 3 => .object "SourceTree$IntRow"
  | _ => .int
def T_SC : u_T := fun k => match k with
  | 0 => ("SourceTree$Scanner", "characters", "LSourceTree$IntRow;", true)
  | 1 => ("SourceTree$Scanner", "spellings", "LSourceTree$Spellings;", true)
  | 2 => ("SourceTree$Scanner", "tokens", "LSourceTree$Table;", true)
  | _ => ("SourceTree$Scanner", "behindName", "I", false)
def t_SC : Nat → FieldType := fun k => match k with
  | 0 => .object "SourceTree$IntRow"
  | 1 => .object "SourceTree$Spellings"
  | 2 => .object "SourceTree$Table"
  | _ => .int
def T_GR : u_T := fun k => match k with
  | 0 => ("SourceTree$Grammar", "characters", "LSourceTree$IntRow;", true)
  | 1 => ("SourceTree$Grammar", "declared", "LSourceTree$IntRow;", true)
  | 2 => ("SourceTree$Grammar", "pending", "LSourceTree$IntRow;", true)
  | 3 => ("SourceTree$Cursor", "kind", "I", false)
  | 4 => ("SourceTree$Cursor", "value", "I", false)
  | 5 => ("SourceTree$Cursor", "place", "I", false)
  | 6 => ("SourceTree$Cursor", "fault", "I", false)
  | 7 => ("SourceTree$Cursor", "faultPlace", "I", false)
  | 8 => ("SourceTree$Cursor", "tokens", "LSourceTree$Table;", true)
  | 9 => ("SourceTree$Cursor", "tree", "LSourceTree$Table;", true)
  | 10 => ("SourceTree$Cursor", "next", "I", false)
  | _ => ("SourceTree$Cursor", "open", "I", false)
def t_GR : Nat → FieldType := fun k => match k with
  | 0 => .object "SourceTree$IntRow"
  | 1 => .object "SourceTree$IntRow"
  | 2 => .object "SourceTree$IntRow"
  | 3 => .int
  | 4 => .int
  | 5 => .int
  | 6 => .int
  | 7 => .int
  | 8 => .object "SourceTree$Table"
  | 9 => .object "SourceTree$Table"
  | 10 => .int
  | _ => .int
def T_MO : u_T := fun k => match k with
  | 0 => ("SourceTreeModel", "thrown", "I", false)
  | 1 => ("SourceTreeModel", "text", "[B", true)
  | 2 => ("SourceTreeModel", "length", "I", false)
  | 3 => ("SourceTreeModel", "wrong", "I", false)
  | 4 => ("SourceTreeModel", "where", "I", false)
  | 5 => ("SourceTreeModel", "kinds", "[I", true)
  | 6 => ("SourceTreeModel", "values", "[I", true)
  | 7 => ("SourceTreeModel", "places", "[I", true)
  | 8 => ("SourceTreeModel", "tokens", "I", false)
  | 9 => ("SourceTreeModel", "letters", "[B", true)
  | 10 => ("SourceTreeModel", "begins", "[I", true)
  | 11 => ("SourceTreeModel", "names", "I", false)
  | 12 => ("SourceTreeModel", "nodeKinds", "[I", true)
  | 13 => ("SourceTreeModel", "nodeValues", "[I", true)
  | 14 => ("SourceTreeModel", "nodeCounts", "[I", true)
  | 15 => ("SourceTreeModel", "size", "I", false)
  | 16 => ("SourceTreeModel", "now", "I", false)
  | 17 => ("SourceTreeModel", "open", "I", false)
  | 18 => ("SourceTreeModel", "group", "[I", true)
  | _ => ("SourceTreeModel", "groupSize", "I", false)
def t_MO : Nat → FieldType := fun k => match k with
  | 0 => .int
  | 1 => .array .byte
  | 2 => .int
  | 3 => .int
  | 4 => .int
  | 5 => .array .int
  | 6 => .array .int
  | 7 => .array .int
  | 8 => .int
  | 9 => .array .byte
  | 10 => .array .int
  | 11 => .int
  | 12 => .array .int
  | 13 => .array .int
  | 14 => .array .int
  | 15 => .int
  | 16 => .int
  | 17 => .int
  | 18 => .array .int
  | _ => .int
abbrev vwCl : List vw_C := [("SourceTree", T_ST, 6), ("SourceTree$IntRow", T_IR, 2), ("SourceTree$Table", T_TB, 2), ("SourceTree$Spellings", T_SP, 5), ("SourceTree$Scanner", T_SC, 4), ("SourceTree$Grammar", T_GR, 12), ("SourceTreeModel", T_MO, 20)]
def jj_nm : List (String × Nat × MethodName × String) := [("SourceTree$Scanner", 57, ⟨"SourceTree", "isLetter", "(I)Z"⟩, "SourceTree"), ("SourceTree$Scanner", 64, ⟨"SourceTree", "isDigit", "(I)Z"⟩, "SourceTree"), ("SourceTree$Scanner", 82, ⟨"SourceTree", "small", "(I)I"⟩, "SourceTree"), ("SourceTree$Scanner", 73, ⟨"SourceTree", "signOf", "(I)I"⟩, "SourceTree"), ("SourceTree", 82, ⟨"SourceTree$Grammar", "one", "(I)I"⟩, "SourceTree"), ("SourceTree$Grammar", 250, ⟨"SourceTree", "signOf", "(I)I"⟩, "SourceTree")]
def jj_hwk : Cond → Bool
  | .declares _ => true
  | .stringRef .. => true
  | .castable .. => true
  | .laysStatic .. => true
  | _ => false
def jj_hw : List Cond := lw_tbl.filter jj_hwk ++ [.isRef (.static Bundle.tN "UNASSIGNED_STACK" Bundle.steD), .isRef (.static Bundle.tN "SUPPRESSED_SENTINEL" Bundle.listD)]
theorem jhw {w : Cond} (i : Nat) (h : lw_tbl[i]? = some w) (hg : jj_hwk w = true) : w ∈ jj_hw := List.mem_append_left _ (List.mem_filter.mpr ⟨List.mem_of_getElem? h, hg⟩)
def jj_nS : Nat := 72
def jj_lS : List Nat := [94, 98, 115, 135, 9, 15, 21, 26, 35, 21, 45, 21, 307, 9, 10, 4, 2, 7, 2, 3, 5, 5, 3, 3, 2, 6, 3, 3, 3, 3, 3, 2, 4, 3, 3, 4, 4, 3, 4, 2, 8, 8, 6, 4, 7, 5, 7, 9, 6, 8, 5, 2, 4, 5, 4, 4, 4, 6, 3, 5, 4, 4, 4, 4, 2, 5, 4, 6, 6, 3, 4, 8]
def jj_bS : List (List Int32) := [[97, 98, 115, 32, 97, 102, 116, 101, 114, 32, 97, 110, 100, 32, 97, 115, 115, 101, 114, 116, 32, 98, 101, 103, 105, 110, 32, 98, 111, 100, 121, 32, 99, 97, 115, 101, 32, 99, 111, 110, 115, 116, 97, 110, 116, 32, 100, 111, 119, 110, 116, 111, 32, 101, 108, 115, 101, 32, 101, 108, 115, 105, 102, 32, 101, 110, 100, 32, 101, 120, 105, 116, 32, 102, 111, 114, 32, 103, 101, 110, 101, 114, 97, 116, 101, 32, 103, 101, 110, 101, 114, 105, 99, 32], [105, 102, 32, 105, 110, 32, 105, 110, 101, 114, 116, 105, 97, 108, 32, 105, 110, 111, 117, 116, 32, 105, 115, 32, 108, 111, 111, 112, 32, 109, 97, 112, 32, 109, 111, 100, 32, 110, 97, 110, 100, 32, 110, 101, 120, 116, 32, 110, 111, 114, 32, 110, 111, 116, 32, 110, 117, 108, 108, 32, 111, 102, 32, 111, 110, 32, 111, 112, 101, 110, 32, 111, 114, 32, 111, 116, 104, 101, 114, 115, 32, 111, 117, 116, 32, 112, 111, 114, 116, 32, 112, 114, 111, 99, 101, 115, 115, 32], [114, 97, 110, 103, 101, 32, 114, 101, 106, 101, 99, 116, 32, 114, 101, 109, 32, 114, 101, 112, 111, 114, 116, 32, 115, 105, 103, 110, 97, 108, 32, 115, 108, 108, 32, 115, 114, 108, 32, 115, 117, 98, 116, 121, 112, 101, 32, 116, 104, 101, 110, 32, 116, 111, 32, 116, 114, 97, 110, 115, 112, 111, 114, 116, 32, 116, 121, 112, 101, 32, 117, 110, 105, 116, 32, 117, 110, 116, 105, 108, 32, 118, 97, 114, 105, 97, 98, 108, 101, 32, 119, 97, 105, 116, 32, 119, 104, 101, 110, 32, 119, 104, 105, 108, 101, 32, 120, 110, 111, 114, 32, 120, 111, 114, 32], [105, 110, 116, 101, 103, 101, 114, 32, 110, 97, 116, 117, 114, 97, 108, 32, 112, 111, 115, 105, 116, 105, 118, 101, 32, 98, 111, 111, 108, 101, 97, 110, 32, 108, 111, 103, 105, 99, 32, 114, 111, 119, 32, 116, 114, 117, 101, 32, 102, 97, 108, 115, 101, 32, 114, 105, 115, 105, 110, 103, 32, 102, 97, 108, 108, 105, 110, 103, 32, 110, 117, 109, 98, 101, 114, 32, 98, 105, 116, 115, 32, 112, 115, 32, 110, 115, 32, 117, 115, 32, 101, 118, 101, 110, 116, 32, 97, 99, 116, 105, 118, 101, 32, 108, 97, 115, 116, 32, 108, 101, 110, 103, 116, 104, 32, 108, 101, 102, 116, 32, 114, 105, 103, 104, 116, 32, 104, 105, 103, 104, 32, 108, 111, 119, 32], [117, 120, 48, 49, 122, 119, 108, 104, 45], [40, 41, 44, 59, 58, 61, 60, 62, 43, 45, 42, 47, 38, 39, 124], [97, 32, 102, 97, 117, 108, 116, 32, 111, 102, 32, 116, 104, 101, 32, 115, 111, 117, 114, 99, 101], [116, 104, 101, 32, 116, 101, 120, 116, 32, 119, 111, 117, 108, 100, 32, 98, 101, 32, 116, 111, 111, 32, 108, 111, 110, 103], [116, 104, 101, 32, 116, 101, 120, 116, 32, 104, 97, 115, 32, 110, 111, 116, 32, 115, 111, 32, 109, 97, 110, 121, 32, 99, 104, 97, 114, 97, 99, 116, 101, 114, 115], [116, 104, 101, 114, 101, 32, 105, 115, 32, 110, 111, 32, 115, 117, 99, 104, 32, 110, 111, 100, 101], [97, 32, 110, 111, 100, 101, 32, 104, 97, 115, 32, 97, 32, 107, 105, 110, 100, 44, 32, 97, 32, 118, 97, 108, 117, 101, 32, 97, 110, 100, 32, 99, 104, 105, 108, 100, 114, 101, 110, 32, 97, 108, 111, 110, 101], [116, 104, 101, 114, 101, 32, 105, 115, 32, 110, 111, 32, 115, 117, 99, 104, 32, 110, 97, 109, 101], [97, 98, 115, 32, 97, 102, 116, 101, 114, 32, 97, 110, 100, 32, 97, 115, 115, 101, 114, 116, 32, 98, 101, 103, 105, 110, 32, 98, 111, 100, 121, 32, 99, 97, 115, 101, 32, 99, 111, 110, 115, 116, 97, 110, 116, 32, 100, 111, 119, 110, 116, 111, 32, 101, 108, 115, 101, 32, 101, 108, 115, 105, 102, 32, 101, 110, 100, 32, 101, 120, 105, 116, 32, 102, 111, 114, 32, 103, 101, 110, 101, 114, 97, 116, 101, 32, 103, 101, 110, 101, 114, 105, 99, 32, 105, 102, 32, 105, 110, 32, 105, 110, 101, 114, 116, 105, 97, 108, 32, 105, 110, 111, 117, 116, 32, 105, 115, 32, 108, 111, 111, 112, 32, 109, 97, 112, 32, 109, 111, 100, 32, 110, 97, 110, 100, 32, 110, 101, 120, 116, 32, 110, 111, 114, 32, 110, 111, 116, 32, 110, 117, 108, 108, 32, 111, 102, 32, 111, 110, 32, 111, 112, 101, 110, 32, 111, 114, 32, 111, 116, 104, 101, 114, 115, 32, 111, 117, 116, 32, 112, 111, 114, 116, 32, 112, 114, 111, 99, 101, 115, 115, 32, 114, 97, 110, 103, 101, 32, 114, 101, 106, 101, 99, 116, 32, 114, 101, 109, 32, 114, 101, 112, 111, 114, 116, 32, 115, 105, 103, 110, 97, 108, 32, 115, 108, 108, 32, 115, 114, 108, 32, 115, 117, 98, 116, 121, 112, 101, 32, 116, 104, 101, 110, 32, 116, 111, 32, 116, 114, 97, 110, 115, 112, 111, 114, 116, 32, 116, 121, 112, 101, 32, 117, 110, 105, 116, 32, 117, 110, 116, 105, 108, 32, 118, 97, 114, 105, 97, 98, 108, 101, 32, 119, 97, 105, 116, 32, 119, 104, 101, 110, 32, 119, 104, 105, 108, 101, 32, 120, 110, 111, 114, 32, 120, 111, 114, 32], [85, 88, 48, 49, 90, 87, 76, 72, 45], [40, 41, 44, 59, 43, 45, 42, 38, 39, 124], [117, 110, 105, 116], [105, 115], [103, 101, 110, 101, 114, 105, 99], [105, 110], [111, 117, 116], [105, 110, 111, 117, 116], [114, 97, 110, 103, 101], [110, 111, 116], [97, 98, 115], [116, 111], [100, 111, 119, 110, 116, 111], [109, 111, 100], [114, 101, 109], [115, 108, 108], [115, 114, 108], [97, 110, 100], [111, 114], [110, 97, 110, 100], [110, 111, 114], [120, 111, 114], [120, 110, 111, 114], [112, 111, 114, 116], [101, 110, 100], [98, 111, 100, 121], [111, 102], [99, 111, 110, 115, 116, 97, 110, 116], [118, 97, 114, 105, 97, 98, 108, 101], [115, 105, 103, 110, 97, 108], [116, 121, 112, 101], [115, 117, 98, 116, 121, 112, 101], [98, 101, 103, 105, 110], [112, 114, 111, 99, 101, 115, 115], [116, 114, 97, 110, 115, 112, 111, 114, 116], [114, 101, 106, 101, 99, 116], [105, 110, 101, 114, 116, 105, 97, 108], [97, 102, 116, 101, 114], [105, 102], [116, 104, 101, 110], [101, 108, 115, 105, 102], [101, 108, 115, 101], [99, 97, 115, 101], [119, 104, 101, 110], [111, 116, 104, 101, 114, 115], [102, 111, 114], [119, 104, 105, 108, 101], [108, 111, 111, 112], [101, 120, 105, 116], [110, 101, 120, 116], [119, 97, 105, 116], [111, 110], [117, 110, 116, 105, 108], [110, 117, 108, 108], [114, 101, 112, 111, 114, 116], [97, 115, 115, 101, 114, 116], [109, 97, 112], [111, 112, 101, 110], [103, 101, 110, 101, 114, 97, 116, 101]]
def jj_str : List (String × Nat × String × Nat) := [("SourceTree$Spellings", 46, "abs after and assert begin body case constant downto else elsif end exit for generate generic ", 0), ("SourceTree$Spellings", 52, "if in inertial inout is loop map mod nand next nor not null of on open or others out port process ", 1), ("SourceTree$Spellings", 54, "range reject rem report signal sll srl subtype then to transport type unit until variable wait when while xnor xor ", 2), ("SourceTree$Spellings", 56, "integer natural positive boolean logic row true false rising falling number bits ps ns us event active last length left right high low ", 3), ("SourceTree", 114, "ux01zwlh-", 4), ("SourceTree$Scanner", 111, "(),;:=<>+-*/&'|", 5), ("SourceTree$Cursor", 66, "a fault of the source", 6), ("SourceTree", 60, "the text would be too long", 7), ("SourceTree", 70, "the text has not so many characters", 8), ("SourceTree", 96, "there is no such node", 9), ("SourceTree", 99, "a node has a kind, a value and children alone", 10), ("SourceTree", 106, "there is no such name", 11), ("SourceTreeModel", 57, "integer natural positive boolean logic row true false rising falling number bits ps ns us event active last length left right high low ", 3), ("SourceTreeModel", 68, "abs after and assert begin body case constant downto else elsif end exit for generate generic if in inertial inout is loop map mod nand next nor not null of on open or others out port process range reject rem report signal sll srl subtype then to transport type unit until variable wait when while xnor xor ", 12), ("SourceTreeModel", 74, "UX01ZWLH-", 13), ("SourceTreeModel", 118, "(),;+-*&'|", 14), ("SourceTreeModel", 178, "unit", 15), ("SourceTreeModel", 186, "is", 16), ("SourceTreeModel", 192, "generic", 17), ("SourceTreeModel", 214, "in", 18), ("SourceTreeModel", 216, "out", 19), ("SourceTreeModel", 218, "inout", 20), ("SourceTreeModel", 233, "range", 21), ("SourceTreeModel", 436, "not", 22), ("SourceTreeModel", 438, "abs", 23), ("SourceTreeModel", 235, "to", 24), ("SourceTreeModel", 237, "downto", 25), ("SourceTreeModel", 432, "mod", 26), ("SourceTreeModel", 434, "rem", 27), ("SourceTreeModel", 416, "sll", 28), ("SourceTreeModel", 418, "srl", 29), ("SourceTreeModel", 398, "and", 30), ("SourceTreeModel", 400, "or", 31), ("SourceTreeModel", 402, "nand", 32), ("SourceTreeModel", 404, "nor", 33), ("SourceTreeModel", 406, "xor", 34), ("SourceTreeModel", 408, "xnor", 35), ("SourceTreeModel", 198, "port", 36), ("SourceTreeModel", 200, "end", 37), ("SourceTreeModel", 182, "body", 38), ("SourceTreeModel", 239, "of", 39), ("SourceTreeModel", 252, "constant", 40), ("SourceTreeModel", 257, "variable", 41), ("SourceTreeModel", 259, "signal", 42), ("SourceTreeModel", 261, "type", 43), ("SourceTreeModel", 265, "subtype", 44), ("SourceTreeModel", 247, "begin", 45), ("SourceTreeModel", 269, "process", 46), ("SourceTreeModel", 315, "transport", 47), ("SourceTreeModel", 317, "reject", 48), ("SourceTreeModel", 322, "inertial", 49), ("SourceTreeModel", 327, "after", 50), ("SourceTreeModel", 287, "if", 51), ("SourceTreeModel", 386, "then", 52), ("SourceTreeModel", 388, "elsif", 53), ("SourceTreeModel", 340, "else", 54), ("SourceTreeModel", 352, "case", 55), ("SourceTreeModel", 338, "when", 56), ("SourceTreeModel", 390, "others", 57), ("SourceTreeModel", 282, "for", 58), ("SourceTreeModel", 357, "while", 59), ("SourceTreeModel", 359, "loop", 60), ("SourceTreeModel", 363, "exit", 61), ("SourceTreeModel", 368, "next", 62), ("SourceTreeModel", 370, "wait", 63), ("SourceTreeModel", 392, "on", 64), ("SourceTreeModel", 393, "until", 65), ("SourceTreeModel", 375, "null", 66), ("SourceTreeModel", 380, "report", 67), ("SourceTreeModel", 384, "assert", 68), ("SourceTreeModel", 301, "map", 69), ("SourceTreeModel", 303, "open", 70), ("SourceTreeModel", 310, "generate", 71)]
def jj_sta : List (String × String × String × Value) := [("java/lang/String", "COMPACT_STRINGS", "Z", .int 1)]
def jj_ncl : List (String × String) := [("java/lang/IllegalArgumentException", "java/lang/IndexOutOfBoundsException")]
end
section
/-! A METHOD'S RUN OVER AN ABSTRACT HEAP: cells by their addresses, the heap's size, the slots made so far.
jj_E: from here the frame comes to this outcome and this heap; jj_P: to some outcome that F allows; jj_C, jj_Q: a call. -/
abbrev jj_H : Type := (Nat → Option va_E) × Nat × Nat
abbrev jj_G : Type := Nat × va_G × List (ClassId × FieldType) × (Nat → Nat) × (Nat → Nat) × Nat × Nat × (Nat → Int32)
abbrev jj_Y : Type := MethodName × ByteArray × Nat × Option FieldType × List (Nat × Nat × Nat × Nat)
abbrev jj_O : Type := Option Value ⊕ String
def jj_A (G : jj_G) : Nat → Prop := fun a => G.1 ≤ a
/-- no cell from G.1 on holds a class's statics -/
def jj_ns (G : jj_G) (H : Heap) : Prop := ∀ (a : Nat) (cell : Cell), G.1 ≤ a → H[a]? = some cell → cell.vm.isStatics = false
def jj_hp (G : jj_G) (h : jj_H) (H : Heap) : Prop := H.size = h.2.1 ∧ jj_ns G H ∧ ∀ (a : Nat) (e : va_E), h.1 a = some e → G.1 ≤ a ∧ va_at G.2.1 vwCl (a, e) H
theorem jj_at_ns {D : va_G} {cl : List vw_C} {a : Nat} {e : va_E} {H : Heap} (h : va_at D cl (a, e) H) {cell : Cell} (hc : H[a]? = some cell) : cell.vm.isStatics = false := by
  cases e with
  | inl x =>
    have h1 : H[a]? = some (vp_cell x.1 x.2) := h
    cases Option.some.inj (hc.symm.trans h1)
    obtain ⟨c0, n, f⟩ := x
    rcases f with f | f | f | f | f <;> rfl
  | inr x =>
    obtain ⟨r, -, c9, h1, -, h3, -⟩ := h
    cases Option.some.inj (hc.symm.trans h1)
    rw [h3]
    rfl
def jj_up (f : Nat → Option va_E) (a : Nat) (e : va_E) : Nat → Option va_E := fun x => if x = a then some e else f x
theorem jj_up_self {f : Nat → Option va_E} {a : Nat} {e : va_E} : jj_up f a e a = some e := by simp [jj_up]
theorem jj_up_ne {f : Nat → Option va_E} {a b : Nat} {e : va_E} (hn : b ≠ a) : jj_up f a e b = f b := by simp [jj_up, hn]
theorem jj_hp.lt {G : jj_G} {h : jj_H} {H : Heap} (hh : jj_hp G h H) {a : Nat} {e : va_E} (ha : h.1 a = some e) : a < h.2.1 := by
  rw [← hh.1]
  exact (hh.2.2 a e ha).2.lt
theorem jj_hp.put {G : jj_G} {h : jj_H} {H H1 : Heap} {a : Nat} {e e' : va_E} (hh : jj_hp G h H) (ha : h.1 a = some e) (h1 : va_at G.2.1 vwCl (a, e') H1) (hz : H1.size = H.size) (ho : ∀ q : Nat, q ≠ a → H1[q]? = H[q]?) : jj_hp G (jj_up h.1 a e', h.2) H1 := by
  refine ⟨by rw [hz]; exact hh.1, fun q cell hq hcell => ?_, fun q x hx => ?_⟩
  · by_cases hqa : q = a
    · subst hqa
      exact jj_at_ns h1 hcell
    · rw [ho q hqa] at hcell
      exact hh.2.1 q cell hq hcell
  by_cases hq : q = a
  · subst hq
    dsimp only at hx
    rw [show jj_up h.1 q e' q = some e' from jj_up_self] at hx
    cases hx
    exact ⟨(hh.2.2 _ _ ha).1, h1⟩
  · dsimp only at hx
    rw [show jj_up h.1 a e' q = h.1 q from jj_up_ne hq] at hx
    exact ⟨(hh.2.2 _ _ hx).1, (hh.2.2 _ _ hx).2.kept (ho q hq)⟩
theorem jj_hp.new {G : jj_G} {h : jj_H} {H H1 : Heap} {e : va_E} {n : Nat} (hh : jj_hp G h H) (hb : G.1 ≤ h.2.1) (h1 : va_at G.2.1 vwCl (h.2.1, e) H1) (hz : H1.size = h.2.1 + 1) (ho : ∀ q : Nat, q < h.2.1 → H1[q]? = H[q]?) : jj_hp G (jj_up h.1 h.2.1 e, h.2.1 + 1, n) H1 := by
  refine ⟨hz, fun q cell hq hcell => ?_, fun q x hx => ?_⟩
  · by_cases hqa : q = h.2.1
    · subst hqa
      exact jj_at_ns h1 hcell
    · have hlt : q < h.2.1 := by
        have := (Array.getElem?_eq_some_iff.mp hcell).1
        omega
      rw [ho q hlt] at hcell
      exact hh.2.1 q cell hq hcell
  by_cases hq : q = h.2.1
  · subst hq
    dsimp only at hx
    rw [show jj_up h.1 h.2.1 e h.2.1 = some e from jj_up_self] at hx
    cases hx
    exact ⟨hb, h1⟩
  · dsimp only at hx
    rw [show jj_up h.1 h.2.1 e q = h.1 q from jj_up_ne hq] at hx
    exact ⟨(hh.2.2 _ _ hx).1, (hh.2.2 _ _ hx).2.kept (ho q (hh.lt hx))⟩
theorem jj_hp.more {G : jj_G} {h : jj_H} {H H1 : Heap} {z n : Nat} (hh : jj_hp G h H) (hz : H1.size = z) (hn : ∀ (q : Nat) (cell : Cell), h.2.1 ≤ q → H1[q]? = some cell → cell.vm.isStatics = false) (ho : ∀ q : Nat, q < h.2.1 → H1[q]? = H[q]?) : jj_hp G (h.1, z, n) H1 :=
  ⟨hz, fun q cell hq hcell => by
    rcases Nat.lt_or_ge q h.2.1 with h9 | h9
    · rw [ho q h9] at hcell
      exact hh.2.1 q cell hq hcell
    · exact hn q cell h9 hcell, fun q x hx => ⟨(hh.2.2 _ _ hx).1, (hh.2.2 _ _ hx).2.kept (ho q (hh.lt hx))⟩⟩
/-! the locals: by places, none where nothing is known -/
def jj_l : Nat → List (Option Value) → List (Nat × Value)
  | _, [] => []
  | k, none :: r => jj_l (k + 1) r
  | k, some v :: r => (k, v) :: jj_l (k + 1) r
def jj_L (n : Nat) (L : List (Option Value)) (ls : Array Slot) : Prop := ls.size = n ∧ lv_wf ls ∧ ∀ (i : Nat) (v : Value), L[i]? = some (some v) → ls[i]? = some (.val v)
theorem jj_l_mem : ∀ (L : List (Option Value)) (k j : Nat) (v : Value), (j, v) ∈ jj_l k L ↔ k ≤ j ∧ L[j - k]? = some (some v) := by
  intro L
  induction L with
  | nil => intro k j v; simp [jj_l]
  | cons a r ih =>
    intro k j v
    have hs : k + 1 ≤ j → j - k = (j - (k + 1)) + 1 := by omega
    cases a with
    | none =>
      rw [jj_l, ih]
      constructor
      · rintro ⟨h1, h2⟩
        exact ⟨by omega, by rw [hs h1, List.getElem?_cons_succ]; exact h2⟩
      · rintro ⟨h1, h2⟩
        by_cases hk : k = j
        · subst hk
          simp at h2
        · have h3 : k + 1 ≤ j := by omega
          rw [hs h3, List.getElem?_cons_succ] at h2
          exact ⟨h3, h2⟩
    | some w =>
      rw [jj_l, List.mem_cons, ih]
      constructor
      · rintro (h1 | ⟨h1, h2⟩)
        · cases h1
          exact ⟨Nat.le_refl _, by simp⟩
        · exact ⟨by omega, by rw [hs h1, List.getElem?_cons_succ]; exact h2⟩
      · rintro ⟨h1, h2⟩
        by_cases hk : k = j
        · subst hk
          simp at h2
          subst h2
          exact Or.inl rfl
        · have h3 : k + 1 ≤ j := by omega
          rw [hs h3, List.getElem?_cons_succ] at h2
          exact Or.inr ⟨h3, h2⟩
theorem jj_L.has {n : Nat} {L : List (Option Value)} {ls : Array Slot} (h : jj_L n L ls) : lv_has ls n (jj_l 0 L) := by
  refine ⟨h.1, h.2.1, fun q hq => ?_⟩
  obtain ⟨i, v⟩ := q
  obtain ⟨-, h2⟩ := (jj_l_mem L 0 i v).mp hq
  exact h.2.2 i v h2
theorem jj_L.of {n : Nat} {L : List (Option Value)} {ls : Array Slot} (h : lv_has ls n (jj_l 0 L)) : jj_L n L ls :=
  ⟨h.1, h.2.1, fun i v hv => h.2.2 (i, v) ((jj_l_mem L 0 i v).mpr ⟨Nat.zero_le _, hv⟩)⟩
/-- no long or double lies just ahead of place i -/
def jj_ok1 (L : List (Option Value)) (i : Nat) : Bool := match i with
  | 0 => true
  | j + 1 => match L[j]? with
    | some (some v) => v.category == 1
    | _ => true
theorem jj_L.set1 {n i : Nat} {L : List (Option Value)} {ls : Array Slot} {v : Value} (hk : jj_ok1 L i = true) (h : lv_has ls n ((i, v) :: (jj_l 0 L).filter (fun q => !(q.1 == i) && !(q.1 + 1 == i && q.2.category == 2)))) : jj_L n (L.set i (some v)) ls := by
  refine ⟨h.1, h.2.1, fun j w hw => ?_⟩
  by_cases hj : j = i
  · subst hj
    rw [List.getElem?_set] at hw
    simp at hw
    obtain ⟨-, rfl⟩ := hw
    exact h.2.2 (j, v) List.mem_cons_self
  · rw [List.getElem?_set_ne (fun q => hj q.symm)] at hw
    refine h.2.2 (j, w) (List.mem_cons_of_mem _ (List.mem_filter.mpr ⟨(jj_l_mem L 0 j w).mpr ⟨Nat.zero_le _, hw⟩, ?_⟩))
    have hc : ¬ (j + 1 = i ∧ w.category = 2) := by
      rintro ⟨rfl, h2⟩
      simp [jj_ok1, hw] at hk
      omega
    simp [hj]
    omega
theorem jj_L.set2 {n i : Nat} {L : List (Option Value)} {ls : Array Slot} {v : Value} (hk : jj_ok1 L i = true) (h : lv_has ls n ((i, v) :: (jj_l 0 L).filter (fun q => !(q.1 == i) && (!(q.1 == i + 1) && !(q.1 + 1 == i && q.2.category == 2))))) : jj_L n ((L.set i (some v)).set (i + 1) none) ls := by
  refine ⟨h.1, h.2.1, fun j w hw => ?_⟩
  by_cases hj1 : j = i + 1
  · subst hj1
    rw [List.getElem?_set] at hw
    simp at hw
  · rw [List.getElem?_set_ne (fun q => hj1 q.symm)] at hw
    by_cases hj : j = i
    · subst hj
      rw [List.getElem?_set] at hw
      simp at hw
      obtain ⟨-, rfl⟩ := hw
      exact h.2.2 (j, v) List.mem_cons_self
    · rw [List.getElem?_set_ne (fun q => hj q.symm)] at hw
      refine h.2.2 (j, w) (List.mem_cons_of_mem _ (List.mem_filter.mpr ⟨(jj_l_mem L 0 j w).mpr ⟨Nat.zero_le _, hw⟩, ?_⟩))
      have hc : ¬ (j + 1 = i ∧ w.category = 2) := by
        rintro ⟨rfl, h2⟩
        simp [jj_ok1, hw] at hk
        omega
      simp [hj, hj1]
      omega
/-- the string constants by their texts; two of one text are one object -/
def jj_vS (N : Nat) (len : List Nat) (byt : List (List Int32)) (adK adV : Nat → Nat) (A : Nat → Prop) (U : State) (H : Heap) : Prop := ∀ i : Nat, i < N → va_O "java/lang/String" (adK i) A U H ∧ va_OF "java/lang/String" "coder" "B" (.int 0) (adK i) A U H ∧ va_OF "java/lang/String" "value" "[B" (.ref (adV i)) (adK i) A U H ∧ va_T .byte (adV i) (len.getD i 0) (fun j => .int ((byt.getD i []).getD j 0)) A U H
theorem jj_vS.moved {N : Nat} {len : List Nat} {byt : List (List Int32)} {adK adV : Nat → Nat} {A : Nat → Prop} {u U : State} {H : Heap} (hvm : u.vm.Alike U.vm) (h : jj_vS N len byt adK adV A u H) : jj_vS N len byt adK adV A U H :=
  fun i hi => ⟨va_O.moved hvm (h i hi).1, va_OF.moved hvm (h i hi).2.1, va_OF.moved hvm (h i hi).2.2.1, va_T.moved hvm (h i hi).2.2.2⟩
theorem jj_vS.kept {N : Nat} {len : List Nat} {byt : List (List Int32)} {adK adV : Nat → Nat} {A : Nat → Prop} {U : State} {H H1 : Heap} (h : jj_vS N len byt adK adV A U H) (hq : ∀ a : Nat, a < H.size → ¬ A a → H1[a]? = H[a]?) : jj_vS N len byt adK adV A U H1 :=
  fun i hi => ⟨(h i hi).1.kept hq, (h i hi).2.1.kept hq, (h i hi).2.2.1.kept hq, (h i hi).2.2.2.kept hq⟩
/-- the JDK's formatter of wrong indices: null or a reference, told by the place behind the strings' -/
def jj_sv (G : jj_G) : Value := match G.2.2.2.1 jj_nS with
  | 0 => .null
  | t + 1 => .ref t
/-- the constants of the run: string literals, statics that nobody writes, the law's script -/
def jj_mw (G : jj_G) (U : State) : Prop := (jj_vS jj_nS jj_lS jj_bS G.2.2.2.1 G.2.2.2.2.1 (jj_A G) U U.heap ∧ True) ∧ (∀ q ∈ jj_str, vk_R q.1 q.2.1 q.2.2.1 (G.2.2.2.1 q.2.2.2) U) ∧ ((∀ q ∈ jj_sta, va_Z q.1 q.2.1 q.2.2.1 q.2.2.2 (jj_A G) U U.heap) ∧ va_Z "jdk/internal/util/Preconditions" "SIOOBE_FORMATTER" "Ljava/util/function/BiFunction;" (jj_sv G) (jj_A G) U U.heap) ∧ va_X G.2.2.2.2.2.1 G.2.2.2.2.2.2.1 G.2.2.2.2.2.2.2 U U.heap ∧ G.2.2.2.2.2.1 < G.1
theorem jj_mw.next {G : jj_G} {s U : State} (h : jj_mw G s) (hW : s.WarmedH U.vm) (hk : ∀ q : Nat, q < s.heap.size → ¬ jj_A G q → U.heap[q]? = s.heap[q]?) (hb : G.1 ≤ s.heap.size) : jj_mw G U := by
  obtain ⟨h1, h2, h3, h4, h5⟩ := h
  exact ⟨⟨jj_vS.moved hW.alike (h1.1.kept hk), trivial⟩, fun q hq => vk_R.warm hW (h2 q hq), ⟨fun q hq => va_Z.moved hW.alike ((h3.1 q hq).kept hk), va_Z.moved hW.alike (h3.2.kept hk)⟩, va_X.moved hW.alike (h4.kept (hk _ (Nat.lt_of_lt_of_le h5 hb) (Nat.not_le.mpr h5))), h5⟩
/-! THE JUDGEMENTS -/
def jj_cw (Y : jj_Y) : Cond := match Y.2.2.2.2 with
  | [] => .code Y.1 Y.2.1 Y.2.2.1 Y.2.2.2.1
  | q :: hh => .codeWith Y.1 Y.2.1 Y.2.2.1 Y.2.2.2.1 (q :: hh)
/-- what stands throughout a method's run -/
def jj_cx (Y : jj_Y) (l : Launch) (p : Program) (s : State) (m : MethodId) (args : Array Value) (meth : Method) (c : Code) : Prop :=
  p.tables.exec = Jvm.exec ∧ c.code = Y.2.1 ∧ c.maxLocals = Y.2.2.1 ∧ s.vm.findClass Y.1.cls = some m.cls ∧ (∀ w ∈ jj_T, w.before args s = true) ∧ meth.sig.returnType = Y.2.2.2.1 ∧ meth.locks = false ∧ c.exceptionTable.toList = tableOf Y.2.2.2.2 ∧ meth.name = Y.1.name ∧ l.stackTraces = false
/-- a word that is carried from state to state by its heap below G.1 -/
def jj_kp (G : jj_G) (w : Cond) (U : State) : Prop := ∀ (args : Array Value) (V : State), U.WarmedH V.vm → (∀ q : Nat, q < U.heap.size → ¬ jj_A G q → V.heap[q]? = U.heap[q]?) → U.heap.size ≤ V.heap.size → w.before args V = true
/-- what stands throughout the whole run: of every state, by its tables and what lies below G.1 in its heap -/
def jj_wd (G : jj_G) (U : State) : Prop :=
  va_K G.2.1 vwCl G.2.2.1 U ∧ G.1 ≤ U.heap.size ∧ (∀ q ∈ jj_nm, va_Nw (.methodLinkNest q.1 q.2.1 q.2.2.1 q.2.2.2) U) ∧ (∀ w ∈ jj_hw, jj_kp G w U) ∧ jj_mw G U ∧ jj_ns G U.heap ∧ ∀ q ∈ jj_ncl, va_Nc q.1 q.2 U
/-- the answer that a return at pc gives -/
def jj_ret (Y : jj_Y) (pc : Nat) (v : Option Value) : Prop := match v with
  | none => Y.2.2.2.1 = none ∧ decode Y.2.1 pc = .ok (.return_, 1)
  | some (.int x) => (∃ ty, Y.2.2.2.1 = some ty ∧ narrow ty (.int x) = .int x) ∧ decode Y.2.1 pc = .ok (.ireturn, 1)
  | some (.long _) => Y.2.2.2.1 = some .long ∧ decode Y.2.1 pc = .ok (.lreturn, 1)
  | some (.ref _) => (∃ rt, Y.2.2.2.1 = some rt ∧ ((∃ n, rt = .object n) ∨ ∃ t, rt = .array t)) ∧ decode Y.2.1 pc = .ok (.areturn, 1)
  | some _ => False
/-- how the run goes on behind its outcome -/
def jj_K (l : Launch) (G : jj_G) (Y : jj_Y) (o : jj_O) (h' : jj_H) (p : Program) (e : Env) (R : Room) (s : State) (m : MethodId) (args : Array Value) (below : List Frame) (meth : Method) (c : Code) (cells slots : Nat) (Q : State → Prop) : Prop := match o with
  | .inl v => ∀ (H : Heap) (locs : List Loc) (ls : Array Slot) (pc : Nat), va_S (jj_A G) s.heap H locs → jj_hp G h' H → jj_ret Y pc v → W p l e R s m args below meth c H locs cells slots Q (F0 m pc ls v.toList)
  | .inr E => ∀ (U : State) (locs : List Loc) (q : Addr) (ce : Cell), U.status = .running → Ended U below (.threw q) → s.WarmedH U.vm → s.sameButNew ({ U with vm := s.vm } : State) locs cells slots → va_S (jj_A G) s.heap U.heap locs → jj_hp G h' U.heap → U.heap[q]? = some ce → ce.vm = .none → s.vm.findClass E = some ce.cls → Q U
def jj_le (h h' : jj_H) : Prop := h.2.1 ≤ h'.2.1 ∧ h.2.2 ≤ h'.2.2
theorem jj_le.rf {h : jj_H} : jj_le h h := ⟨Nat.le_refl _, Nat.le_refl _⟩
theorem jj_le.tr {h h1 h2 : jj_H} (a : jj_le h h1) (b : jj_le h1 h2) : jj_le h h2 := ⟨Nat.le_trans a.1 b.1, Nat.le_trans a.2 b.2⟩
/-- the room that is left for what comes between h and h' -/
def jj_rm (R : Room) (d cells slots : Nat) (h h' : jj_H) : Prop := (d ≤ R.frames ∧ 40 * d ≤ R.locals) ∧ cells + (h'.2.1 - h.2.1) ≤ R.cells ∧ slots + (h'.2.2 - h.2.2) ≤ R.slots
def jj_E (l : Launch) (G : jj_G) (Y : jj_Y) (d : Nat) (o : jj_O) (h' : jj_H) (pc : Nat) (L : List (Option Value)) (st : List Value) (h : jj_H) : Prop :=
  jj_le h h' ∧ ∀ (p : Program) (e : Env) (R : Room) (s : State) (m : MethodId) (args : Array Value) (below : List Frame) (meth : Method) (c : Code) (H : Heap) (locs : List Loc) (cells slots : Nat) (Q : State → Prop) (ls : Array Slot),
    jj_cx Y l p s m args meth c → jj_wd G s → jj_rm R d cells slots h h' → va_S (jj_A G) s.heap H locs → jj_hp G h H → jj_L Y.2.2.1 L ls →
    jj_K l G Y o h' p e R s m args below meth c (cells + (h'.2.1 - h.2.1)) (slots + (h'.2.2 - h.2.2)) Q →
    W p l e R s m args below meth c H locs cells slots Q (F0 m pc ls st)
def jj_P (l : Launch) (G : jj_G) (Y : jj_Y) (d : Nat) (F : jj_O → jj_H → Prop) (pc : Nat) (L : List (Option Value)) (st : List Value) (h : jj_H) : Prop := ∃ (o : jj_O) (h' : jj_H), F o h' ∧ jj_E l G Y d o h' pc L st h
theorem jj_P.imp {l : Launch} {G : jj_G} {Y : jj_Y} {d : Nat} {F F' : jj_O → jj_H → Prop} {pc : Nat} {L : List (Option Value)} {st : List Value} {h : jj_H} (k : jj_P l G Y d F pc L st h) (hF : ∀ o h', F o h' → F' o h') : jj_P l G Y d F' pc L st h := by
  obtain ⟨o, h', a, b⟩ := k
  exact ⟨o, h', hF o h' a, b⟩
section JJP
variable {l : Launch} {G : jj_G} {Y : jj_Y} {d : Nat} {F : jj_O → jj_H → Prop} {pc : Nat} {L : List (Option Value)} {st : List Value} {h : jj_H}
theorem jj_pure {pc' : Nat} {L' : List (Option Value)} {st' : List Value}
    (hs : ∀ (p : Program) (e : Env) (R : Room) (s : State) (m : MethodId) (args : Array Value) (below : List Frame) (meth : Method) (c : Code) (H : Heap) (locs : List Loc) (cells slots : Nat) (Q : State → Prop) (ls : Array Slot), jj_cx Y l p s m args meth c → jj_L Y.2.2.1 L ls →
      (∀ ls' : Array Slot, jj_L Y.2.2.1 L' ls' → W p l e R s m args below meth c H locs cells slots Q (F0 m pc' ls' st')) → W p l e R s m args below meth c H locs cells slots Q (F0 m pc ls st))
    (k : jj_P l G Y d F pc' L' st' h) : jj_P l G Y d F pc L st h := by
  obtain ⟨o, h', hF, hm, hE⟩ := k
  refine ⟨o, h', hF, hm, fun p e R s m args below meth c H locs cells slots Q ls hx hw hr hS hH hL hK => ?_⟩
  exact hs p e R s m args below meth c H locs cells slots Q ls hx hL (fun ls' hL' => hE p e R s m args below meth c H locs cells slots Q ls' hx hw hr hS hH hL' hK)
theorem jj_iconst {n : Int} {v : Int32} (hd : decode Y.2.1 pc = .ok (.iconst n, 1)) (hv : Int32.ofInt n = v) (k : jj_P l G Y d F (pc + 1) L (.int v :: st) h) : jj_P l G Y d F pc L st h :=
  jj_pure (fun _ _ _ _ _ _ _ _ _ _ _ _ _ _ ls hx hL kk => lv_iconst hx.1 hx.2.1 hd hv (kk ls hL)) k
theorem jj_bipush {n : Int} {v : Int32} (hd : decode Y.2.1 pc = .ok (.bipush n, 2)) (hv : (Int8.ofInt n).toInt32 = v) (k : jj_P l G Y d F (pc + 2) L (.int v :: st) h) : jj_P l G Y d F pc L st h :=
  jj_pure (fun _ _ _ _ _ _ _ _ _ _ _ _ _ _ ls hx hL kk => lv_bipush hx.1 hx.2.1 hd hv (kk ls hL)) k
theorem jj_sipush {n : Int} {v : Int32} (hd : decode Y.2.1 pc = .ok (.sipush n, 3)) (hv : (Int16.ofInt n).toInt32 = v) (k : jj_P l G Y d F (pc + 3) L (.int v :: st) h) : jj_P l G Y d F pc L st h :=
  jj_pure (fun _ _ _ _ _ _ _ _ _ _ _ _ _ _ ls hx hL kk => lv_sipush hx.1 hx.2.1 hd hv (kk ls hL)) k
theorem jj_lconst {n : Fin 2} {v : Int64} (hd : decode Y.2.1 pc = .ok (.lconst n, 1)) (hv : Int64.ofNat (n : Nat) = v) (k : jj_P l G Y d F (pc + 1) L (.long v :: st) h) : jj_P l G Y d F pc L st h :=
  jj_pure (fun _ _ _ _ _ _ _ _ _ _ _ _ _ _ ls hx hL kk => lv_lconst hx.1 hx.2.1 hd hv (kk ls hL)) k
theorem jj_ldc {index : Nat} {v : Int32} (hd : decode Y.2.1 pc = .ok (.ldc index, 2)) (hw : Jvm.Cond.constant Y.1.cls index v ∈ jj_T) (k : jj_P l G Y d F (pc + 2) L (.int v :: st) h) : jj_P l G Y d F pc L st h :=
  jj_pure (fun _ _ _ _ _ _ _ _ _ _ _ _ _ _ ls hx hL kk => lv_ldc hx.1 hx.2.1 hx.2.2.2.1 (hx.2.2.2.2.1 _ hw) hd (kk ls hL)) k
theorem jj_ldc2 {index : Nat} {v : Int64} (hd : decode Y.2.1 pc = .ok (.ldc2_w index, 3)) (hw : Jvm.Cond.constantLong Y.1.cls index v ∈ jj_T) (k : jj_P l G Y d F (pc + 3) L (.long v :: st) h) : jj_P l G Y d F pc L st h :=
  jj_pure (fun _ _ _ _ _ _ _ _ _ _ _ _ _ _ ls hx hL kk => lv_ldc2 hx.1 hx.2.1 hx.2.2.2.1 (hx.2.2.2.2.1 _ hw) hd (kk ls hL)) k
theorem jj_iload_n {j : Fin 4} {x : Int32} (hd : decode Y.2.1 pc = .ok (.iload_n j, 1)) (hv : L[(j : Nat)]? = some (some (.int x))) (k : jj_P l G Y d F (pc + 1) L (.int x :: st) h) : jj_P l G Y d F pc L st h :=
  jj_pure (fun _ _ _ _ _ _ _ _ _ _ _ _ _ _ ls hx hL kk => lv_iload_n hx.1 hx.2.1 hd rfl (hL.2.2 _ _ hv) (kk ls hL)) k
theorem jj_iload {i : Nat} {x : Int32} (hd : decode Y.2.1 pc = .ok (.iload i, 2)) (hv : L[i]? = some (some (.int x))) (k : jj_P l G Y d F (pc + 2) L (.int x :: st) h) : jj_P l G Y d F pc L st h :=
  jj_pure (fun _ _ _ _ _ _ _ _ _ _ _ _ _ _ ls hx hL kk => lv_iload hx.1 hx.2.1 hd (hL.2.2 _ _ hv) (kk ls hL)) k
theorem jj_lload_n {j : Fin 4} {x : Int64} (hd : decode Y.2.1 pc = .ok (.lload_n j, 1)) (hv : L[(j : Nat)]? = some (some (.long x))) (k : jj_P l G Y d F (pc + 1) L (.long x :: st) h) : jj_P l G Y d F pc L st h :=
  jj_pure (fun _ _ _ _ _ _ _ _ _ _ _ _ _ _ ls hx hL kk => lv_lload_n hx.1 hx.2.1 hd rfl (hL.2.2 _ _ hv) (kk ls hL)) k
theorem jj_lload {i : Nat} {x : Int64} (hd : decode Y.2.1 pc = .ok (.lload i, 2)) (hv : L[i]? = some (some (.long x))) (k : jj_P l G Y d F (pc + 2) L (.long x :: st) h) : jj_P l G Y d F pc L st h :=
  jj_pure (fun _ _ _ _ _ _ _ _ _ _ _ _ _ _ ls hx hL kk => lv_lload hx.1 hx.2.1 hd (hL.2.2 _ _ hv) (kk ls hL)) k
theorem jj_aload_n {j : Fin 4} {x : Nat} (hd : decode Y.2.1 pc = .ok (.aload_n j, 1)) (hv : L[(j : Nat)]? = some (some (.ref x))) (k : jj_P l G Y d F (pc + 1) L (.ref x :: st) h) : jj_P l G Y d F pc L st h :=
  jj_pure (fun _ _ _ _ _ _ _ _ _ _ _ _ _ _ ls hx hL kk => lv_aload_n hx.1 hx.2.1 hd rfl (hL.2.2 _ _ hv) (kk ls hL)) k
theorem jj_aload {i : Nat} {x : Nat} (hd : decode Y.2.1 pc = .ok (.aload i, 2)) (hv : L[i]? = some (some (.ref x))) (k : jj_P l G Y d F (pc + 2) L (.ref x :: st) h) : jj_P l G Y d F pc L st h :=
  jj_pure (fun _ _ _ _ _ _ _ _ _ _ _ _ _ _ ls hx hL kk => lv_aload hx.1 hx.2.1 hd (hL.2.2 _ _ hv) (kk ls hL)) k
theorem jj_istore_n {j : Fin 4} {x : Int32} (hd : decode Y.2.1 pc = .ok (.istore_n j, 1)) (hb : (j : Nat) < Y.2.2.1) (ho : jj_ok1 L j = true) (k : jj_P l G Y d F (pc + 1) (L.set j (some (.int x))) st h) : jj_P l G Y d F pc L (.int x :: st) h :=
  jj_pure (fun _ _ _ _ _ _ _ _ _ _ _ _ _ _ ls hx hL kk => lv_istore_n hx.1 hx.2.1 hd rfl hL.has hb rfl (fun ls' h' => kk ls' (jj_L.set1 ho h'))) k
theorem jj_istore {i : Nat} {x : Int32} (hd : decode Y.2.1 pc = .ok (.istore i, 2)) (hb : i < Y.2.2.1) (ho : jj_ok1 L i = true) (k : jj_P l G Y d F (pc + 2) (L.set i (some (.int x))) st h) : jj_P l G Y d F pc L (.int x :: st) h :=
  jj_pure (fun _ _ _ _ _ _ _ _ _ _ _ _ _ _ ls hx hL kk => lv_istore hx.1 hx.2.1 hd hL.has hb rfl (fun ls' h' => kk ls' (jj_L.set1 ho h'))) k
theorem jj_lstore_n {j : Fin 4} {x : Int64} (hd : decode Y.2.1 pc = .ok (.lstore_n j, 1)) (hb : (j : Nat) + 1 < Y.2.2.1) (ho : jj_ok1 L j = true) (k : jj_P l G Y d F (pc + 1) ((L.set j (some (.long x))).set (j + 1) none) st h) : jj_P l G Y d F pc L (.long x :: st) h :=
  jj_pure (fun _ _ _ _ _ _ _ _ _ _ _ _ _ _ ls hx hL kk => lv_lstore_n hx.1 hx.2.1 hd rfl hL.has hb rfl (fun ls' h' => kk ls' (jj_L.set2 ho h'))) k
theorem jj_lstore {i : Nat} {x : Int64} (hd : decode Y.2.1 pc = .ok (.lstore i, 2)) (hb : i + 1 < Y.2.2.1) (ho : jj_ok1 L i = true) (k : jj_P l G Y d F (pc + 2) ((L.set i (some (.long x))).set (i + 1) none) st h) : jj_P l G Y d F pc L (.long x :: st) h :=
  jj_pure (fun _ _ _ _ _ _ _ _ _ _ _ _ _ _ ls hx hL kk => lv_lstore hx.1 hx.2.1 hd hL.has hb rfl (fun ls' h' => kk ls' (jj_L.set2 ho h'))) k
theorem jj_astore_n {j : Fin 4} {x : Nat} (hd : decode Y.2.1 pc = .ok (.astore_n j, 1)) (hb : (j : Nat) < Y.2.2.1) (ho : jj_ok1 L j = true) (k : jj_P l G Y d F (pc + 1) (L.set j (some (.ref x))) st h) : jj_P l G Y d F pc L (.ref x :: st) h :=
  jj_pure (fun _ _ _ _ _ _ _ _ _ _ _ _ _ _ ls hx hL kk => lv_astore_n hx.1 hx.2.1 hd rfl hL.has hb rfl (fun ls' h' => kk ls' (jj_L.set1 ho h'))) k
theorem jj_astore {i : Nat} {x : Nat} (hd : decode Y.2.1 pc = .ok (.astore i, 2)) (hb : i < Y.2.2.1) (ho : jj_ok1 L i = true) (k : jj_P l G Y d F (pc + 2) (L.set i (some (.ref x))) st h) : jj_P l G Y d F pc L (.ref x :: st) h :=
  jj_pure (fun _ _ _ _ _ _ _ _ _ _ _ _ _ _ ls hx hL kk => lv_astore hx.1 hx.2.1 hd hL.has hb rfl (fun ls' h' => kk ls' (jj_L.set1 ho h'))) k
theorem jj_iinc {i : Nat} {n : Int} {x v : Int32} (hd : decode Y.2.1 pc = .ok (.iinc i n, 3)) (hv : L[i]? = some (some (.int x))) (he : x + Int32.ofInt n = v) (hb : i < Y.2.2.1) (ho : jj_ok1 L i = true) (k : jj_P l G Y d F (pc + 3) (L.set i (some (.int v))) st h) : jj_P l G Y d F pc L st h := by
  obtain ⟨j, hj⟩ := List.getElem?_of_mem ((jj_l_mem L 0 i (.int x)).mpr ⟨Nat.zero_le _, hv⟩)
  exact jj_pure (fun _ _ _ _ _ _ _ _ _ _ _ _ _ _ ls hx hL kk => lv_iinc hx.1 hx.2.1 hd hL.has hj he hb rfl (fun ls' h' => kk ls' (jj_L.set1 ho h'))) k
theorem jj_iadd {x y : Int32} (hd : decode Y.2.1 pc = .ok (.iadd, 1)) (k : jj_P l G Y d F (pc + 1) L (.int (x + y) :: st) h) : jj_P l G Y d F pc L (.int y :: .int x :: st) h :=
  jj_pure (fun _ _ _ _ _ _ _ _ _ _ _ _ _ _ ls hx hL kk => lv_iadd hx.1 hx.2.1 hd (kk ls hL)) k
theorem jj_isub {x y : Int32} (hd : decode Y.2.1 pc = .ok (.isub, 1)) (k : jj_P l G Y d F (pc + 1) L (.int (x - y) :: st) h) : jj_P l G Y d F pc L (.int y :: .int x :: st) h :=
  jj_pure (fun _ _ _ _ _ _ _ _ _ _ _ _ _ _ ls hx hL kk => lv_isub hx.1 hx.2.1 hd (kk ls hL)) k
theorem jj_imul {x y : Int32} (hd : decode Y.2.1 pc = .ok (.imul, 1)) (k : jj_P l G Y d F (pc + 1) L (.int (x * y) :: st) h) : jj_P l G Y d F pc L (.int y :: .int x :: st) h :=
  jj_pure (fun _ _ _ _ _ _ _ _ _ _ _ _ _ _ ls hx hL kk => lv_imul hx.1 hx.2.1 hd (kk ls hL)) k
theorem jj_iand {x y : Int32} (hd : decode Y.2.1 pc = .ok (.iand, 1)) (k : jj_P l G Y d F (pc + 1) L (.int (x &&& y) :: st) h) : jj_P l G Y d F pc L (.int y :: .int x :: st) h :=
  jj_pure (fun _ _ _ _ _ _ _ _ _ _ _ _ _ _ ls hx hL kk => lv_iand hx.1 hx.2.1 hd (kk ls hL)) k
theorem jj_ior {x y : Int32} (hd : decode Y.2.1 pc = .ok (.ior, 1)) (k : jj_P l G Y d F (pc + 1) L (.int (x ||| y) :: st) h) : jj_P l G Y d F pc L (.int y :: .int x :: st) h :=
  jj_pure (fun _ _ _ _ _ _ _ _ _ _ _ _ _ _ ls hx hL kk => lv_ior hx.1 hx.2.1 hd (kk ls hL)) k
theorem jj_ixor {x y : Int32} (hd : decode Y.2.1 pc = .ok (.ixor, 1)) (k : jj_P l G Y d F (pc + 1) L (.int (x ^^^ y) :: st) h) : jj_P l G Y d F pc L (.int y :: .int x :: st) h :=
  jj_pure (fun _ _ _ _ _ _ _ _ _ _ _ _ _ _ ls hx hL kk => lv_ixor hx.1 hx.2.1 hd (kk ls hL)) k
theorem jj_ladd {x y : Int64} (hd : decode Y.2.1 pc = .ok (.ladd, 1)) (k : jj_P l G Y d F (pc + 1) L (.long (x + y) :: st) h) : jj_P l G Y d F pc L (.long y :: .long x :: st) h :=
  jj_pure (fun _ _ _ _ _ _ _ _ _ _ _ _ _ _ ls hx hL kk => lv_ladd hx.1 hx.2.1 hd (kk ls hL)) k
theorem jj_lsub {x y : Int64} (hd : decode Y.2.1 pc = .ok (.lsub, 1)) (k : jj_P l G Y d F (pc + 1) L (.long (x - y) :: st) h) : jj_P l G Y d F pc L (.long y :: .long x :: st) h :=
  jj_pure (fun _ _ _ _ _ _ _ _ _ _ _ _ _ _ ls hx hL kk => lv_lsub hx.1 hx.2.1 hd (kk ls hL)) k
theorem jj_lmul {x y : Int64} (hd : decode Y.2.1 pc = .ok (.lmul, 1)) (k : jj_P l G Y d F (pc + 1) L (.long (x * y) :: st) h) : jj_P l G Y d F pc L (.long y :: .long x :: st) h :=
  jj_pure (fun _ _ _ _ _ _ _ _ _ _ _ _ _ _ ls hx hL kk => lv_lmul hx.1 hx.2.1 hd (kk ls hL)) k
theorem jj_land {x y : Int64} (hd : decode Y.2.1 pc = .ok (.land, 1)) (k : jj_P l G Y d F (pc + 1) L (.long (x &&& y) :: st) h) : jj_P l G Y d F pc L (.long y :: .long x :: st) h :=
  jj_pure (fun _ _ _ _ _ _ _ _ _ _ _ _ _ _ ls hx hL kk => lv_land hx.1 hx.2.1 hd (kk ls hL)) k
theorem jj_lor {x y : Int64} (hd : decode Y.2.1 pc = .ok (.lor, 1)) (k : jj_P l G Y d F (pc + 1) L (.long (x ||| y) :: st) h) : jj_P l G Y d F pc L (.long y :: .long x :: st) h :=
  jj_pure (fun _ _ _ _ _ _ _ _ _ _ _ _ _ _ ls hx hL kk => lv_lor hx.1 hx.2.1 hd (kk ls hL)) k
theorem jj_lxor {x y : Int64} (hd : decode Y.2.1 pc = .ok (.lxor, 1)) (k : jj_P l G Y d F (pc + 1) L (.long (x ^^^ y) :: st) h) : jj_P l G Y d F pc L (.long y :: .long x :: st) h :=
  jj_pure (fun _ _ _ _ _ _ _ _ _ _ _ _ _ _ ls hx hL kk => lv_lxor hx.1 hx.2.1 hd (kk ls hL)) k
theorem jj_ishl {x y : Int32} (hd : decode Y.2.1 pc = .ok (.ishl, 1)) (k : jj_P l G Y d F (pc + 1) L (.int (x <<< (y &&& 31)) :: st) h) : jj_P l G Y d F pc L (.int y :: .int x :: st) h :=
  jj_pure (fun _ _ _ _ _ _ _ _ _ _ _ _ _ _ ls hx hL kk => lv_ishl hx.1 hx.2.1 hd (kk ls hL)) k
theorem jj_ishr {x y : Int32} (hd : decode Y.2.1 pc = .ok (.ishr, 1)) (k : jj_P l G Y d F (pc + 1) L (.int (x >>> (y &&& 31)) :: st) h) : jj_P l G Y d F pc L (.int y :: .int x :: st) h :=
  jj_pure (fun _ _ _ _ _ _ _ _ _ _ _ _ _ _ ls hx hL kk => lv_ishr hx.1 hx.2.1 hd (kk ls hL)) k
theorem jj_ineg {x : Int32} (hd : decode Y.2.1 pc = .ok (.ineg, 1)) (k : jj_P l G Y d F (pc + 1) L (.int (-x) :: st) h) : jj_P l G Y d F pc L (.int x :: st) h :=
  jj_pure (fun _ _ _ _ _ _ _ _ _ _ _ _ _ _ ls hx hL kk => lv_ineg hx.1 hx.2.1 hd (kk ls hL)) k
theorem jj_iushr {x y : Int32} (hd : decode Y.2.1 pc = .ok (.iushr, 1)) (k : jj_P l G Y d F (pc + 1) L (.int (x.toUInt32 >>> (y.toUInt32 &&& Int32.toUInt32 31)).toInt32 :: st) h) : jj_P l G Y d F pc L (.int y :: .int x :: st) h :=
  jj_pure (fun _ _ _ _ _ _ _ _ _ _ _ _ _ _ ls hx hL kk => lv_iushr hx.1 hx.2.1 hd rfl (kk ls hL)) k
theorem jj_idiv {x y : Int32} (hd : decode Y.2.1 pc = .ok (.idiv, 1)) (hn : ¬ y = 0) (k : jj_P l G Y d F (pc + 1) L (.int (x / y) :: st) h) : jj_P l G Y d F pc L (.int y :: .int x :: st) h :=
  jj_pure (fun _ _ _ _ _ _ _ _ _ _ _ _ _ _ ls hx hL kk => lv_idiv hx.1 hx.2.1 hd hn (kk ls hL)) k
theorem jj_irem {x y : Int32} (hd : decode Y.2.1 pc = .ok (.irem, 1)) (hn : ¬ y = 0) (k : jj_P l G Y d F (pc + 1) L (.int (x - x / y * y) :: st) h) : jj_P l G Y d F pc L (.int y :: .int x :: st) h :=
  jj_pure (fun _ _ _ _ _ _ _ _ _ _ _ _ _ _ ls hx hL kk => lv_irem hx.1 hx.2.1 hd hn (kk ls hL)) k
theorem jj_i2l {x : Int32} (hd : decode Y.2.1 pc = .ok (.i2l, 1)) (k : jj_P l G Y d F (pc + 1) L (.long x.toInt64 :: st) h) : jj_P l G Y d F pc L (.int x :: st) h :=
  jj_pure (fun _ _ _ _ _ _ _ _ _ _ _ _ _ _ ls hx hL kk => lv_i2l hx.1 hx.2.1 hd rfl (kk ls hL)) k
theorem jj_l2i {x : Int64} (hd : decode Y.2.1 pc = .ok (.l2i, 1)) (k : jj_P l G Y d F (pc + 1) L (.int x.toInt32 :: st) h) : jj_P l G Y d F pc L (.long x :: st) h :=
  jj_pure (fun _ _ _ _ _ _ _ _ _ _ _ _ _ _ ls hx hL kk => lv_l2i hx.1 hx.2.1 hd rfl (kk ls hL)) k
theorem jj_i2c {x : Int32} (hd : decode Y.2.1 pc = .ok (.i2c, 1)) (k : jj_P l G Y d F (pc + 1) L (.int (x.toUInt32 % 65536).toInt32 :: st) h) : jj_P l G Y d F pc L (.int x :: st) h :=
  jj_pure (fun _ _ _ _ _ _ _ _ _ _ _ _ _ _ ls hx hL kk => lv_i2c hx.1 hx.2.1 hd rfl (kk ls hL)) k
theorem jj_i2b {x : Int32} (hd : decode Y.2.1 pc = .ok (.i2b, 1)) (k : jj_P l G Y d F (pc + 1) L (.int x.toInt8.toInt32 :: st) h) : jj_P l G Y d F pc L (.int x :: st) h :=
  jj_pure (fun _ _ _ _ _ _ _ _ _ _ _ _ _ _ ls hx hL kk => lv_i2b hx.1 hx.2.1 hd rfl (kk ls hL)) k
theorem jj_dup {v : Value} (hd : decode Y.2.1 pc = .ok (.dup, 1)) (hc : v.category = 1) (k : jj_P l G Y d F (pc + 1) L (v :: v :: st) h) : jj_P l G Y d F pc L (v :: st) h :=
  jj_pure (fun _ _ _ _ _ _ _ _ _ _ _ _ _ _ ls hx hL kk => lv_dup hx.1 hx.2.1 hd hc (kk ls hL)) k
theorem jj_pop {v : Value} (hd : decode Y.2.1 pc = .ok (.pop, 1)) (hc : v.category = 1) (k : jj_P l G Y d F (pc + 1) L st h) : jj_P l G Y d F pc L (v :: st) h :=
  jj_pure (fun _ _ _ _ _ _ _ _ _ _ _ _ _ _ ls hx hL kk => lv_pop hx.1 hx.2.1 hd hc (kk ls hL)) k
theorem jj_dup_x1 {v w : Value} (hd : decode Y.2.1 pc = .ok (.dup_x1, 1)) (hc : v.category = 1) (hw : w.category = 1) (k : jj_P l G Y d F (pc + 1) L (v :: w :: v :: st) h) : jj_P l G Y d F pc L (v :: w :: st) h :=
  jj_pure (fun _ _ _ _ _ _ _ _ _ _ _ _ _ _ ls hx hL kk => lv_dup_x1 hx.1 hx.2.1 hd hc hw (kk ls hL)) k
theorem jj_dup_x2 {v w z : Value} (hd : decode Y.2.1 pc = .ok (.dup_x2, 1)) (hc : v.category = 1) (hw : w.category = 1) (hz : z.category = 1) (k : jj_P l G Y d F (pc + 1) L (v :: w :: z :: v :: st) h) : jj_P l G Y d F pc L (v :: w :: z :: st) h :=
  jj_pure (fun _ _ _ _ _ _ _ _ _ _ _ _ _ _ ls hx hL kk => lv_dup_x2 hx.1 hx.2.1 hd hc hw hz (kk ls hL)) k
theorem jj_dup2 {v w : Value} (hd : decode Y.2.1 pc = .ok (.dup2, 1)) (hc : v.category = 1) (hw : w.category = 1) (k : jj_P l G Y d F (pc + 1) L (v :: w :: v :: w :: st) h) : jj_P l G Y d F pc L (v :: w :: st) h :=
  jj_pure (fun _ _ _ _ _ _ _ _ _ _ _ _ _ _ ls hx hL kk => lv_dup2_11 hx.1 hx.2.1 hd hc hw (kk ls hL)) k
theorem jj_dup2l {v : Value} (hd : decode Y.2.1 pc = .ok (.dup2, 1)) (hc : v.category = 2) (k : jj_P l G Y d F (pc + 1) L (v :: v :: st) h) : jj_P l G Y d F pc L (v :: st) h :=
  jj_pure (fun _ _ _ _ _ _ _ _ _ _ _ _ _ _ ls hx hL kk => lv_dup2_2 hx.1 hx.2.1 hd hc (kk ls hL)) k
theorem jj_goto {off : Int} {tgt : Nat} (hd : decode Y.2.1 pc = .ok (.goto off, 3)) (ht : (pc : Int) + off = (tgt : Int)) (k : jj_P l G Y d F tgt L st h) : jj_P l G Y d F pc L st h :=
  jj_pure (fun _ _ _ _ _ _ _ _ _ _ _ _ _ _ ls hx hL kk => lv_goto hx.1 hx.2.1 hd ht (kk ls hL)) k
theorem jj_if_eq {x : Int32} {off : Int} {tgt : Nat} (hd : decode Y.2.1 pc = .ok (.ifCond .eq off, 3)) (ht : (pc : Int) + off = (tgt : Int)) (kt : x = 0 → jj_P l G Y d F tgt L st h) (kf : ¬ x = 0 → jj_P l G Y d F (pc + 3) L st h) : jj_P l G Y d F pc L (.int x :: st) h := by
  by_cases hc : x = 0
  · exact jj_pure (fun _ _ _ _ _ _ _ _ _ _ _ _ _ _ ls hx hL kk => lv_if_eq hx.1 hx.2.1 hd ht (fun _ => kk ls hL) (fun q => absurd q (by first | exact not_not_intro hc | exact hc))) (kt hc)
  · exact jj_pure (fun _ _ _ _ _ _ _ _ _ _ _ _ _ _ ls hx hL kk => lv_if_eq hx.1 hx.2.1 hd ht (fun q => absurd q hc) (fun _ => kk ls hL)) (kf (by first | exact hc | exact Classical.not_not.mp hc))
theorem jj_icmp_eq {x y : Int32} {off : Int} {tgt : Nat} (hd : decode Y.2.1 pc = .ok (.if_icmp .eq off, 3)) (ht : (pc : Int) + off = (tgt : Int)) (kt : x = y → jj_P l G Y d F tgt L st h) (kf : ¬ x = y → jj_P l G Y d F (pc + 3) L st h) : jj_P l G Y d F pc L (.int y :: .int x :: st) h := by
  by_cases hc : x = y
  · exact jj_pure (fun _ _ _ _ _ _ _ _ _ _ _ _ _ _ ls hx hL kk => lv_icmp_eq hx.1 hx.2.1 hd ht (fun _ => kk ls hL) (fun q => absurd q (by first | exact not_not_intro hc | exact hc))) (kt hc)
  · exact jj_pure (fun _ _ _ _ _ _ _ _ _ _ _ _ _ _ ls hx hL kk => lv_icmp_eq hx.1 hx.2.1 hd ht (fun q => absurd q hc) (fun _ => kk ls hL)) (kf (by first | exact hc | exact Classical.not_not.mp hc))
theorem jj_if_ne {x : Int32} {off : Int} {tgt : Nat} (hd : decode Y.2.1 pc = .ok (.ifCond .ne off, 3)) (ht : (pc : Int) + off = (tgt : Int)) (kt : ¬ x = 0 → jj_P l G Y d F tgt L st h) (kf : x = 0 → jj_P l G Y d F (pc + 3) L st h) : jj_P l G Y d F pc L (.int x :: st) h := by
  by_cases hc : ¬ x = 0
  · exact jj_pure (fun _ _ _ _ _ _ _ _ _ _ _ _ _ _ ls hx hL kk => lv_if_ne hx.1 hx.2.1 hd ht (fun _ => kk ls hL) (fun q => absurd q (by first | exact not_not_intro hc | exact hc))) (kt hc)
  · exact jj_pure (fun _ _ _ _ _ _ _ _ _ _ _ _ _ _ ls hx hL kk => lv_if_ne hx.1 hx.2.1 hd ht (fun q => absurd q hc) (fun _ => kk ls hL)) (kf (by first | exact hc | exact Classical.not_not.mp hc))
theorem jj_icmp_ne {x y : Int32} {off : Int} {tgt : Nat} (hd : decode Y.2.1 pc = .ok (.if_icmp .ne off, 3)) (ht : (pc : Int) + off = (tgt : Int)) (kt : ¬ x = y → jj_P l G Y d F tgt L st h) (kf : x = y → jj_P l G Y d F (pc + 3) L st h) : jj_P l G Y d F pc L (.int y :: .int x :: st) h := by
  by_cases hc : ¬ x = y
  · exact jj_pure (fun _ _ _ _ _ _ _ _ _ _ _ _ _ _ ls hx hL kk => lv_icmp_ne hx.1 hx.2.1 hd ht (fun _ => kk ls hL) (fun q => absurd q (by first | exact not_not_intro hc | exact hc))) (kt hc)
  · exact jj_pure (fun _ _ _ _ _ _ _ _ _ _ _ _ _ _ ls hx hL kk => lv_icmp_ne hx.1 hx.2.1 hd ht (fun q => absurd q hc) (fun _ => kk ls hL)) (kf (by first | exact hc | exact Classical.not_not.mp hc))
theorem jj_if_lt {x : Int32} {off : Int} {tgt : Nat} (hd : decode Y.2.1 pc = .ok (.ifCond .lt off, 3)) (ht : (pc : Int) + off = (tgt : Int)) (kt : x < 0 → jj_P l G Y d F tgt L st h) (kf : ¬ x < 0 → jj_P l G Y d F (pc + 3) L st h) : jj_P l G Y d F pc L (.int x :: st) h := by
  by_cases hc : x < 0
  · exact jj_pure (fun _ _ _ _ _ _ _ _ _ _ _ _ _ _ ls hx hL kk => lv_if_lt hx.1 hx.2.1 hd ht (fun _ => kk ls hL) (fun q => absurd q (by first | exact not_not_intro hc | exact hc))) (kt hc)
  · exact jj_pure (fun _ _ _ _ _ _ _ _ _ _ _ _ _ _ ls hx hL kk => lv_if_lt hx.1 hx.2.1 hd ht (fun q => absurd q hc) (fun _ => kk ls hL)) (kf (by first | exact hc | exact Classical.not_not.mp hc))
theorem jj_icmp_lt {x y : Int32} {off : Int} {tgt : Nat} (hd : decode Y.2.1 pc = .ok (.if_icmp .lt off, 3)) (ht : (pc : Int) + off = (tgt : Int)) (kt : x < y → jj_P l G Y d F tgt L st h) (kf : ¬ x < y → jj_P l G Y d F (pc + 3) L st h) : jj_P l G Y d F pc L (.int y :: .int x :: st) h := by
  by_cases hc : x < y
  · exact jj_pure (fun _ _ _ _ _ _ _ _ _ _ _ _ _ _ ls hx hL kk => lv_icmp_lt hx.1 hx.2.1 hd ht (fun _ => kk ls hL) (fun q => absurd q (by first | exact not_not_intro hc | exact hc))) (kt hc)
  · exact jj_pure (fun _ _ _ _ _ _ _ _ _ _ _ _ _ _ ls hx hL kk => lv_icmp_lt hx.1 hx.2.1 hd ht (fun q => absurd q hc) (fun _ => kk ls hL)) (kf (by first | exact hc | exact Classical.not_not.mp hc))
theorem jj_if_ge {x : Int32} {off : Int} {tgt : Nat} (hd : decode Y.2.1 pc = .ok (.ifCond .ge off, 3)) (ht : (pc : Int) + off = (tgt : Int)) (kt : 0 ≤ x → jj_P l G Y d F tgt L st h) (kf : ¬ 0 ≤ x → jj_P l G Y d F (pc + 3) L st h) : jj_P l G Y d F pc L (.int x :: st) h := by
  by_cases hc : 0 ≤ x
  · exact jj_pure (fun _ _ _ _ _ _ _ _ _ _ _ _ _ _ ls hx hL kk => lv_if_ge hx.1 hx.2.1 hd ht (fun _ => kk ls hL) (fun q => absurd q (by first | exact not_not_intro hc | exact hc))) (kt hc)
  · exact jj_pure (fun _ _ _ _ _ _ _ _ _ _ _ _ _ _ ls hx hL kk => lv_if_ge hx.1 hx.2.1 hd ht (fun q => absurd q hc) (fun _ => kk ls hL)) (kf (by first | exact hc | exact Classical.not_not.mp hc))
theorem jj_icmp_ge {x y : Int32} {off : Int} {tgt : Nat} (hd : decode Y.2.1 pc = .ok (.if_icmp .ge off, 3)) (ht : (pc : Int) + off = (tgt : Int)) (kt : y ≤ x → jj_P l G Y d F tgt L st h) (kf : ¬ y ≤ x → jj_P l G Y d F (pc + 3) L st h) : jj_P l G Y d F pc L (.int y :: .int x :: st) h := by
  by_cases hc : y ≤ x
  · exact jj_pure (fun _ _ _ _ _ _ _ _ _ _ _ _ _ _ ls hx hL kk => lv_icmp_ge hx.1 hx.2.1 hd ht (fun _ => kk ls hL) (fun q => absurd q (by first | exact not_not_intro hc | exact hc))) (kt hc)
  · exact jj_pure (fun _ _ _ _ _ _ _ _ _ _ _ _ _ _ ls hx hL kk => lv_icmp_ge hx.1 hx.2.1 hd ht (fun q => absurd q hc) (fun _ => kk ls hL)) (kf (by first | exact hc | exact Classical.not_not.mp hc))
theorem jj_if_gt {x : Int32} {off : Int} {tgt : Nat} (hd : decode Y.2.1 pc = .ok (.ifCond .gt off, 3)) (ht : (pc : Int) + off = (tgt : Int)) (kt : 0 < x → jj_P l G Y d F tgt L st h) (kf : ¬ 0 < x → jj_P l G Y d F (pc + 3) L st h) : jj_P l G Y d F pc L (.int x :: st) h := by
  by_cases hc : 0 < x
  · exact jj_pure (fun _ _ _ _ _ _ _ _ _ _ _ _ _ _ ls hx hL kk => lv_if_gt hx.1 hx.2.1 hd ht (fun _ => kk ls hL) (fun q => absurd q (by first | exact not_not_intro hc | exact hc))) (kt hc)
  · exact jj_pure (fun _ _ _ _ _ _ _ _ _ _ _ _ _ _ ls hx hL kk => lv_if_gt hx.1 hx.2.1 hd ht (fun q => absurd q hc) (fun _ => kk ls hL)) (kf (by first | exact hc | exact Classical.not_not.mp hc))
theorem jj_icmp_gt {x y : Int32} {off : Int} {tgt : Nat} (hd : decode Y.2.1 pc = .ok (.if_icmp .gt off, 3)) (ht : (pc : Int) + off = (tgt : Int)) (kt : y < x → jj_P l G Y d F tgt L st h) (kf : ¬ y < x → jj_P l G Y d F (pc + 3) L st h) : jj_P l G Y d F pc L (.int y :: .int x :: st) h := by
  by_cases hc : y < x
  · exact jj_pure (fun _ _ _ _ _ _ _ _ _ _ _ _ _ _ ls hx hL kk => lv_icmp_gt hx.1 hx.2.1 hd ht (fun _ => kk ls hL) (fun q => absurd q (by first | exact not_not_intro hc | exact hc))) (kt hc)
  · exact jj_pure (fun _ _ _ _ _ _ _ _ _ _ _ _ _ _ ls hx hL kk => lv_icmp_gt hx.1 hx.2.1 hd ht (fun q => absurd q hc) (fun _ => kk ls hL)) (kf (by first | exact hc | exact Classical.not_not.mp hc))
theorem jj_if_le {x : Int32} {off : Int} {tgt : Nat} (hd : decode Y.2.1 pc = .ok (.ifCond .le off, 3)) (ht : (pc : Int) + off = (tgt : Int)) (kt : x ≤ 0 → jj_P l G Y d F tgt L st h) (kf : ¬ x ≤ 0 → jj_P l G Y d F (pc + 3) L st h) : jj_P l G Y d F pc L (.int x :: st) h := by
  by_cases hc : x ≤ 0
  · exact jj_pure (fun _ _ _ _ _ _ _ _ _ _ _ _ _ _ ls hx hL kk => lv_if_le hx.1 hx.2.1 hd ht (fun _ => kk ls hL) (fun q => absurd q (by first | exact not_not_intro hc | exact hc))) (kt hc)
  · exact jj_pure (fun _ _ _ _ _ _ _ _ _ _ _ _ _ _ ls hx hL kk => lv_if_le hx.1 hx.2.1 hd ht (fun q => absurd q hc) (fun _ => kk ls hL)) (kf (by first | exact hc | exact Classical.not_not.mp hc))
theorem jj_icmp_le {x y : Int32} {off : Int} {tgt : Nat} (hd : decode Y.2.1 pc = .ok (.if_icmp .le off, 3)) (ht : (pc : Int) + off = (tgt : Int)) (kt : x ≤ y → jj_P l G Y d F tgt L st h) (kf : ¬ x ≤ y → jj_P l G Y d F (pc + 3) L st h) : jj_P l G Y d F pc L (.int y :: .int x :: st) h := by
  by_cases hc : x ≤ y
  · exact jj_pure (fun _ _ _ _ _ _ _ _ _ _ _ _ _ _ ls hx hL kk => lv_icmp_le hx.1 hx.2.1 hd ht (fun _ => kk ls hL) (fun q => absurd q (by first | exact not_not_intro hc | exact hc))) (kt hc)
  · exact jj_pure (fun _ _ _ _ _ _ _ _ _ _ _ _ _ _ ls hx hL kk => lv_icmp_le hx.1 hx.2.1 hd ht (fun q => absurd q hc) (fun _ => kk ls hL)) (kf (by first | exact hc | exact Classical.not_not.mp hc))
/-! fields, arrays, new objects -/
/-- what the tables say of a class of the worlds -/
def jj_ck (ci : Nat) (C : String) (T : u_T) (N : Nat) (ty : Nat → FieldType) : Prop := vwCl[ci]? = some (C, T, N) ∧ (∀ w ∈ u_ws C T N, w ∈ jj_T) ∧ (∀ k, k < N → parseFieldDescriptor (T k).2.2.1 = some (ty k)) ∧ ∀ a, a < N → ∀ b, b < N → a ≠ b → (T a).2.1 ≠ (T b).2.1
/-- the pool's name of the field k of T leads to it -/
def jj_fl (own : String) (index : Nat) (T : u_T) (k : Nat) : Prop := ∃ ref : String, Cond.fieldLink own index ref (T k).2.1 (T k).2.2.1 ∈ jj_T ∧ (ref = (T k).1 ∨ Cond.sameField ref (T k).1 (T k).2.1 (T k).2.2.1 ∈ jj_T)
theorem jj_fl.use {own : String} {index : Nat} {T : u_T} {k : Nat} (h : jj_fl own index T k) {args : Array Value} {s : State} (hts : ∀ w ∈ jj_T, w.before args s = true) : ∃ ref : String, (Cond.fieldLink own index ref (T k).2.1 (T k).2.2.1).before args s = true ∧ ∀ x, s.fieldFound? (T k).1 (T k).2.1 (T k).2.2.1 = some x → s.fieldFound? ref (T k).2.1 (T k).2.2.1 = some x := by
  obtain ⟨ref, h1, h2⟩ := h
  refine ⟨ref, hts _ h1, fun x hx => ?_⟩
  rcases h2 with h2 | h2
  · rw [h2]; exact hx
  · exact u_same (hts _ h2) x hx
theorem jj_hp.one {G : jj_G} {h : jj_H} {H : Heap} (hh : jj_hp G h H) {a : Nat} {e : va_E} (ha : h.1 a = some e) : va_P G.2.1 vwCl [(a, e)] H := by
  intro k q hq
  have hz : k < 1 := (List.getElem?_eq_some_iff.mp hq).1
  rw [show k = 0 by omega] at hq
  cases hq
  exact (hh.2.2 a e ha).2
theorem jj_getfield {index a ci : Nat} {fs : List Value} {C : String} {T : u_T} {N : Nat} {ty : Nat → FieldType} {v : Value} (k : Nat) (hck : jj_ck ci C T N ty) (hl : jj_fl Y.1.cls index T k) (hk : k < N) (hd : decode Y.2.1 pc = .ok (.getfield index, 3)) (ha : h.1 a = some (.inr (ci, fs))) (hv : fs[k]? = some v)
    (kk : jj_P l G Y d F (pc + 3) L (v :: st) h) : jj_P l G Y d F pc L (.ref a :: st) h := by
  obtain ⟨o, h', hF, hm, hE⟩ := kk
  refine ⟨o, h', hF, hm, fun p e R s m args below meth c H locs cells slots Q ls hx hw hr hS hH hL hK => ?_⟩
  obtain ⟨ref, hl1, hl2⟩ := hl.use hx.2.2.2.2.1
  exact va_get hx.1 hx.2.1 hx.2.2.2.2.1 hck.2.1 hx.2.2.2.1 hw.1 (hH.one ha) 0 rfl hck.1 k hk hl1 hl2 hv hd (hE p e R s m args below meth c H locs cells slots Q ls hx hw hr hS hH hL hK)
theorem jj_putfield {index a ci : Nat} {fs : List Value} {C : String} {T : u_T} {N : Nat} {ty : Nat → FieldType} {v : Value} (k : Nat) (hck : jj_ck ci C T N ty) (hl : jj_fl Y.1.cls index T k) (hk : k < N) (hf : (T k).2.2.2 = false) (hd : decode Y.2.1 pc = .ok (.putfield index, 3)) (ha : h.1 a = some (.inr (ci, fs))) (hn : narrow (ty k) v = v) (hfit : fits (ty k) v = true) (hlen : k < fs.length)
    (kk : jj_P l G Y d F (pc + 3) L st (jj_up h.1 a (.inr (ci, fs.set k v)), h.2)) : jj_P l G Y d F pc L (v :: .ref a :: st) h := by
  obtain ⟨o, h', hF, hm, hE⟩ := kk
  refine ⟨o, h', hF, hm, fun p e R s m args below meth c H locs cells slots Q ls hx hw hr hS hH hL hK => ?_⟩
  obtain ⟨hC, hin, hty, hnm⟩ := hck
  have hts := hx.2.2.2.2.1
  obtain ⟨ref, hl1, hl2⟩ := hl.use hts
  have hK0 := hw.1
  have hap := va_apart (own := Y.1.cls) hts hin ty hty hnm hK0 hC
  obtain ⟨hb0, r, h1, cell, q1, q2, q3, q4⟩ := hH.2.2 a _ ha
  have hr9 : r = (C, T, N) := Option.some.inj (h1.symm.trans hC)
  subst hr9
  obtain ⟨hSl, hfc, kC, hkC, hkind⟩ := hK0.1 ci _ hC
  obtain ⟨cf, kf, fi, f, hi, hsl⟩ := hSl k hk
  have hlay := hts _ (hin _ (u_in_lay hk))
  unfold u_lay at hlay
  rw [if_neg (by rw [hf]; decide)] at hlay
  have hst := (u_facts hfc hkC (u_lays hts hin hk) hi).1
  have h6 := u_store hfc hkC hkind hlay hi (hty k hk) hn hfit
  refine W.putK hx.1 hx.2.1 (f := f) ⟨hx.2.2.2.1, hl1, ⟨_, _, _, hl2 _ hi⟩, hst⟩ (by rw [q2]; exact h6) q1 q3 (by rw [hsl]; exact k2_hasslot (q4 k hk)) rfl rfl hd fun H' e1 e2 e3 => ?_
  rw [hsl] at e1 ⊢
  exact hE p e R s m args below meth c H' _ cells slots Q ls hx hw hr (hS.put e2 e3 hb0) (hH.put ha ⟨_, hC, t_OB.to (V := updV (vp_V fs) k v) ⟨_, e1, q2, q3, t_set q4 hap hk v⟩ (fun j _ => vp_updV_set hlen v j)⟩ e2 e3) hL hK
/-- a final field, in a constructor of its own class -/
theorem jj_putfinal {index a ci : Nat} {fs : List Value} {C : String} {T : u_T} {N : Nat} {ty : Nat → FieldType} {v : Value} (k : Nat) (hck : jj_ck ci C T N ty) (hl : jj_fl Y.1.cls index T k) (hk : k < N) (hf : (T k).2.2.2 = true) (hi0 : Y.1.name = "<init>") (hdecl : (T k).1 = Y.1.cls) (hd : decode Y.2.1 pc = .ok (.putfield index, 3)) (ha : h.1 a = some (.inr (ci, fs))) (hn : narrow (ty k) v = v) (hfit : fits (ty k) v = true) (hlen : k < fs.length)
    (kk : jj_P l G Y d F (pc + 3) L st (jj_up h.1 a (.inr (ci, fs.set k v)), h.2)) : jj_P l G Y d F pc L (v :: .ref a :: st) h := by
  obtain ⟨o, h', hF, hm, hE⟩ := kk
  refine ⟨o, h', hF, hm, fun p e R s m args below meth c H locs cells slots Q ls hx hw hr hS hH hL hK => ?_⟩
  obtain ⟨hC, hin, hty, hnm⟩ := hck
  have hts := hx.2.2.2.2.1
  obtain ⟨ref, hl1, hl2⟩ := hl.use hts
  have hK0 := hw.1
  have hap := va_apart (own := Y.1.cls) hts hin ty hty hnm hK0 hC
  obtain ⟨hb0, r, h1, cell, q1, q2, q3, q4⟩ := hH.2.2 a _ ha
  have hr9 : r = (C, T, N) := Option.some.inj (h1.symm.trans hC)
  subst hr9
  obtain ⟨hSl, hfc, kC, hkC, hkind⟩ := hK0.1 ci _ hC
  obtain ⟨cf, kf, fi, f, hi, hsl⟩ := hSl k hk
  have hlay := hts _ (hin _ (u_in_lay hk))
  unfold u_lay at hlay
  rw [if_pos hf] at hlay
  have hst := (u_facts hfc hkC (u_lays hts hin hk) hi).1
  have hcf : m.cls = cf := by
    obtain ⟨_, _, c', _, _, _, -, -, hf', -, -, -, hown2, -⟩ := Cond.laysFinal_spec hlay
    have e1 : c' = cf := by have := hi.symm.trans hf'; simp at this; exact this.1.symm
    rw [hdecl] at hown2
    rw [← e1]; exact Option.some.inj (hx.2.2.2.1.symm.trans hown2)
  have h6 := u_fits hfc hkC hkind (Or.inr hlay) hi (hty k hk) hn hfit
  refine W.putFinK hx.1 hx.2.1 hx.2.2.2.1 hl1 (hl2 _ hi) hst hcf (hx.2.2.2.2.2.2.2.2.1.trans hi0) (by rw [q2]; exact h6) q1 q3 (by rw [hsl]; exact k2_hasslot (q4 k hk)) rfl rfl hd fun H' e1 e2 e3 => ?_
  rw [hsl] at e1 ⊢
  exact hE p e R s m args below meth c H' _ cells slots Q ls hx hw hr (hS.put e2 e3 hb0) (hH.put ha ⟨_, hC, t_OB.to (V := updV (vp_V fs) k v) ⟨_, e1, q2, q3, t_set q4 hap hk v⟩ (fun j _ => vp_updV_set hlen v j)⟩ e2 e3) hL hK
theorem jj_rm.step {R : Room} {d cells slots : Nat} {h h1 h' : jj_H} (hr : jj_rm R d cells slots h h') (a : jj_le h h1) (b : jj_le h1 h') : jj_rm R d cells slots h h1 ∧ jj_rm R d (cells + (h1.2.1 - h.2.1)) (slots + (h1.2.2 - h.2.2)) h1 h' ∧ cells + (h1.2.1 - h.2.1) + (h'.2.1 - h1.2.1) = cells + (h'.2.1 - h.2.1) ∧ slots + (h1.2.2 - h.2.2) + (h'.2.2 - h1.2.2) = slots + (h'.2.2 - h.2.2) := by
  obtain ⟨r1, r2, r3⟩ := hr
  obtain ⟨a1, a2⟩ := a
  obtain ⟨b1, b2⟩ := b
  refine ⟨⟨r1, by omega, by omega⟩, ⟨r1, by omega, by omega⟩, by omega, by omega⟩
/-- a step that makes cells: from h to h1 -/
theorem jj_made {pc' : Nat} {st' : List Value} {h1 : jj_H} (hle : jj_le h h1)
    (hs : ∀ (p : Program) (e : Env) (R : Room) (s : State) (m : MethodId) (args : Array Value) (below : List Frame) (meth : Method) (c : Code) (H : Heap) (locs : List Loc) (cells slots : Nat) (Q : State → Prop) (ls : Array Slot), jj_cx Y l p s m args meth c → jj_wd G s → jj_rm R d cells slots h h1 → va_S (jj_A G) s.heap H locs → jj_hp G h H → jj_L Y.2.2.1 L ls →
      (∀ (H1 : Heap) (locs1 : List Loc), va_S (jj_A G) s.heap H1 locs1 → jj_hp G h1 H1 → W p l e R s m args below meth c H1 locs1 (cells + (h1.2.1 - h.2.1)) (slots + (h1.2.2 - h.2.2)) Q (F0 m pc' ls st')) → W p l e R s m args below meth c H locs cells slots Q (F0 m pc ls st))
    (k : jj_P l G Y d F pc' L st' h1) : jj_P l G Y d F pc L st h := by
  obtain ⟨o, h', hF, hm, hE⟩ := k
  refine ⟨o, h', hF, hle.tr hm, fun p e R s m args below meth c H locs cells slots Q ls hx hw hr hS hH hL hK => ?_⟩
  obtain ⟨r1, r2, e1, e2⟩ := hr.step hle hm
  refine hs p e R s m args below meth c H locs cells slots Q ls hx hw r1 hS hH hL (fun H1 locs1 hS1 hH1 => ?_)
  exact hE p e R s m args below meth c H1 locs1 _ _ Q ls hx hw r2 hS1 hH1 hL (by rw [e1, e2]; exact hK)
theorem jj_new {index ci : Nat} {fs : List Value} {C : String} {T : u_T} {N : Nat} {ty : Nat → FieldType} (hck : jj_ck ci C T N ty) (hl : Cond.classLink Y.1.cls index C ∈ jj_T) (hi : Cond.instantiable C N ∈ jj_T) (hini : Cond.initialized C ∈ jj_T) (hfs : ∀ j, j < N → defaultValue (ty j) = vp_V fs j) (hd : decode Y.2.1 pc = .ok (.new index, 3))
    (k : jj_P l G Y d F (pc + 3) L (.ref h.2.1 :: st) (jj_up h.1 h.2.1 (.inr (ci, fs)), h.2.1 + 1, h.2.2 + N)) : jj_P l G Y d F pc L st h := by
  refine jj_made (h1 := (jj_up h.1 h.2.1 (.inr (ci, fs)), h.2.1 + 1, h.2.2 + N)) ⟨Nat.le_add_right _ _, Nat.le_add_right _ _⟩ (fun p e R s m args below meth c H locs cells slots Q ls hx hw hr hS hH hL kk => ?_) k
  obtain ⟨hC, hin, hty, hnm⟩ := hck
  have hts := hx.2.2.2.2.1
  have hKn := hw.1.1 ci _ hC
  obtain ⟨-, r2, r3⟩ := hr
  have z1 : (h.2.1 + 1) - h.2.1 = 1 := by omega
  have z2 : (h.2.2 + N) - h.2.2 = N := by omega
  dsimp only at r2 r3 kk
  rw [z1] at r2 kk
  rw [z2] at r3 kk
  refine W.newcK hx.1 hx.2.1 hx.2.2.2.1 (hts _ hl) (hts _ hi) (hts _ hini) rfl hd r2 r3 hKn.2.1 hH.1 fun H1 kC hkC e1 z1 o1 => ?_
  have hb : G.1 ≤ h.2.1 := by rw [← hH.1]; exact Nat.le_trans hw.2.1 hS.1
  refine kk H1 locs ⟨Nat.le_trans hS.1 (by rw [hH.1, z1]; omega), fun x h1 h2 => (o1 x (by rw [← hH.1]; exact Nat.lt_of_lt_of_le h1 hS.1)).trans (hS.2.1 x h1 h2), hS.2.2⟩ (hH.new hb ⟨_, hC, (u_born ty hts hin hKn hkC e1 hty).to hfs⟩ z1 o1)
def jj_tys (G : jj_G) : List (ClassId × FieldType) := G.2.2.1
theorem jj_newarray {atype : ArrayType} {fty : FieldType} {n : Int32} {N' t0 : Nat} {cA : ClassId} {a0 : vp_A} (hty : newarray.typeOf atype = fty) (ht : G.2.2.1[t0]? = some (cA, fty)) (hra : ∀ U : State, va_RA U cA fty → U.vm.findClass ("[" ++ fty.toString) = some cA) (hw0 : Cond.arrayClass fty ∈ jj_T) (ha0 : ∀ c0 : ClassId, vp_cell c0 a0 = arrV c0 N' (fun _ => defaultValue fty)) (hn : ¬ n < 0) (hN : n.toNatClampNeg = N') (hby : N' * componentBytes fty ≤ 536870912) (hd : decode Y.2.1 pc = .ok (.newarray atype, 2))
    (k : jj_P l G Y d F (pc + 2) L (.ref h.2.1 :: st) (jj_up h.1 h.2.1 (.inl (cA, a0)), h.2.1 + 1, h.2.2 + N')) : jj_P l G Y d F pc L (.int n :: st) h := by
  subst hty
  refine jj_made (h1 := (jj_up h.1 h.2.1 (.inl (cA, a0)), h.2.1 + 1, h.2.2 + N')) ⟨Nat.le_add_right _ _, Nat.le_add_right _ _⟩ (fun p e R s m args below meth c H locs cells slots Q ls hx hw hr hS hH hL kk => ?_) k
  have hts := hx.2.2.2.2.1
  obtain ⟨-, r2, r3⟩ := hr
  have z1 : (h.2.1 + 1) - h.2.1 = 1 := by omega
  have z2 : (h.2.2 + N') - h.2.2 = N' := by omega
  dsimp only at r2 r3 kk
  rw [z1] at r2 kk
  rw [z2] at r3 kk
  refine va_newaK hx.1 hx.2.1 (hts _ hw0) rfl hd rfl hn hN hby r2 r3 hH.1 fun H1 c1 e1 z1 o1 hAr hNm => ?_
  have hb : G.1 ≤ h.2.1 := by rw [← hH.1]; exact Nat.le_trans hw.2.1 hS.1
  have hc : c1 = cA := Option.some.inj (hNm.symm.trans (hra s (hw.1.2 t0 _ ht).2))
  subst hc
  refine kk H1 locs ⟨Nat.le_trans hS.1 (by rw [hH.1, z1]; omega), fun x h1 h2 => (o1 x (by rw [← hH.1]; exact Nat.lt_of_lt_of_le h1 hS.1)).trans (hS.2.1 x h1 h2), hS.2.2⟩ (hH.new hb (show H1[h.2.1]? = some (vp_cell c1 a0) by rw [ha0]; exact e1) z1 o1)
theorem jj_arraylength {a t0 : Nat} {cA : ClassId} {x : vp_A} {fty : FieldType} {v : Int32} (ht : G.2.2.1[t0]? = some (cA, fty)) (hd : decode Y.2.1 pc = .ok (.arraylength, 1)) (ha : h.1 a = some (.inl (cA, x))) (hv : Int32.ofNat x.1 = v)
    (kk : jj_P l G Y d F (pc + 1) L (.int v :: st) h) : jj_P l G Y d F pc L (.ref a :: st) h := by
  obtain ⟨o, h', hF, hm, hE⟩ := kk
  refine ⟨o, h', hF, hm, fun p e R s m args below meth c H locs cells slots Q ls hx hw hr hS hH hL hK => ?_⟩
  exact va_alen hx.1 hx.2.1 hw.1 (hH.one ha) 0 t0 rfl ht hv hd (hE p e R s m args below meth c H locs cells slots Q ls hx hw hr hS hH hL hK)
theorem jj_iaload {a t0 n : Nat} {cA : ClassId} {f : Nat → Int32} {i : Int32} (ht : G.2.2.1[t0]? = some (cA, .int)) (hd : decode Y.2.1 pc = .ok (.iaload, 1)) (ha : h.1 a = some (.inl (cA, n, .inl f))) (hi : vp_in i n)
    (kk : jj_P l G Y d F (pc + 1) L (.int (f i.toNatClampNeg) :: st) h) : jj_P l G Y d F pc L (.int i :: .ref a :: st) h := by
  obtain ⟨o, h', hF, hm, hE⟩ := kk
  refine ⟨o, h', hF, hm, fun p e R s m args below meth c H locs cells slots Q ls hx hw hr hS hH hL hK => ?_⟩
  exact va_iald hx.1 hx.2.1 hw.1 (hH.one ha) 0 t0 rfl ht hi hd (hE p e R s m args below meth c H locs cells slots Q ls hx hw hr hS hH hL hK)
theorem jj_laload {a t0 n : Nat} {cA : ClassId} {f : Nat → Int64} {i : Int32} (ht : G.2.2.1[t0]? = some (cA, .long)) (hd : decode Y.2.1 pc = .ok (.laload, 1)) (ha : h.1 a = some (.inl (cA, n, .inr (.inl f)))) (hi : vp_in i n)
    (kk : jj_P l G Y d F (pc + 1) L (.long (f i.toNatClampNeg) :: st) h) : jj_P l G Y d F pc L (.int i :: .ref a :: st) h := by
  obtain ⟨o, h', hF, hm, hE⟩ := kk
  refine ⟨o, h', hF, hm, fun p e R s m args below meth c H locs cells slots Q ls hx hw hr hS hH hL hK => ?_⟩
  exact va_lald hx.1 hx.2.1 hw.1 (hH.one ha) 0 t0 rfl ht hi hd (hE p e R s m args below meth c H locs cells slots Q ls hx hw hr hS hH hL hK)
theorem jj_iastore {a t0 n : Nat} {cA : ClassId} {f : Nat → Int32} {i x : Int32} (ht : G.2.2.1[t0]? = some (cA, .int)) (hd : decode Y.2.1 pc = .ok (.iastore, 1)) (ha : h.1 a = some (.inl (cA, n, .inl f))) (hi : vp_in i n)
    (kk : jj_P l G Y d F (pc + 1) L st (jj_up h.1 a (.inl (cA, n, .inl (upd f i.toNatClampNeg x))), h.2)) : jj_P l G Y d F pc L (.int x :: .int i :: .ref a :: st) h := by
  obtain ⟨o, h', hF, hm, hE⟩ := kk
  refine ⟨o, h', hF, hm, fun p e R s m args below meth c H locs cells slots Q ls hx hw hr hS hH hL hK => ?_⟩
  have hc : H[a]? = some (vp_cell cA (n, .inl f)) := (hH.2.2 a _ ha).2
  refine W.iast hx.1 hx.2.1 hc ((hw.1.2 t0 _ ht).1 n (fun j => .int (f j))) (fun q => by cases q) (by show ¬ (i < 0 ∨ (arrV _ _ _).slots.size ≤ _); rw [arrV_size]; exact hi) rfl rfl hd fun H1 e1 z oq => ?_
  refine hE p e R s m args below meth c H1 _ cells slots Q ls hx hw hr (hS.put z oq (hH.2.2 a _ ha).1) (hH.put ha ?_ z oq) hL hK
  show H1[a]? = some (vp_cell _ _)
  rw [e1, vp_cell_i, vp_cell_i, arrV_store]
  congr 2
  funext q
  by_cases hq : q = i.toNatClampNeg
  · subst hq
    simp [updV, upd]
  · simp [updV, upd, hq]
/-! returns -/
theorem jj_vret (hd : decode Y.2.1 pc = .ok (.return_, 1)) (hr : Y.2.2.2.1 = none) (hF : F (.inl none) h) : jj_P l G Y d F pc L [] h := by
  refine ⟨.inl none, h, hF, jj_le.rf, fun p e R s m args below meth c H locs cells slots Q ls hx hw hr0 hS hH hL hK => ?_⟩
  rw [Nat.sub_self, Nat.sub_self] at hK
  exact hK H locs ls pc hS hH ⟨hr, hd⟩
theorem jj_iret {x : Int32} (ty : FieldType) (hd : decode Y.2.1 pc = .ok (.ireturn, 1)) (hr : Y.2.2.2.1 = some ty) (hn : narrow ty (.int x) = .int x) (hF : F (.inl (some (.int x))) h) : jj_P l G Y d F pc L [.int x] h := by
  refine ⟨.inl (some (.int x)), h, hF, jj_le.rf, fun p e R s m args below meth c H locs cells slots Q ls hx hw hr0 hS hH hL hK => ?_⟩
  rw [Nat.sub_self, Nat.sub_self] at hK
  exact hK H locs ls pc hS hH ⟨⟨ty, hr, hn⟩, hd⟩
theorem jj_lret {x : Int64} (hd : decode Y.2.1 pc = .ok (.lreturn, 1)) (hr : Y.2.2.2.1 = some .long) (hF : F (.inl (some (.long x))) h) : jj_P l G Y d F pc L [.long x] h := by
  refine ⟨.inl (some (.long x)), h, hF, jj_le.rf, fun p e R s m args below meth c H locs cells slots Q ls hx hw hr0 hS hH hL hK => ?_⟩
  rw [Nat.sub_self, Nat.sub_self] at hK
  exact hK H locs ls pc hS hH ⟨hr, hd⟩
theorem jj_aret {x : Nat} {rt : FieldType} (hd : decode Y.2.1 pc = .ok (.areturn, 1)) (hr : Y.2.2.2.1 = some rt) (ht : (∃ n, rt = .object n) ∨ ∃ t, rt = .array t) (hF : F (.inl (some (.ref x))) h) : jj_P l G Y d F pc L [.ref x] h := by
  refine ⟨.inl (some (.ref x)), h, hF, jj_le.rf, fun p e R s m args below meth c H locs cells slots Q ls hx hw hr0 hS hH hL hK => ?_⟩
  rw [Nat.sub_self, Nat.sub_self] at hK
  exact hK H locs ls pc hS hH ⟨⟨rt, hr, ht⟩, hd⟩
end JJP
end
section
/-! calls -/
def jj_Pre (G : jj_G) (as : List Value) (h : jj_H) : Array Value → State → Prop := fun v U => v = as.toArray ∧ jj_wd G U ∧ jj_hp G h U.heap
/-- how a call ends -/
def jj_out (G : jj_G) (o : jj_O) (h' : jj_H) (mc ms : Nat) : Array Value → State → Outcome → State → Prop := fun _ st oc t =>
  st.WarmedH t.vm ∧ jj_hp G h' t.heap ∧ va_F (jj_A G) st t ∧ (∃ L : List Loc, st.sameButNew ({ t with vm := st.vm } : State) L mc ms ∧ ∀ q ∈ L, jj_A G q.base) ∧
  match o with
  | .inl v => oc = .returned v
  | .inr E => ∃ (q : Addr) (ce : Cell), oc = .threw q ∧ t.heap[q]? = some ce ∧ ce.vm = .none ∧ st.vm.findClass E = some ce.cls
def jj_room (d : Nat) (h h' : jj_H) : Room := { frames := d, cells := h'.2.1 - h.2.1, slots := h'.2.2 - h.2.2, locals := 40 * d }
def jj_C (l : Launch) (G : jj_G) (Y : jj_Y) (d : Nat) (as : List Value) (h : jj_H) (o : jj_O) (h' : jj_H) : Prop :=
  jj_le h h' ∧ (l.stackTraces = false → MetFree l Y.1 (headSpec (jj_cw Y :: jj_T) (jj_room d h h')) (jj_Pre G as h) (fun _ _ _ _ _ => True) (jj_out G o h' (h'.2.1 - h.2.1) (h'.2.2 - h.2.2)))
def jj_Q (l : Launch) (G : jj_G) (Y : jj_Y) (d : Nat) (as : List Value) (h : jj_H) (F : jj_O → jj_H → Prop) : Prop := ∃ (o : jj_O) (h' : jj_H), F o h' ∧ jj_C l G Y d as h o h'
theorem jj_kp.next {G : jj_G} {w : Cond} {s U : State} (h : jj_kp G w s) (hW : s.WarmedH U.vm) (h1 : ∀ q : Nat, q < s.heap.size → ¬ jj_A G q → U.heap[q]? = s.heap[q]?) (h2 : s.heap.size ≤ U.heap.size) : jj_kp G w U := by
  intro args V hV g1 g2
  exact h args V (State.WarmedH.trans hW hV) (fun q hq hA => (g1 q (Nat.lt_of_lt_of_le hq h2) hA).trans (h1 q hq hA)) (Nat.le_trans h2 g2)
theorem jj_wd.next {G : jj_G} {s U : State} {locs : List Loc} (h : jj_wd G s) (hW : s.WarmedH U.vm) (hS : va_S (jj_A G) s.heap U.heap locs) (hns : jj_ns G U.heap) : jj_wd G U := by
  obtain ⟨h1, h2, h3, h4, h5, -, h7⟩ := h
  exact ⟨va_K.moved hW.alike h1, Nat.le_trans h2 hS.1, fun q hq => va_Nw.warmM hW (h3 q hq), fun w hw => (h4 w hw).next hW hS.2.1 hS.1, jj_mw.next h5 hW hS.2.1 h2, hns, fun q hq => va_Nc.moved hW.alike (h7 q hq)⟩
theorem jj_Pre.blind {G : jj_G} {as : List Value} {h : jj_H} {a : Array Value} {U : State} {g : JFrame} {mk : MethodId} (q : jj_Pre G as h a U) : jj_Pre G as h a (U.calling g mk a) :=
  ⟨q.1, jj_wd.next (U := U.calling g mk a) (locs := []) q.2.1 (State.WarmedH.refl U) va_S.rf q.2.2.2.1, q.2.2⟩
def jj_ent : List Value → List (Option Value)
  | [] => []
  | v :: vs => if v.category = 2 then some v :: none :: jj_ent vs else some v :: jj_ent vs
theorem jj_ent_args : ∀ (vs : List Value) (k i : Nat) (v : Value), (jj_ent vs)[i]? = some (some v) → (k + i, v) ∈ lv_args k vs := by
  intro vs
  induction vs with
  | nil => intro k i v h; simp [jj_ent] at h
  | cons w vs ih =>
    intro k i v h
    by_cases hc : w.category = 2
    · rw [jj_ent, if_pos hc] at h
      rw [lv_args, if_pos hc]
      match i, h with
      | 0, h => simp at h; subst h; exact List.mem_cons_self
      | 1, h => simp at h
      | i + 2, h =>
        have h2 : (jj_ent vs)[i]? = some (some v) := by simpa using h
        have h3 := ih (k + 2) i v h2
        rw [show k + (i + 2) = k + 2 + i by omega]
        exact List.mem_cons_of_mem _ h3
    · rw [jj_ent, if_neg hc] at h
      rw [lv_args, if_neg hc]
      match i, h with
      | 0, h => simp at h; subst h; exact List.mem_cons_self
      | i + 1, h =>
        have h2 : (jj_ent vs)[i]? = some (some v) := by simpa using h
        have h3 := ih (k + 1) i v h2
        rw [show k + (i + 1) = k + 1 + i by omega]
        exact List.mem_cons_of_mem _ h3
def jj_L0 (n : Nat) (vs : List Value) : List (Option Value) := jj_ent vs ++ List.replicate (n - (jj_ent vs).length) none
theorem jj_L0_ok {n : Nat} {vs : List Value} (h : (lg_sl vs).length ≤ n) : jj_L n (jj_L0 n vs) ((lg_sl vs ++ List.replicate (n - (lg_sl vs).length) Slot.unset).toArray) := by
  have h1 := lv_entry vs h
  refine ⟨h1.1, h1.2.1, fun i v hv => ?_⟩
  have h2 : (jj_ent vs)[i]? = some (some v) := by
    unfold jj_L0 at hv
    by_cases hi : i < (jj_ent vs).length
    · rw [List.getElem?_append_left hi] at hv
      exact hv
    · rw [List.getElem?_append_right (by omega)] at hv
      rw [List.getElem?_replicate] at hv
      split at hv <;> simp at hv
  have h3 := jj_ent_args vs 0 i v h2
  rw [Nat.zero_add] at h3
  exact h1.2.2 (i, v) h3
theorem jj_Wimp {p : Program} {l : Launch} {e : Env} {R : Room} {s : State} {m : MethodId} {args : Array Value} {below : List Frame} {meth : Method} {c : Code} {H : Heap} {locs : List Loc} {cells slots : Nat} {Q Q' : State → Prop} {g : JFrame} (hQ : ∀ t, Q t → Q' t) (k : W p l e R s m args below meth c H locs cells slots Q g) : W p l e R s m args below meth c H locs cells slots Q' g := by
  intro T hT X
  obtain ⟨t, a, b⟩ := k T hT X
  exact ⟨t, a, hQ t b⟩
theorem jj_cw_nil {Y : jj_Y} (hh : Y.2.2.2.2 = []) : jj_cw Y = .code Y.1 Y.2.1 Y.2.2.1 Y.2.2.2.1 := by unfold jj_cw; rw [hh]
theorem jj_cw_cons {Y : jj_Y} {q : Nat × Nat × Nat × Nat} {r : List (Nat × Nat × Nat × Nat)} (hh : Y.2.2.2.2 = q :: r) : jj_cw Y = .codeWith Y.1 Y.2.1 Y.2.2.1 Y.2.2.2.1 (q :: r) := by unfold jj_cw; rw [hh]
/-- what the method's own word says of it -/
theorem jj_cw_spec {Y : jj_Y} {args : Array Value} {s : State} {m : MethodId} (hn : s.methodNamed? Y.1 = some m) (h : (jj_cw Y).before args s = true) :
    ∃ meth c, s.vm.method? m = some meth ∧ meth.code = some c ∧ c.code = Y.2.1 ∧ c.maxLocals = Y.2.2.1 ∧ meth.sig.returnType = Y.2.2.2.1 ∧ meth.locks = false ∧ c.exceptionTable.toList = tableOf Y.2.2.2.2 ∧ parseMethodDescriptor Y.1.desc = some meth.sig := by
  cases hh : Y.2.2.2.2 with
  | nil =>
    rw [jj_cw_nil hh] at h
    obtain ⟨meth, c, h1, h2, h3, h4, h5, h6, h7, h8⟩ := Cond.code_spec hn h
    refine ⟨meth, c, h1, h2, h3, h4, h5, h6, ?_, h8⟩
    rw [Array.isEmpty_iff.mp h7]
    rfl
  | cons q r =>
    rw [jj_cw_cons hh] at h
    obtain ⟨m9, meth, c, hn9, h1, h2, h3, h4, h5, h6, h7, h8⟩ := Cond.codeWith_spec h
    cases hn.symm.trans hn9
    refine ⟨meth, c, h1, h2, h3, h4, h6, h7, ?_, h8⟩
    rw [← h5, table_eq]
/-- the end of a body, whatever its outcome -/
def jj_end (G : jj_G) (o : jj_O) (h h' : jj_H) (below : List Frame) (args : Array Value) (s : State) : State → Prop := fun t => ∃ oc, t.status = .running ∧ Ended t below oc ∧ jj_out G o h' (h'.2.1 - h.2.1) (h'.2.2 - h.2.2) args s oc t
theorem jj_body {l : Launch} {G : jj_G} {Y : jj_Y} {d : Nat} {o : jj_O} {h h' : jj_H} {as : List Value} (hl : l.stackTraces = false) (hn : (lg_sl as).length ≤ Y.2.2.1) (k : jj_E l G Y d o h' 0 (jj_L0 Y.2.2.1 as) [] h)
    {p : Program} {e : Env} {s s₁ : State} {m : MethodId} {args : Array Value} {below : List Frame} {meth : Method} {c : Code} (B : BodyLoose p l Y.1 (headSpec (jj_cw Y :: jj_T) (jj_room d h h')) Y.2.1 Y.2.2.1 Y.2.2.2.1 e s m args below meth c s₁) (hml : c.maxLocals = Y.2.2.1) (hv : jj_Pre G as h args s) :
    W p l e (headSpec (jj_cw Y :: jj_T) (jj_room d h h')).room s m args below meth c s.heap [] 0 0 (jj_end G o h h' below args s) (entryFrame m args Y.2.2.1) := by
  obtain ⟨rfl, hw, hH⟩ := hv
  have hts := atoms_spec (ws := jj_cw Y :: jj_T) B.pre
  have hlocks := B.notSynchronized
  have hr := B.returns
  have htab : c.exceptionTable.toList = tableOf Y.2.2.2.2 := by
    obtain ⟨meth9, c9, h1, h2, -, -, -, -, h7, -⟩ := jj_cw_spec B.named (hts _ List.mem_cons_self)
    cases Option.some.inj (h1.symm.trans B.method)
    cases Option.some.inj (h2.symm.trans (Stand.of_body B).code)
    exact h7
  rw [lg_entry_eq]
  refine k.2 p e _ s m _ below meth c s.heap [] 0 0 _ _ ⟨B.exec, B.bytes, hml, findClass_of_methodNamed B.named, fun w hw9 => hts w (List.mem_cons_of_mem _ hw9), B.returns, B.notSynchronized, htab, (name_of_methodNamed B.named B.method).1, hl⟩ hw ⟨⟨Nat.le_refl _, Nat.le_refl _⟩, ?_, ?_⟩ va_S.rf hH (jj_L0_ok hn) ?_
  · show 0 + _ ≤ _
    rw [Nat.zero_add]
    exact Nat.le_refl _
  · show 0 + _ ≤ _
    rw [Nat.zero_add]
    exact Nat.le_refl _
  · rw [Nat.zero_add, Nat.zero_add]
    cases o with
    | inl v =>
      intro H locs ls pc hS hH1 hret
      have fin : ∀ t, MQ below (fun _ s9 oc t => oc = .returned v ∧ s9.WarmedH t.vm ∧ jj_hp G h' t.heap ∧ va_F (jj_A G) s9 t) as.toArray s (h'.2.1 - h.2.1) (h'.2.2 - h.2.2) (jj_A G) t → jj_end G (.inl v) h h' below as.toArray s t := by
        rintro t ⟨oc, b1, b2, ⟨c1, c2, c3, c4⟩, L, ⟨-, -, d3⟩, d4⟩
        exact ⟨oc, b1, b2, c2, c3, c4, ⟨L, d3, d4⟩, c1⟩
      refine jj_Wimp fin ?_
      cases v with
      | none => exact W.vret B.exec B.bytes (hr.trans hret.1) (fun t ht hW => ⟨rfl, hW, by rw [ht]; exact hH1, hS.F ht⟩) hS.2.2 hret.2
      | some v =>
        cases v with
        | int x =>
          obtain ⟨⟨ty, h1, h2⟩, h3⟩ := hret
          exact W.zret B.exec B.bytes (hr.trans h1) h2 (fun t ht hW => ⟨rfl, hW, by rw [ht]; exact hH1, hS.F ht⟩) hS.2.2 h3
        | long x => exact W.lret B.exec B.bytes (hr.trans hret.1) (fun t ht hW => ⟨rfl, hW, by rw [ht]; exact hH1, hS.F ht⟩) hS.2.2 hret.2
        | ref x =>
          obtain ⟨⟨rt, h1, h2⟩, h3⟩ := hret
          exact W.aret B.exec B.bytes (hr.trans h1) h2 (Or.inr ⟨x, rfl⟩) (fun t ht hW => ⟨rfl, hW, by rw [ht]; exact hH1, hS.F ht⟩) hS.2.2 h3
        | _ => exact hret.elim
    | inr E =>
      intro U locs q ce b1 b2 b3 b4 hS hH1 hce hv hcl
      exact ⟨.threw q, b1, b2, b3, hH1, hS.F rfl, ⟨locs, b4, hS.2.2⟩, q, ce, rfl, hce, hv, hcl⟩
theorem jj_C.of {l : Launch} {G : jj_G} {Y : jj_Y} {d : Nat} {o : jj_O} {h h' : jj_H} {as : List Value} (hp : plainFor Y.1 = true) (hn : (lg_sl as).length ≤ Y.2.2.1) (k : jj_E l G Y d o h' 0 (jj_L0 Y.2.2.1 as) [] h) : jj_C l G Y d as h o h' := by
  refine ⟨k.1, fun hl => ?_⟩
  refine MetFree.of_bodySF (code := Y.2.1) (maxLocals := Y.2.2.1) (ret := Y.2.2.2.1) hp ?_ ?_
  · intro args s m hpre hnm
    obtain ⟨meth, c, h1, h2, h3, h4, h5, h6, -, -⟩ := jj_cw_spec hnm (atoms_spec (ws := jj_cw Y :: jj_T) hpre _ List.mem_cons_self)
    exact ⟨meth, c, h1, h2, h3, h4, h5, h6⟩
  · intro p e s m args below meth c s₁ B hml hP _
    have hh0 : s₁.heap = s.heap := by rw [B.state]; rfl
    obtain ⟨t, a1, oc, b1, b2, b3⟩ := jj_body hl hn k B hml hP s₁ hh0 (Stand.of_body B)
    exact ⟨t, oc, a1, b1, b2, b3⟩
theorem jj_Q.of {l : Launch} {G : jj_G} {Y : jj_Y} {d : Nat} {h : jj_H} {as : List Value} {F : jj_O → jj_H → Prop} (hp : plainFor Y.1 = true) (hn : (lg_sl as).length ≤ Y.2.2.1) (k : jj_P l G Y d F 0 (jj_L0 Y.2.2.1 as) [] h) : jj_Q l G Y d as h F := by
  obtain ⟨o, h', hF, hE⟩ := k
  exact ⟨o, h', hF, jj_C.of hp hn hE⟩
theorem jj_Q.imp {l : Launch} {G : jj_G} {Y : jj_Y} {d : Nat} {h : jj_H} {as : List Value} {F F' : jj_O → jj_H → Prop} (k : jj_Q l G Y d as h F) (hF : ∀ o h', F o h' → F' o h') : jj_Q l G Y d as h F' := by
  obtain ⟨o, h', a, b⟩ := k
  exact ⟨o, h', hF o h' a, b⟩
/-- a call comes back: it returned, or it threw -/
theorem jj_back {l : Launch} {G : jj_G} {Y' : jj_Y} {d' : Nat} {as : List Value} {h h1 : jj_H} {o1 : jj_O} (hM : jj_C l G Y' d' as h o1 h1) (hlt : l.stackTraces = false)
    {p : Program} {e : Env} {R : Room} {s : State} {m : MethodId} {sargs : Array Value} {below : List Frame} {meth : Method} {c : Code} {U : State} {locs : List Loc} {cells slots : Nat} (X : Stand p l e R s m sargs below meth c U locs cells slots)
    {g : JFrame} (hg : g.method = m) (hsize : g.locals.size = c.maxLocals) {ig : Instr} {len : Nat} (hdg : decode c.code g.pc = .ok (ig, len)) (hW : 2 * g.monitorRoom + (g.stack.map fun v => v.category).sum ≤ 8) {mk : MethodId} (hn : U.methodNamed? Y'.1 = some mk)
    (hws : ∀ w ∈ jj_cw Y' :: jj_T, w.before as.toArray U = true) (hini : (Cond.initialized Y'.1.cls).before as.toArray U = true) (hfr : d' + 1 ≤ R.frames) (hlo : 8 + (Y'.2.2.1 + 11) + 40 * d' ≤ R.locals) (hc : cells + (h1.2.1 - h.2.1) ≤ R.cells) (hs : slots + (h1.2.2 - h.2.2) ≤ R.slots) (hPre : jj_Pre G as h as.toArray U) :
    ∃ (oc : Outcome) (t T' : State) (L : List Loc), jj_out G o1 h1 (h1.2.1 - h.2.1) (h1.2.2 - h.2.2) as.toArray (U.calling g mk as.toArray) oc t ∧ Stand p l e R s m sargs below meth c T' (locs ++ L) (cells + (h1.2.1 - h.2.1)) (slots + (h1.2.2 - h.2.2)) ∧ (∀ q ∈ L, jj_A G q.base) ∧ T'.heap = t.heap ∧ T'.vm = t.vm ∧
      match oc with
      | .returned v => Steps p.tables e below (doInvoke e (U.setTop g) [] mk as.toArray).1 (T'.setTop { g with pc := g.pc + len, stack := v.toList ++ g.stack })
      | .threw q => Steps p.tables e below (doInvoke e (U.setTop g) [] mk as.toArray).1 ((T'.setTop g).pushFrame (.throwing q)) := by
  obtain ⟨methY, cY, hmY, hcY, -, hlY, -, -, -, -⟩ := jj_cw_spec hn (hws _ List.mem_cons_self)
  obtain ⟨kY, hkY, -⟩ := className_of_methodNamed hn
  have hinitY : kY.init = .initialized := Cond.initialized_spec (findClass_of_methodNamed hn) hkY hini
  have hat : At U g.method c below := by rw [hg]; exact X.here
  have happ : (headSpec (jj_cw Y' :: jj_T) (jj_room d' h h1)).appliesLoose Y'.1 e.platform (U.calling g mk as.toArray) = true :=
    Spec.appliesLoose_calling (g := g) hat hdg hn hkY hinitY
      (X.room_calling (g := g) (R' := jj_room d' h h1) hsize hmY hcY hfr (by rw [hlY]; show _ + 40 * d' ≤ _; omega) hc hs) (atoms_intro hws)
  obtain ⟨mid, hmid⟩ := hat.above
  have hfr9 : (U.setTop g).frames = (.java g :: mid) ++ below := by rw [State.frames_setTop' g hat.top, hmid]; rfl
  obtain ⟨oc, s₂, hsteps, -, hend, hq⟩ := Steps.callFree (hM.2 hlt) p X.admits X.cas X.clock (acts := []) hfr9 happ hPre.blind trivial
  have hq' : jj_out G o1 h1 (h1.2.1 - h.2.1) (h1.2.2 - h.2.2) as.toArray (U.calling g mk as.toArray) oc s₂ := hq
  rw [State.frames_setTop' g hat.top] at hend
  obtain ⟨hW₂, hH1, hF1, ⟨L, ⟨e2, q2, q3, q4, q5, q6⟩, hL⟩, -⟩ := id hq'
  have e3 : s₂ = ({ (U.calling g mk as.toArray).setFrames s₂.frames with heap := s₂.heap, slotsUsed := s₂.slotsUsed } : State).setVm s₂.vm := by
    have h9 : s₂ = ({ s₂ with vm := (U.calling g mk as.toArray).vm } : State).setVm s₂.vm := rfl
    rw [e2] at h9
    exact h9
  have hW' : U.WarmedH s₂.vm := hW₂
  obtain ⟨g₀, hg0⟩ := Option.isSome_iff_exists.mp hat.top
  obtain ⟨r, hr⟩ := State.topJava?_eq_some.mp hg0
  have hr' : (({ U with heap := s₂.heap, slotsUsed := s₂.slotsUsed } : State).setVm s₂.vm).frames = .java g₀ :: r := hr
  have hsame : U.sameButNew ({ U with heap := s₂.heap, slotsUsed := s₂.slotsUsed } : State) L (h1.2.1 - h.2.1) (h1.2.2 - h.2.2) := by
    refine ⟨?_, q2, q3, q4, q5, q6⟩
    obtain ⟨t, ht, -⟩ := State.frames_cons hr
    show ({ U with heap := s₂.heap, slotsUsed := s₂.slotsUsed } : State) = { U.setFrames U.frames with heap := s₂.heap, slotsUsed := s₂.slotsUsed }
    rw [State.setFrames_self ht]
  have hX : Stand p l e R s m sargs below meth c (({ U with heap := s₂.heap, slotsUsed := s₂.slotsUsed } : State).setVm s₂.vm) (locs ++ L) (cells + (h1.2.1 - h.2.1)) (slots + (h1.2.2 - h.2.2)) :=
    ⟨X.admits, X.cas, X.clock, X.frames, X.room, X.hears, X.method, X.code, (X.here.setHeapUsed s₂.heap s₂.slotsUsed).setVm hW'.alike, X.tail, State.WarmedH.trans X.warmed hW', X.limits, X.bytes, X.same.trans (hsame.setVm s.vm)⟩
  refine ⟨oc, s₂, _, L, hq', hX, hL, rfl, rfl, ?_⟩
  cases oc with
  | returned v =>
    obtain ⟨c₂, i₂, len₂, hc₂, hd₂, hf₂⟩ := hend
    have hcc : c₂ = c := by
      have h9 : s₂.code? g.method = U.code? g.method := by
        rw [State.code?_eq, State.code?_eq, hW'.alike.method?]
      exact Option.some.inj (hc₂.symm.trans (h9.trans hat.code))
    subst hcc
    have hlen : len₂ = len := by rw [hdg] at hd₂; cases hd₂; rfl
    subst hlen
    have hs₂ : s₂ = (({ U with heap := s₂.heap, slotsUsed := s₂.slotsUsed } : State).setVm s₂.vm).setTop { g with pc := g.pc + len₂, stack := v.toList ++ g.stack } := by
      refine e3.trans ?_
      rw [hf₂, State.calling_eq hat.top, State.setFrames_setFrames, State.setTop_of_frames _ hr', hr]
      rfl
    show Steps p.tables e below _ _
    rw [← hs₂]
    exact hsteps
  | threw q =>
    have hf₂ : s₂.frames = .throwing q :: .java g :: U.frames.tail := hend
    have hs₂ : s₂ = ((({ U with heap := s₂.heap, slotsUsed := s₂.slotsUsed } : State).setVm s₂.vm).setTop g).pushFrame (.throwing q) := by
      refine e3.trans ?_
      rw [hf₂, State.calling_eq hat.top, State.setFrames_setFrames, State.pushFrame, State.frames_setTop _ hr', State.setTop_of_frames _ hr', State.setFrames_setFrames, hr]
      rfl
    show Steps p.tables e below _ _
    rw [← hs₂]
    exact hsteps
end
section
theorem jj_cw_named {Y : jj_Y} {args : Array Value} {s : State} (h : (jj_cw Y).before args s = true) : ∃ m, s.methodNamed? Y.1 = some m := by
  cases hh : Y.2.2.2.2 with
  | nil =>
    rw [jj_cw_nil hh] at h
    exact Cond.code_named h
  | cons q r =>
    rw [jj_cw_cons hh] at h
    obtain ⟨m9, meth, c, hn9, -⟩ := Cond.codeWith_spec h
    exact ⟨m9, hn9⟩
/-! a call's run, whatever its kind -/
def jj_R (l : Launch) (G : jj_G) (Y : jj_Y) (d : Nat) (as : List Value) (h : jj_H) (o1 : jj_O) (h1 : jj_H) (pc : Nat) (st rest : List Value) : Prop :=
  ∀ (p : Program) (e : Env) (R : Room) (s : State) (m : MethodId) (args : Array Value) (below : List Frame) (meth : Method) (c : Code) (H : Heap) (locs : List Loc) (cells slots : Nat) (ls : Array Slot),
    jj_cx Y l p s m args meth c → jj_wd G s → jj_rm R d cells slots h h1 → va_S (jj_A G) s.heap H locs → jj_hp G h H → ls.size = Y.2.2.1 → ∀ T : State, T.heap = H → Stand p l e R s m args below meth c T locs cells slots →
    ∃ (oc : Outcome) (st0 t T' : State) (L : List Loc), st0.heap = H ∧ s.WarmedH st0.vm ∧ jj_out G o1 h1 (h1.2.1 - h.2.1) (h1.2.2 - h.2.2) as.toArray st0 oc t ∧ Stand p l e R s m args below meth c T' (locs ++ L) (cells + (h1.2.1 - h.2.1)) (slots + (h1.2.2 - h.2.2)) ∧ (∀ q ∈ L, jj_A G q.base) ∧ T'.heap = t.heap ∧ T'.vm = t.vm ∧
      match oc with
      | .returned v => ∀ target, Steps p.tables e below (T'.setTop (F0 m (pc + 3) ls (v.toList ++ rest))) target → Steps p.tables e below (T.setTop (F0 m pc ls st)) target
      | .threw q => Steps p.tables e below (T.setTop (F0 m pc ls st)) ((T'.setTop (F0 m pc ls rest)).pushFrame (.throwing q))
/-- the callee's own words -/
def jj_okc (Y' : jj_Y) (n : Nat) : Prop := jj_cw Y' ∈ jj_T ∧ Cond.initialized Y'.1.cls ∈ jj_T ∧ Y'.1.cls ≠ "java/lang/invoke/MethodHandle" ∧ Y'.1.cls ≠ "java/lang/invoke/VarHandle" ∧ (parseMethodDescriptor Y'.1.desc).map (fun q => q.parameters.length) = some n ∧ Y'.2.2.1 ≤ 21
theorem jj_okc.len {Y' : jj_Y} {n : Nat} (ok : jj_okc Y' n) : ∀ sig, parseMethodDescriptor Y'.1.desc = some sig → n = sig.parameters.length := by
  intro sig hs
  have h := ok.2.2.2.2.1
  rw [hs] at h
  exact (Option.some.inj h).symm
theorem jj_at {args a' : Array Value} {s U : State} (hts : ∀ w ∈ jj_T, w.before args s = true) (hW : s.WarmedH U.vm) {w : Cond} (hw : w ∈ jj_T) : w.before a' U = true := word_at hW (good_of_word (jj_T_good w hw)) (hts w hw)
/-- a receiver of class C stands at b -/
def jj_rcv (G : jj_G) (h : jj_H) (b : Nat) (C : String) : Prop := ∀ (s : State) (H : Heap) (locs : List Loc), jj_wd G s → va_S (jj_A G) s.heap H locs → jj_hp G h H → ∃ cellB : Cell, H[b]? = some cellB ∧ cellB.vm.isStatics = false ∧ s.vm.findClass C = some cellB.cls
theorem jj_rcv.ob {G : jj_G} {h : jj_H} {b ci : Nat} {fs : List Value} {C : String} {T : u_T} {N : Nat} (hC : vwCl[ci]? = some (C, T, N)) (ha : h.1 b = some (.inr (ci, fs))) : jj_rcv G h b C := fun _ _ _ hw _ hH => va_recv hw.1 (hH.one ha) hC (q0 := 0) rfl
theorem jj_rcv.str {G : jj_G} {h : jj_H} {i : Nat} (hi : i < jj_nS) : jj_rcv G h (G.2.2.2.1 i) "java/lang/String" := fun _ _ _ hw hS _ => by
  obtain ⟨cell, h1, h2, h3, -⟩ := (hw.2.2.2.2.1.1.1 _ hi).1.kept hS.2.1
  exact ⟨cell, h1, h2, h3⟩
section JJC
variable {l : Launch} {G : jj_G} {Y Y' : jj_Y} {d d' : Nat} {pc : Nat} {rest : List Value} {h h1 : jj_H} {o1 : jj_O} {As : List Value} {index n : Nat}
theorem jj_tail {as st : List Value} (ok : jj_okc Y' n) (hM : jj_C l G Y' d' as h o1 h1) (hdd : d' + 1 ≤ d) (hrest : (rest.map fun v => v.category).sum ≤ 8) {ig : Instr} (hd : decode Y.2.1 pc = .ok (ig, 3))
    {p : Program} {e : Env} {R : Room} {s : State} {m : MethodId} {args : Array Value} {below : List Frame} {meth : Method} {c : Code} {H : Heap} {locs : List Loc} {cells slots : Nat} {ls : Array Slot}
    (hx : jj_cx Y l p s m args meth c) (hw : jj_wd G s) (hr : jj_rm R d cells slots h h1) (hS : va_S (jj_A G) s.heap H locs) (hH : jj_hp G h H) (hsz : ls.size = Y.2.2.1) {T : State} (hT : T.heap = H) {vm₁ : Vm}
    (X₁ : Stand p l e R s m args below meth c (T.setVm vm₁) locs cells slots) {mk : MethodId} (hnm : s.methodNamed? Y'.1 = some mk)
    (hstep : ∀ target, (∀ acts, Steps p.tables e below (doInvoke e ((T.setVm vm₁).setTop (F0 m pc ls rest)) acts mk as.toArray).1 target) → Steps p.tables e below (T.setTop (F0 m pc ls st)) target) :
    ∃ (oc : Outcome) (st0 t T' : State) (L : List Loc), st0.heap = H ∧ s.WarmedH st0.vm ∧ jj_out G o1 h1 (h1.2.1 - h.2.1) (h1.2.2 - h.2.2) as.toArray st0 oc t ∧ Stand p l e R s m args below meth c T' (locs ++ L) (cells + (h1.2.1 - h.2.1)) (slots + (h1.2.2 - h.2.2)) ∧ (∀ q ∈ L, jj_A G q.base) ∧ T'.heap = t.heap ∧ T'.vm = t.vm ∧
      match oc with
      | .returned v => ∀ target, Steps p.tables e below (T'.setTop (F0 m (pc + 3) ls (v.toList ++ rest))) target → Steps p.tables e below (T.setTop (F0 m pc ls st)) target
      | .threw q => Steps p.tables e below (T.setTop (F0 m pc ls st)) ((T'.setTop (F0 m pc ls rest)).pushFrame (.throwing q)) := by
  obtain ⟨hcw, hini, hy1, hy2, hlen, hmx⟩ := ok
  have hts := hx.2.2.2.2.1
  have hws : ∀ w ∈ jj_cw Y' :: jj_T, w.before as.toArray (T.setVm vm₁) = true := by
    intro w hw9
    rcases List.mem_cons.mp hw9 with rfl | h9
    · exact jj_at hts X₁.warmed hcw
    · exact jj_at hts X₁.warmed h9
  obtain ⟨oc, t, T', L, b1, b2, b3, b4, b5, b6⟩ := jj_back hM hx.2.2.2.2.2.2.2.2.2 X₁ (g := F0 m pc ls rest) rfl (hsz.trans hx.2.2.1.symm) (by rw [hx.2.1]; exact hd) (lv_room hrest) (X₁.named hnm) hws (jj_at hts X₁.warmed hini) (by have := hr.1.1; omega) (by have := hr.1.2; omega) hr.2.1 hr.2.2
    ⟨rfl, hw.next X₁.warmed (by show va_S (jj_A G) s.heap T.heap locs; rw [hT]; exact hS) (by show jj_ns G T.heap; rw [hT]; exact hH.2.1), by show jj_hp G h T.heap; rw [hT]; exact hH⟩
  refine ⟨oc, _, t, T', L, ?_, ?_, b1, b2, b3, b4, b5, ?_⟩
  · exact hT
  · exact X₁.warmed
  · cases oc with
    | returned v => exact fun target ht => hstep target (fun acts => by rw [doInvoke_state]; exact b6.trans ht)
    | threw q => exact hstep _ (fun acts => by rw [doInvoke_state]; exact b6)
theorem jj_callV {b : Nat} {C : String} (ok : jj_okc Y' n) (hl : Cond.methodLink Y.1.cls index Y'.1 ∈ jj_T) (hi : Cond.instanceMethod Y'.1 ∈ jj_T) (hsel : Cond.selects C Y'.1 Y'.1 ∈ jj_T) (hd : decode Y.2.1 pc = .ok (.invokevirtual index, 3)) (ha : jj_rcv G h b C) (hn : As.length = n) (hdd : d' + 1 ≤ d) (hrest : (rest.map fun v => v.category).sum ≤ 8)
    (hM : jj_C l G Y' d' (.ref b :: As) h o1 h1) : jj_R l G Y d (.ref b :: As) h o1 h1 pc (As.reverse ++ .ref b :: rest) rest := by
  intro p e R s m args below meth c H locs cells slots ls hx hw hr hS hH hsz T hT X
  have hts := hx.2.2.2.2.1
  obtain ⟨cellB, hcB, hoB, hclB⟩ := ha s H locs hw hS hH
  obtain ⟨mk, methM, hnamed, hmethM, hstM, habM⟩ := Cond.instanceMethod_spec (hts _ hi)
  obtain ⟨methM', cM, hmethM', -, -, -, -, -, -, hsigM⟩ := jj_cw_spec hnamed (hts _ ok.1)
  cases hmethM.symm.trans hmethM'
  obtain ⟨c2, r2, m2, q1, q2, q3, q4, kP, hkP, hkPi⟩ := Cond.selects_spec (hts _ hsel)
  have hy : Y'.1.cls ≠ "java/lang/invoke/MethodHandle" ∧ Y'.1.cls ≠ "java/lang/invoke/VarHandle" := ⟨ok.2.2.1, ok.2.2.2.1⟩
  cases hclB.symm.trans q1
  cases (State.methodFound?_of_named hnamed hy).symm.trans q2
  cases hnamed.symm.trans q3
  have hselP : selectMethod e.platform s.vm cellB.cls mk = .method mk := by rw [Launch.admits_selectMethod X.admits]; exact q4
  obtain ⟨vm₁, X₁, hstep₁⟩ := X.invokevirtual hx.1 hx.2.2.2.1 (hts _ hl) hnamed hmethM hstM hkP hkPi hy (a := b) (cell := cellB) (by rw [hT]; exact hcB)
    (fun z h9 => by rw [h9] at hoB; cases hoB) hselP hmethM habM hkP hkPi (g := F0 m pc ls (As.reverse ++ .ref b :: rest)) rfl (argsL := As) (rest := rest) (hn.trans (ok.len _ hsigM)) rfl (by rw [hx.2.1]; exact hd)
  exact jj_tail ok hM hdd hrest hd hx hw hr hS hH hsz hT X₁ hnamed hstep₁
theorem jj_callS (ok : jj_okc Y' n) (hl : Cond.methodLink Y.1.cls index Y'.1 ∈ jj_T) (hst : Cond.static Y'.1 ∈ jj_T) (hd : decode Y.2.1 pc = .ok (.invokestatic index, 3)) (hn : As.length = n) (hdd : d' + 1 ≤ d) (hrest : (rest.map fun v => v.category).sum ≤ 8)
    (hM : jj_C l G Y' d' As h o1 h1) : jj_R l G Y d As h o1 h1 pc (As.reverse ++ rest) rest := by
  intro p e R s m args below meth c H locs cells slots ls hx hw hr hS hH hsz T hT X
  have hts := hx.2.2.2.2.1
  have hy : Y'.1.cls ≠ "java/lang/invoke/MethodHandle" ∧ Y'.1.cls ≠ "java/lang/invoke/VarHandle" := ⟨ok.2.2.1, ok.2.2.2.1⟩
  obtain ⟨mk, hnamed⟩ := jj_cw_named (hts _ ok.1)
  obtain ⟨methM, cM, hmethM, -, -, -, -, -, -, hsigM⟩ := jj_cw_spec hnamed (hts _ ok.1)
  have hstatic : methM.isStatic = true := Cond.static_spec hnamed hmethM (hts _ hst)
  obtain ⟨kP, hkP, -⟩ := className_of_methodNamed hnamed
  have hinitP : kP.init = .initialized := Cond.initialized_spec (findClass_of_methodNamed hnamed) hkP (hts _ ok.2.1)
  obtain ⟨vm₁, X₁, hstep₁⟩ := X.invokestatic hx.1 hx.2.2.2.1 (hts _ hl) hnamed hmethM hstatic hkP hinitP hy (g := F0 m pc ls (As.reverse ++ rest)) rfl (argsL := As) (rest := rest) (hn.trans (ok.len _ hsigM)) rfl (by rw [hx.2.1]; exact hd)
  exact jj_tail ok hM hdd hrest hd hx hw hr hS hH hsz hT X₁ hnamed hstep₁
theorem jj_callI {b : Nat} (ok : jj_okc Y' n) (hh : Y'.2.2.2.2 = []) (hrt : Y'.2.2.2.1 = none) (hnm : Y'.1.name = "<init>") (hl : Cond.methodLink Y.1.cls index Y'.1 ∈ jj_T) (hi : Cond.instanceMethod Y'.1 ∈ jj_T) (hd : decode Y.2.1 pc = .ok (.invokespecial index, 3)) (hn : As.length = n) (hdd : d' + 1 ≤ d) (hrest : (rest.map fun v => v.category).sum ≤ 8)
    (hM : jj_C l G Y' d' (.ref b :: As) h o1 h1) : jj_R l G Y d (.ref b :: As) h o1 h1 pc (As.reverse ++ .ref b :: rest) rest := by
  intro p e R s m args below meth c H locs cells slots ls hx hw hr hS hH hsz T hT X
  have hts := hx.2.2.2.2.1
  have hy : Y'.1.cls ≠ "java/lang/invoke/MethodHandle" ∧ Y'.1.cls ≠ "java/lang/invoke/VarHandle" := ⟨ok.2.2.1, ok.2.2.2.1⟩
  have ec : jj_cw Y' = .code Y'.1 Y'.2.1 Y'.2.2.1 none := by rw [jj_cw_nil hh, hrt]
  have hpl : e.platform.magicAccessors = ({} : Platform).magicAccessors := by rw [X.admits.platform]
  obtain ⟨mk, methM, cM, kP, vm₁, hnamed, hmethM, hcodeM, -, hlocalsM, -, hkP, -, hW₁, hstep₁⟩ := Steps.initColdArgs (e := e) X.here hx.1 X.warmed hpl hx.2.2.2.1 hnm hy (hts _ hl) (hts _ hi) (by rw [← ec]; exact hts _ ok.1) (f := F0 m pc ls (As.reverse ++ .ref b :: rest)) rfl (argsL := As) (rest := rest) (fun sig h9 => hn.trans (ok.len sig h9)) rfl (by rw [hx.2.1]; exact hd)
  exact jj_tail ok hM hdd hrest hd hx hw hr hS hH hsz hT (X.noted hW₁) hnamed hstep₁
/-- a private method of a nest mate -/
theorem jj_callVN {b : Nat} {C host : String} (ok : jj_okc Y' n) (hl : (Y.1.cls, index, Y'.1, host) ∈ jj_nm) (hi : Cond.instanceMethod Y'.1 ∈ jj_T) (hsel : Cond.selects C Y'.1 Y'.1 ∈ jj_T) (hd : decode Y.2.1 pc = .ok (.invokevirtual index, 3)) (ha : jj_rcv G h b C) (hn : As.length = n) (hdd : d' + 1 ≤ d) (hrest : (rest.map fun v => v.category).sum ≤ 8)
    (hM : jj_C l G Y' d' (.ref b :: As) h o1 h1) : jj_R l G Y d (.ref b :: As) h o1 h1 pc (As.reverse ++ .ref b :: rest) rest := by
  intro p e R s m args below meth c H locs cells slots ls hx hw hr hS hH hsz T hT X
  have hts := hx.2.2.2.2.1
  obtain ⟨cellB, hcB, hoB, hclB⟩ := ha s H locs hw hS hH
  obtain ⟨mk, methM, hnamed, hmethM, hstM, habM⟩ := Cond.instanceMethod_spec (hts _ hi)
  obtain ⟨methM', cM, hmethM', -, -, -, -, -, -, hsigM⟩ := jj_cw_spec hnamed (hts _ ok.1)
  cases hmethM.symm.trans hmethM'
  obtain ⟨c2, r2, m2, q1, q2, q3, q4, kP, hkP, hkPi⟩ := Cond.selects_spec (hts _ hsel)
  have hy : Y'.1.cls ≠ "java/lang/invoke/MethodHandle" ∧ Y'.1.cls ≠ "java/lang/invoke/VarHandle" := ⟨ok.2.2.1, ok.2.2.2.1⟩
  cases hclB.symm.trans q1
  cases (State.methodFound?_of_named hnamed hy).symm.trans q2
  cases hnamed.symm.trans q3
  have hselP : selectMethod e.platform s.vm cellB.cls mk = .method mk := by rw [Launch.admits_selectMethod X.admits]; exact q4
  obtain ⟨vm₁, X₁, hstep₁⟩ := X.invokevirtualNest hx.1 hx.2.2.2.1 (va_Nw.use rfl (hw.2.2.1 _ hl)) hnamed hmethM hstM hkP hkPi hy (a := b) (cell := cellB) (by rw [hT]; exact hcB)
    (fun z h9 => by rw [h9] at hoB; cases hoB) hselP hmethM habM hkP hkPi (g := F0 m pc ls (As.reverse ++ .ref b :: rest)) rfl (argsL := As) (rest := rest) (hn.trans (ok.len _ hsigM)) rfl (by rw [hx.2.1]; exact hd)
  exact jj_tail ok hM hdd hrest hd hx hw hr hS hH hsz hT X₁ hnamed hstep₁
theorem jj_callSN {host : String} (ok : jj_okc Y' n) (hl : (Y.1.cls, index, Y'.1, host) ∈ jj_nm) (hst : Cond.static Y'.1 ∈ jj_T) (hd : decode Y.2.1 pc = .ok (.invokestatic index, 3)) (hn : As.length = n) (hdd : d' + 1 ≤ d) (hrest : (rest.map fun v => v.category).sum ≤ 8)
    (hM : jj_C l G Y' d' As h o1 h1) : jj_R l G Y d As h o1 h1 pc (As.reverse ++ rest) rest := by
  intro p e R s m args below meth c H locs cells slots ls hx hw hr hS hH hsz T hT X
  have hts := hx.2.2.2.2.1
  have hy : Y'.1.cls ≠ "java/lang/invoke/MethodHandle" ∧ Y'.1.cls ≠ "java/lang/invoke/VarHandle" := ⟨ok.2.2.1, ok.2.2.2.1⟩
  obtain ⟨mk, hnamed⟩ := jj_cw_named (hts _ ok.1)
  obtain ⟨methM, cM, hmethM, -, -, -, -, -, -, hsigM⟩ := jj_cw_spec hnamed (hts _ ok.1)
  have hstatic : methM.isStatic = true := Cond.static_spec hnamed hmethM (hts _ hst)
  obtain ⟨kP, hkP, -⟩ := className_of_methodNamed hnamed
  have hinitP : kP.init = .initialized := Cond.initialized_spec (findClass_of_methodNamed hnamed) hkP (hts _ ok.2.1)
  obtain ⟨vm₁, X₁, hstep₁⟩ := X.invokestaticNest hx.1 hx.2.2.2.1 (va_Nw.use rfl (hw.2.2.1 _ hl)) hnamed hmethM hstatic hkP hinitP hy (g := F0 m pc ls (As.reverse ++ rest)) rfl (argsL := As) (rest := rest) (hn.trans (ok.len _ hsigM)) rfl (by rw [hx.2.1]; exact hd)
  exact jj_tail ok hM hdd hrest hd hx hw hr hS hH hsz hT X₁ hnamed hstep₁
/-- a method that a class above declares, named by the class below: x is the pool's name -/
theorem jj_callU {b : Nat} {C : String} {x : MethodName} (ok : jj_okc Y' n) (hl : Cond.methodLink Y.1.cls index x ∈ jj_T) (hsame : Cond.sameMethod x.cls Y'.1.cls x.name x.desc ∈ jj_T) (hxy : Y'.1 = ⟨Y'.1.cls, x.name, x.desc⟩) (hi : Cond.instanceMethod Y'.1 ∈ jj_T) (hsel : Cond.selects C x Y'.1 ∈ jj_T) (hd : decode Y.2.1 pc = .ok (.invokevirtual index, 3)) (ha : jj_rcv G h b C) (hn : As.length = n) (hdd : d' + 1 ≤ d) (hrest : (rest.map fun v => v.category).sum ≤ 8)
    (hM : jj_C l G Y' d' (.ref b :: As) h o1 h1) : jj_R l G Y d (.ref b :: As) h o1 h1 pc (As.reverse ++ .ref b :: rest) rest := by
  intro p e R s m args below meth c H locs cells slots ls hx hw hr hS hH hsz T hT X
  have hts := hx.2.2.2.2.1
  obtain ⟨cellB, hcB, hoB, hclB⟩ := ha s H locs hw hS hH
  obtain ⟨mk, methM, hnamed, hmethM, hstM, habM⟩ := Cond.instanceMethod_spec (hts _ hi)
  obtain ⟨methM', cM, hmethM', -, -, -, -, -, -, hsigM⟩ := jj_cw_spec hnamed (hts _ ok.1)
  cases hmethM.symm.trans hmethM'
  obtain ⟨cn, ck, r1, hcn, hck, hni, hf, hn1⟩ := Cond.sameMethod_found (hts _ hsame)
  rw [← hxy] at hn1
  cases hnamed.symm.trans hn1
  obtain ⟨c2, r2, m2, q1, q2, q3, q4, kP, hkP, hkPi⟩ := Cond.selects_spec (hts _ hsel)
  cases hclB.symm.trans q1
  cases hf.symm.trans q2
  cases hnamed.symm.trans q3
  have hds : Y'.1.desc = x.desc := by rw [hxy]
  have hselP : selectMethod e.platform s.vm cellB.cls mk = .method mk := by rw [Launch.admits_selectMethod X.admits]; exact q4
  obtain ⟨vm₁, X₁, hstep₁⟩ := X.invokevirtualUp hx.1 hx.2.2.2.1 (hts _ hl) (hts _ hsame) ⟨ok.2.2.1, ok.2.2.2.1⟩ (by rw [← hxy]; exact hnamed) hmethM hstM (a := b) (cell := cellB) (by rw [hT]; exact hcB)
    (fun z h9 => by rw [h9] at hoB; cases hoB) hselP hmethM habM hkP hkPi (g := F0 m pc ls (As.reverse ++ .ref b :: rest)) rfl (argsL := As) (rest := rest) (hn.trans (ok.len _ hsigM)) rfl (by rw [hx.2.1]; exact hd)
  exact jj_tail ok hM hdd hrest hd hx hw hr hS hH hsz hT X₁ hnamed hstep₁
end JJC
section JJR
variable {l : Launch} {G : jj_G} {Y : jj_Y} {d : Nat} {F : jj_O → jj_H → Prop} {pc : Nat} {L : List (Option Value)} {st rest : List Value} {h h1 : jj_H} {as : List Value}
theorem jj_keep {G : jj_G} {H : Heap} {s st0 t T' : State} {locs L1 : List Loc} (h0 : st0.heap = H) (f1 : T'.heap = t.heap) (hS : va_S (jj_A G) s.heap H locs) (hL1 : ∀ q ∈ L1, jj_A G q.base) (hFr : va_F (jj_A G) st0 t) : va_S (jj_A G) s.heap T'.heap (locs ++ L1) := by
  obtain ⟨hz, hk⟩ := hFr
  rw [h0] at hz hk
  refine ⟨by rw [f1]; exact Nat.le_trans hS.1 hz, fun q h1 h2 => ?_, fun q hq => ?_⟩
  · rw [f1, hk q (Nat.lt_of_lt_of_le h1 hS.1) h2]
    exact hS.2.1 q h1 h2
  · rcases List.mem_append.mp hq with h9 | h9
    · exact hS.2.2 q h9
    · exact hL1 q h9
theorem jj_R.ret {v : Option Value} (hR : jj_R l G Y d as h (.inl v) h1 pc st rest) (hle : jj_le h h1) (k : jj_P l G Y d F (pc + 3) L (v.toList ++ rest) h1) : jj_P l G Y d F pc L st h := by
  obtain ⟨o, h', hF, hm, hE⟩ := k
  refine ⟨o, h', hF, hle.tr hm, fun p e R s m args below meth c H locs cells slots Q ls hx hw hr hS hH hL hK => ?_⟩
  obtain ⟨r1, r2, e1, e2⟩ := hr.step hle hm
  intro T hT X
  obtain ⟨oc, st0, t, T', L1, h0, hW0, ⟨-, hH1, hFr, -, hv⟩, X', hL1, f1, f2, stp⟩ := hR p e R s m args below meth c H locs cells slots ls hx hw r1 hS hH hL.1 T hT X
  subst hv
  obtain ⟨t2, a1, b1⟩ := hE p e R s m args below meth c T'.heap (locs ++ L1) _ _ Q ls hx hw r2 (jj_keep h0 f1 hS hL1 hFr) (by rw [f1]; exact hH1) hL (by rw [e1, e2]; exact hK) T' rfl X'
  exact ⟨t2, stp t2 a1, b1⟩
theorem jj_R.thr {E : String} (hR : jj_R l G Y d as h (.inr E) h1 pc st rest) (hle : jj_le h h1) (hcov : (tableOf Y.2.2.2.2).all (fun x => !covers x pc) = true) (hF : F (.inr E) h1) : jj_P l G Y d F pc L st h := by
  refine ⟨.inr E, h1, hF, hle, fun p e R s m args below meth c H locs cells slots Q ls hx hw hr hS hH hL hK => ?_⟩
  intro T hT X
  obtain ⟨oc, st0, t, T', L1, h0, hW0, ⟨-, hH1, hFr, -, q, ce, hq, hce, hcv, hcl⟩, X', hL1, f1, f2, stp⟩ := hR p e R s m args below meth c H locs cells slots ls hx hw hr hS hH hL.1 T hT X
  subst hq
  obtain ⟨st1, hrun, hend, hW, hsm⟩ := X'.leaveThrown q (g := F0 m pc ls rest) rfl rfl rfl (fun x hx9 => by
      rw [hx.2.2.2.2.2.2.2.1] at hx9
      have h9 := List.all_eq_true.mp hcov x hx9
      simpa only [Bool.not_eq_true'] using h9) hx.2.2.2.2.2.2.1
  refine ⟨_, stp.trans st1, hK _ (locs ++ L1) q ce hrun hend hW hsm (jj_keep h0 f1 hS hL1 hFr) ?_ ?_ hcv ?_⟩
  · show jj_hp G h1 T'.heap
    rw [f1]; exact hH1
  · show T'.heap[q]? = some ce
    rw [f1]; exact hce
  · rw [← hcl, hW0.alike.findClass]
end JJR
end
section
/-! exceptions -/
section JJX
variable {p : Program} {l : Launch} {e : Env} {R : Room} {s : State} {m : MethodId} {args : Array Value} {below : List Frame} {meth : Method} {c : Code} {T : State} {locs : List Loc} {cells slots : Nat}
/-- the state in which this method would be called anew where it now stands -/
def jj_anew (s T : State) (m : MethodId) (args : Array Value) (below : List Frame) : State := (T.setVm s.vm).setFrames (.invoking m args :: below)
theorem jj_rebase (X : Stand p l e R s m args below meth c T locs cells slots) {R' : Room} (hf : R'.frames ≤ R.frames) (hl : R'.locals ≤ R.locals) (hc : cells + R'.cells ≤ R.cells) (hs : slots + R'.slots ≤ R.slots) : Stand p l e R' (jj_anew s T m args below) m args below meth c T [] 0 0 := by
  have htop : (T.setVm s.vm).topJava?.isSome := X.here.top
  have hF : (jj_anew s T m args below).frames = .invoking m args :: below := State.frames_setFrames _ (State.cur_lt_of_top htop)
  have hl9 : e.platform.stackLimits (T.setVm s.vm).me = e.platform.stackLimits s.me := X.limits
  have hb9 : (T.setVm s.vm).me.stackBytes = s.me.stackBytes := X.bytes
  obtain ⟨g₀, hg0⟩ := Option.isSome_iff_exists.mp htop
  obtain ⟨r, hr⟩ := State.topJava?_eq_some.mp hg0
  obtain ⟨t9, ht9, -⟩ := State.frames_cons hr
  have hroom : (jj_anew s T m args below).hasRoom e.platform R' = true := by
    have h := X.room
    have hU : (jj_anew s T m args below).localsInUse = s.localsInUse := by
      rw [State.localsInUse_invoking hF (meth := meth) (c := c) X.method X.code, State.localsInUse_invoking X.frames X.method X.code]
    have q1 := X.heapSize
    have q2 := X.used
    have q3 := X.book
    simp only [State.hasRoom, Bool.and_eq_true, decide_eq_true_eq] at h ⊢
    obtain ⟨⟨⟨⟨h1, h2, h3, h4, h5, h6⟩, h7⟩, h8⟩, -⟩ := h
    rw [X.frames, List.length_cons] at h2 h3
    rw [hU, hF, List.length_cons]
    have e1 : e.platform.stackLimits (jj_anew s T m args below).me = e.platform.stackLimits s.me := by unfold jj_anew; rw [State.stackLimits_setFrames]; exact hl9
    have e2 : (jj_anew s T m args below).me.stackBytes = s.me.stackBytes := by unfold jj_anew; rw [State.stackBytes_setFrames]; exact hb9
    have e3 : (jj_anew s T m args below).heap = T.heap := rfl
    have e4 : (jj_anew s T m args below).slotsUsed = T.slotsUsed := rfl
    rw [e1, e2, e3, e4]
    exact ⟨⟨⟨⟨by omega, by omega, by omega, by omega, by omega, h6⟩, by omega⟩, by omega⟩, q3⟩
  refine ⟨X.admits, X.cas, X.clock, hF, hroom, X.hears, X.method, X.code, X.here, X.tail, X.warmed, ?_, ?_, ?_⟩
  · unfold jj_anew
    rw [State.stackLimits_setFrames]
    rfl
  · unfold jj_anew
    rw [State.stackBytes_setFrames]
    rfl
  · have h := State.sameButNew.refl (T.setVm s.vm) ht9
    obtain ⟨e1, e2⟩ := h
    refine ⟨?_, e2⟩
    unfold jj_anew
    rw [State.setFrames_setFrames]
    exact e1
/-- what was made and written since then, seen from the method's start -/
theorem jj_since (X : Stand p l e R s m args below meth c T locs cells slots) {U : State} {k n : Nat} (h : (jj_anew s T m args below).sameButNew ({ U with vm := (jj_anew s T m args below).vm } : State) [] k n) : s.sameButNew ({ U with vm := s.vm } : State) locs (cells + k) (slots + n) := by
  obtain ⟨e1, e2⟩ := h
  have h2 : (T.setVm s.vm).sameButNew ({ U with vm := s.vm } : State) [] k n := by
    refine ⟨?_, e2⟩
    unfold jj_anew at e1
    rw [State.setFrames_setFrames] at e1
    exact e1
  have h3 := X.same.trans h2
  rw [List.append_nil] at h3
  exact h3
/-- cells that were there are as they were -/
theorem jj_same_old {u v : State} {k n : Nat} (h : u.sameButNew v [] k n) : u.heap.size ≤ v.heap.size ∧ v.heap.size ≤ u.heap.size + k ∧ ∀ q : Nat, q < u.heap.size → v.heap[q]? = u.heap[q]? := by
  obtain ⟨-, h2, h3, -, -, h6⟩ := h
  refine ⟨h2, h3, fun q hq => ?_⟩
  obtain ⟨c9, e1, e2, e3, e4⟩ := h6 q _ (Array.getElem?_eq_getElem hq)
  have hs : c9.slots = (u.heap[q]).slots := Array.ext_getElem? fun i => e4 i (fun hm => nomatch hm)
  have h9 : c9 = u.heap[q] := by
    rw [hs] at e2
    exact e2
  rw [e1, h9, Array.getElem?_eq_getElem hq]
end JJX
section JJT
variable {l : Launch} {G : jj_G} {Y : jj_Y} {d : Nat} {F : jj_O → jj_H → Prop} {pc : Nat} {L : List (Option Value)} {st : List Value} {h : jj_H}
/-- 'throw new E("text")' in a method that doesn't catch it -/
theorem jj_throwS {ik is ic : Nat} {cls text : String} {names : List String} (hcls : Bundle.fit cls = true) (hnames : ∀ n ∈ names, Bundle.fit n = true) (hlen : names.length ≤ 2) (hk : Cond.classLink Y.1.cls ik cls ∈ jj_T) (hini : Cond.initialized cls ∈ jj_T) (hst : Cond.stringRef Y.1.cls is text ∈ jj_hw) (hat : ∀ w ∈ Bundle.ownAtoms Y.1.cls ic cls names, w ∈ jj_T ∨ w ∈ jj_hw)
    (d0 : decode Y.2.1 pc = .ok (.new ik, 3)) (d3 : decode Y.2.1 (pc + 3) = .ok (.dup, 1)) (d4 : decode Y.2.1 (pc + 4) = .ok (.ldc is, 2)) (d6 : decode Y.2.1 (pc + 6) = .ok (.invokespecial ic, 3)) (d9 : decode Y.2.1 (pc + 9) = .ok (.athrow, 1))
    (hcov : (tableOf Y.2.2.2.2).all (fun x => !covers x (pc + 9)) = true) (hdd : 6 ≤ d) (hsum : (st.map fun v => v.category).sum ≤ 40) (hF : F (.inr cls) (h.1, h.2.1 + 1, h.2.2 + 6)) : jj_P l G Y d F pc L st h := by
  refine ⟨.inr cls, (h.1, h.2.1 + 1, h.2.2 + 6), hF, ⟨Nat.le_add_right _ _, Nat.le_add_right _ _⟩, fun p e R s m args below meth c H locs cells slots Q ls hx hw hr hS hH hL hK => ?_⟩
  intro T hT X
  have hts := hx.2.2.2.2.1
  obtain ⟨⟨r0, r1⟩, r2, r3⟩ := hr
  have z1 : (h.2.1 + 1) - h.2.1 = 1 := by omega
  have z2 : (h.2.2 + 6) - h.2.2 = 6 := by omega
  dsimp only at r2 r3 hK
  rw [z1] at r2 hK
  rw [z2] at r3 hK
  have htr : e.platform.stackTraces = false := (show e.platform.stackTraces = l.stackTraces by rw [X.admits.platform]).trans hx.2.2.2.2.2.2.2.2.2
  have Y0 := jj_rebase X (R' := { frames := R.frames, locals := R.locals, cells := 1, slots := 6 }) (Nat.le_refl _) (Nat.le_refl _) r2 r3
  obtain ⟨s', hs'⟩ : ∃ z, z = jj_anew s T m args below := ⟨_, rfl⟩
  rw [← hs'] at Y0
  have hvm : s'.vm = s.vm := by rw [hs']; rfl
  have hhp : s'.heap = T.heap := by rw [hs']; rfl
  have hW0 : s.WarmedH s'.vm := by rw [hvm]; exact State.WarmedH.refl s
  have hg1 : ∀ w ∈ jj_T, w.before args s' = true := fun w hw9 => jj_at hts hW0 hw9
  have hg2 : ∀ w ∈ jj_hw, w.before args s' = true := fun w hw9 => hw.2.2.2.1 w hw9 args s' hW0 (fun q hq hA => by rw [hhp, hT]; exact hS.2.1 q hq hA) (by rw [hhp, hT]; exact hS.1)
  have hall : ∀ w ∈ Bundle.ownAtoms Y.1.cls ic cls names, w.before args s' = true := fun w hw9 => (hat w hw9).elim (hg1 w) (hg2 w)
  have hown' : s'.vm.findClass Y.1.cls = some m.cls := by rw [hvm]; exact hx.2.2.2.1
  have hins : (Cond.instantiable cls 6).before args s' = true := hall _ (by simp [Bundle.ownAtoms])
  obtain ⟨vm₁, cX, kX, hfX, hkX, -, -, X₁, st1⟩ := Y0.newCold hx.1 (own := Y.1.cls) (C := cls) (index := ik) (n := 6) hown' (hg1 _ hk) hins (hg1 _ hini)
    (g := F0 m pc ls st) rfl (by rw [hx.2.1]; exact d0) (Nat.le_refl _) (Nat.le_refl _)
  generalize hT1 : (T.setVm vm₁).pushCell { cls := cX, slots := kX.instanceTypes.map defaultValue, vm := .none } = T1 at X₁ st1
  have hcellA : T1.heap[T.heap.size]? = some (freshCell cX kX) := by rw [← hT1]; exact State.heap_pushCell_size _ _
  have hstr := hg2 _ hst
  obtain ⟨-, -, -, sa, -, -, -, -, -, hev⟩ := Cond.stringRef_spec hown' hstr
  have hsum9 : ((Value.ref T.heap.size :: st).map fun v => v.category).sum ≤ 41 := by
    rw [List.map_cons, List.sum_cons]
    show 1 + _ ≤ 41
    omega
  obtain ⟨U, hsteps, hrun, hend, hW, hsame, ce, hce, K⟩ := X₁.ctorThrowS hx.1 htr (own := Y.1.cls) (cls := cls) (names := names) (ic := ic) hown' hcls hnames hall (fun y hy => nomatch hy) hfX hkX hcellA (by rw [hhp]; exact Nat.le_refl _) (msg := .ref sa) rfl
    (g := F0 m (pc + 6) ls (.ref sa :: .ref T.heap.size :: .ref T.heap.size :: st)) rfl (hL.1.trans hx.2.2.1.symm) rfl rfl (rest := st) rfl
    (by rw [hx.2.1]; exact d6) (by rw [hx.2.1]; exact d9) (fun x hx9 => by
      rw [hx.2.2.2.2.2.2.2.1] at hx9
      have h9 := List.all_eq_true.mp hcov x hx9
      simpa only [Bool.not_eq_true'] using h9) (by show _ < R.frames; omega) (by show 2 * 0 + _ + _ ≤ R.locals; omega) hx.2.2.2.2.2.2.1
  have hold := jj_same_old hsame
  have hold1 : T.heap.size ≤ U.heap.size ∧ U.heap.size ≤ T.heap.size + 1 ∧ ∀ q : Nat, q < T.heap.size → U.heap[q]? = T.heap[q]? := by
    rw [← hhp]
    exact hold
  have hce0 := (Array.getElem?_eq_some_iff.mp hce).1
  have hcv : ce.vm = .none := K.vm
  refine ⟨U, st1 _ ?_, hK U locs T.heap.size ce hrun hend (State.WarmedH.trans hW0 hW) (jj_since X (by rw [← hs']; exact hsame)) ⟨Nat.le_trans hS.1 (by rw [← hT]; exact hold1.1), fun q hq hA => ?_, hS.2.2⟩ ?_ hce hcv ?_⟩
  · show Steps p.tables e below (T1.setTop { method := m, pc := pc + 3, locals := ls, stack := .ref T.heap.size :: st, locked := none }) _
    have d3' : decode c.code (pc + 3) = .ok (.dup, 1) := by rw [hx.2.1]; exact d3
    have d4' : decode c.code (pc + 4) = .ok (.ldc is, 2) := by rw [hx.2.1]; exact d4
    jvm_step X₁.here [X₁.here.top, hx.1, d3', Value.category]
    exact X₁.ldcString hx.1 (own := Y.1.cls) (text := text) (index := is) (a := sa) hown' hstr hev
      (g := { method := m, pc := pc + 4, locals := ls, stack := .ref T.heap.size :: .ref T.heap.size :: st, locked := none }) rfl d4' _ hsteps
  · rw [hold1.2.2 q (by rw [hT]; exact Nat.lt_of_lt_of_le hq hS.1), hT]
    exact hS.2.1 q hq hA
  · have hz : T.heap.size = h.2.1 := by rw [hT]; exact hH.1
    refine hH.more (by omega) (fun q cell hq hcell => ?_) (fun q hq => by rw [hold1.2.2 q (by omega), hT])
    have hq2 := (Array.getElem?_eq_some_iff.mp hcell).1
    have hq3 : q = T.heap.size := by omega
    subst hq3
    cases Option.some.inj (hcell.symm.trans hce)
    rw [hcv]
    rfl
  · rw [← hvm]
    exact K.cls
end JJT
end
section
/-! a callee's throw, caught here -/
/-- a row that catches: its class, looked up here, takes the thing thrown -/
theorem jj_go1 {Q : Handler → Pre} {E : CtlPost} {e : Env} {d : Bool} {acts : List Action} {s : State} {f : JFrame} {a : Addr} {x : ExceptionTableEntry} {t : List ExceptionTableEntry} {c : ClassId} {cell : Cell} (hx : covers x f.pc = true) (h0 : x.catchType ≠ 0)
    (hl : s.vm.ClassLinks e.platform f.method.cls x.catchType c) (hcell : s.heap[a]? = some cell) (hobj : ∀ k, cell.vm ≠ .statics k) (hk : ∃ k, s.vm.classes[cell.cls]? = some k) (hc : ∃ k, s.vm.classes[c]? = some k) :
    wp (findHandler.go f a (x :: t)) Q E e d acts s ↔ if s.vm.assignable cell.cls c = true then Q (.found x.handlerPc) d acts (s.setVm (s.vm.noted f.method.cls x.catchType (.cls c))) else wp (findHandler.go f a t) Q E e d acts (s.setVm (s.vm.noted f.method.cls x.catchType (.cls c))) := by
  have hx1 := hx
  simp only [covers] at hx1
  obtain ⟨ha, ht⟩ := (resolveClass_links e.toSetting hl).op (op := VmOp.resolveClass f.method.cls x.catchType) rfl
  have hal : s.vm.Alike (s.vm.noted f.method.cls x.catchType (.cls c)) := (Vm.Alike.refl s.vm).noted _ _ _
  obtain ⟨k1, hk1⟩ := hk
  obtain ⟨k2, hk2⟩ := hc
  obtain ⟨k1', hk1', -⟩ := hal.2.2 _ _ hk1
  obtain ⟨k2', hk2', -⟩ := hal.2.2 _ _ hk2
  by_cases hfit : s.vm.assignable cell.cls c = true
  · have hfit' : (s.vm.noted f.method.cls x.catchType (.cls c)).assignable cell.cls c = true := by rw [hal.assignable]; exact hfit
    rw [if_pos hfit]
    simp [findHandler.go, hx1, h0, ha, ht, hcell, hobj, hk1', hk2', hfit', VmOp.dirties, VmOp.acts]
  · have hfit' : (s.vm.noted f.method.cls x.catchType (.cls c)).assignable cell.cls c = false := by rw [hal.assignable]; simpa using hfit
    rw [if_neg hfit]
    simp [findHandler.go, hx1, h0, ha, ht, hcell, hobj, hk1', hk2', hfit', VmOp.dirties, VmOp.acts]
def jj_passed (pl : Platform) (s₀ : State) (d : ClassId) (pc : Nat) (thrown : ClassId) (x : ExceptionTableEntry) : Prop := covers x pc = false ∨ (x.catchType ≠ 0 ∧ ∃ c, s₀.vm.ClassLinks pl d x.catchType c ∧ s₀.vm.assignable thrown c = false)
theorem jj_go {e : Env} {s₀ : State} {f : JFrame} {a : Addr} {cell : Cell} (hobj : ∀ k, cell.vm ≠ .statics k) (hk0 : ∃ k, s₀.vm.classes[cell.cls]? = some k) (x : ExceptionTableEntry) (suf : List ExceptionTableEntry) (hx : covers x f.pc = true) (h0 : x.catchType ≠ 0) {c : ClassId} (hl : s₀.vm.ClassLinks e.platform f.method.cls x.catchType c) (hfit : s₀.vm.assignable cell.cls c = true) :
    ∀ (pre : List ExceptionTableEntry) (S : State), s₀.WarmedH S.vm → S.heap[a]? = some cell → (∀ y ∈ pre, jj_passed e.platform s₀ f.method.cls f.pc cell.cls y) →
      ∃ vm', s₀.WarmedH vm' ∧ ∀ (Q : Handler → Pre) (E : CtlPost) (d : Bool) (acts : List Action), wp (findHandler.go f a (pre ++ x :: suf)) Q E e d acts S ↔ Q (.found x.handlerPc) d acts (S.setVm vm') := by
  obtain ⟨k0, hk0⟩ := hk0
  intro pre
  induction pre with
  | nil =>
    intro S hW hcell _
    obtain ⟨k1, hk1, -⟩ := hW.alike.2.2 _ _ hk0
    obtain ⟨dk, _, _, kt, hd, _, _, _, _, hkt, _, hopen⟩ := hl.here
    obtain ⟨kt1, hkt1, -⟩ := hW.alike.2.2 _ _ hkt
    refine ⟨_, hW.noted hd hopen (State.rightAt_cls hl), fun Q E d acts => ?_⟩
    rw [List.nil_append, jj_go1 hx h0 (hW.classLinks hl) hcell hobj ⟨k1, hk1⟩ ⟨kt1, hkt1⟩, if_pos (by rw [hW.alike.assignable]; exact hfit)]
  | cons y ys ih =>
    intro S hW hcell hpass
    obtain ⟨k1, hk1, -⟩ := hW.alike.2.2 _ _ hk0
    have hrest : ∀ z ∈ ys, jj_passed e.platform s₀ f.method.cls f.pc cell.cls z := fun z hz => hpass z (List.mem_cons_of_mem _ hz)
    by_cases hcov : covers y f.pc = true
    · rcases hpass y List.mem_cons_self with h9 | ⟨h9, c1, hl1, hno⟩
      · rw [h9] at hcov
        cases hcov
      · obtain ⟨dk, _, _, kt, hd, _, _, _, _, hkt, _, hopen⟩ := hl1.here
        obtain ⟨kt1, hkt1, -⟩ := hW.alike.2.2 _ _ hkt
        obtain ⟨vm', hW', hq⟩ := ih (S.setVm (S.vm.noted f.method.cls y.catchType (.cls c1))) (hW.noted hd hopen (State.rightAt_cls hl1)) hcell hrest
        refine ⟨vm', hW', fun Q E d acts => ?_⟩
        rw [List.cons_append, jj_go1 hcov h9 (hW.classLinks hl1) hcell hobj ⟨k1, hk1⟩ ⟨kt1, hkt1⟩, if_neg (by rw [hW.alike.assignable, hno]; decide)]
        exact hq Q E d acts
    · obtain ⟨vm', hW', hq⟩ := ih S hW hcell hrest
      refine ⟨vm', hW', fun Q E d acts => ?_⟩
      rw [List.cons_append, W.findHandler_go_skip (by simpa using hcov)]
      exact hq Q E d acts
section JJY
variable {p : Program} {l : Launch} {e : Env} {R : Room} {s : State} {m : MethodId} {args : Array Value} {below : List Frame} {meth : Method} {c : Code} {T : State} {locs : List Loc} {cells slots : Nat}
theorem jj_caught (X : Stand p l e R s m args below meth c T locs cells slots) (a : Addr) {g : JFrame} (hg : g.method = m) {cell : Cell} (hcell : T.heap[a]? = some cell) (hobj : ∀ k, cell.vm ≠ .statics k) (hk0 : ∃ k, s.vm.classes[cell.cls]? = some k)
    (pre : List ExceptionTableEntry) (x : ExceptionTableEntry) (suf : List ExceptionTableEntry) (hsplit : c.exceptionTable.toList = pre ++ x :: suf) (hpass : ∀ y ∈ pre, jj_passed e.platform s m.cls g.pc cell.cls y) (hx : covers x g.pc = true) (h0 : x.catchType ≠ 0) {cT : ClassId} (hl : s.vm.ClassLinks e.platform m.cls x.catchType cT) (hfit : s.vm.assignable cell.cls cT = true) :
    ∃ vm', Stand p l e R s m args below meth c (T.setVm vm') locs cells slots ∧ ∀ target, Steps p.tables e below ((T.setVm vm').setTop { g with pc := x.handlerPc, stack := [.ref a] }) target → Steps p.tables e below ((T.setTop g).pushFrame (.throwing a)) target := by
  subst hg
  obtain ⟨vm', hW', hq⟩ := jj_go (e := e) (s₀ := s) (f := g) (a := a) hobj hk0 x suf hx h0 hl hfit pre ((T.setTop g).pushFrame (.throwing a)) X.warmed hcell hpass
  have hm9 : ((T.setTop g).pushFrame (.throwing a)).vm.method? g.method = some meth := X.method'
  have hfind : ∀ (Q : Handler → Pre) (E : CtlPost) (d : Bool) (acts : List Action), wp (findHandler g a) Q E e d acts ((T.setTop g).pushFrame (.throwing a)) ↔ Q (.found x.handlerPc) d acts (((T.setTop g).pushFrame (.throwing a)).setVm vm') := fun Q E d acts => by
    rw [W.findHandler_eq hm9 X.code, hsplit]
    exact hq Q E d acts
  refine ⟨vm', X.noted hW', fun target hrest => ?_⟩
  obtain ⟨hgo, hw⟩ := X.here.throwing (g := g) a
  refine Steps.head hgo hw ?_
  have hstep : (stepThrowing e ((T.setTop g).pushFrame (.throwing a)) a (.java g :: T.frames.tail)).Is ((((T.setTop g).pushFrame (.throwing a)).setVm vm').setFrames (.java { g with pc := x.handlerPc, stack := [.ref a] } :: T.frames.tail)) [] := by
    simp only [stepThrowing, searchFrame, vmDo]
    generalize hr : Sem.go _ e false [] ((T.setTop g).pushFrame (.throwing a)) = res
    obtain ⟨as, rfl, ha⟩ := Sem.eq_ok_of hr (a := Handler.found x.handlerPc) (s' := ((T.setTop g).pushFrame (.throwing a)).setVm vm') (acts' := []) (by simp [hfind _ _ _ _])
    exact ⟨rfl, ha⟩
  rw [stepThread_throwing (frames_entered X.here.top _), hstep.1]
  obtain ⟨g₀, hg0⟩ := Option.isSome_iff_exists.mp X.here.top
  obtain ⟨r, hr⟩ := State.topJava?_eq_some.mp hg0
  have hr' : (T.setVm vm').frames = .java g₀ :: r := hr
  rw [State.setTop_of_frames _ hr'] at hrest
  have e1 : ((T.setTop g).pushFrame (.throwing a)).setVm vm' = ((T.setVm vm').setFrames (.throwing a :: .java g :: r)) := by
    rw [State.pushFrame, State.frames_setTop _ hr, State.setTop_of_frames _ hr, State.setFrames_setFrames]
    rfl
  rw [e1, State.setFrames_setFrames, hr, List.tail_cons]
  exact hrest
end JJY
section JJR2
variable {l : Launch} {G : jj_G} {Y : jj_Y} {d : Nat} {F : jj_O → jj_H → Prop} {pc : Nat} {L : List (Option Value)} {st rest : List Value} {h h1 : jj_H} {as : List Value}
theorem jj_L.drop {n i : Nat} {L : List (Option Value)} {ls : Array Slot} {v : Value} (h : jj_L n (L.set i (some v)) ls) : jj_L n (L.set i none) ls := by
  refine ⟨h.1, h.2.1, fun j w hw => h.2.2 j w ?_⟩
  by_cases hj : i = j
  · subst hj
    rw [List.getElem?_set] at hw
    simp at hw
  · rw [List.getElem?_set_ne hj] at hw ⊢
    exact hw
/-- what the words say of a class that another isn't under -/
def jj_nc (E nm : String) : Prop := (E, nm) ∈ jj_ncl
/-- caught by the row x, its handler lays the reference away at place i at once -/
theorem jj_R.catchA {E name : String} {i : Nat} (pre : List ExceptionTableEntry) (x : ExceptionTableEntry) (suf : List ExceptionTableEntry) (hsp : tableOf Y.2.2.2.2 = pre ++ x :: suf) (hpass : ∀ z ∈ pre, covers z pc = false ∨ (z.catchType ≠ 0 ∧ ∃ nm : String, Cond.classLink Y.1.cls z.catchType nm ∈ jj_T ∧ jj_nc E nm)) (hxc : covers x pc = true) (h0 : x.catchType ≠ 0) (hlk : Cond.classLink Y.1.cls x.catchType name ∈ jj_T) (hcast : Cond.castable E name ∈ jj_hw)
    {len : Nat} (hd : decode Y.2.1 x.handlerPc = .ok (.astore i, len) ∧ len = 2 ∨ ∃ j : Fin 4, (j : Nat) = i ∧ decode Y.2.1 x.handlerPc = .ok (.astore_n j, len) ∧ len = 1) (hb : i < Y.2.2.1) (ho : jj_ok1 L i = true)
    (hR : jj_R l G Y d as h (.inr E) h1 pc st rest) (hle : jj_le h h1) (k : jj_P l G Y d F (x.handlerPc + len) (L.set i none) [] h1) : jj_P l G Y d F pc L st h := by
  obtain ⟨o, h', hF, hm, hE⟩ := k
  refine ⟨o, h', hF, hle.tr hm, fun p e R s m args below meth c H locs cells slots Q ls hx hw hr hS hH hL hK => ?_⟩
  obtain ⟨r1, r2, e1, e2⟩ := hr.step hle hm
  intro T hT X
  obtain ⟨oc, st0, t, T', L1, h00, hW0, ⟨-, hH1, hFr, -, q, ce, hq, hce, hcv, hcl⟩, X', hL1, f1, f2, stp⟩ := hR p e R s m args below meth c H locs cells slots ls hx hw r1 hS hH hL.1 T hT X
  subst hq
  have hts := hx.2.2.2.2.1
  have hpl : e.platform.magicAccessors = ({} : Platform).magicAccessors := by rw [X.admits.platform]
  have hcl9 : s.vm.findClass E = some ce.cls := by rw [← hcl, hW0.alike.findClass]
  obtain ⟨c3, c4, hc3, hc4, hasg⟩ := Cond.castable_spec (hw.2.2.2.1 _ hcast args s (State.WarmedH.refl s) (fun _ _ _ => rfl) (Nat.le_refl _))
  cases Option.some.inj (hc3.symm.trans hcl9)
  obtain ⟨c5, hc5, hcl5⟩ := Cond.classLink_spec hx.2.2.2.1 (hts _ hlk) e.platform hpl
  cases Option.some.inj (hc4.symm.trans hc5)
  obtain ⟨vm', X2, stp2⟩ := jj_caught X' q (g := F0 m pc ls rest) rfl (by rw [f1]; exact hce) (fun z hz => by rw [hcv] at hz; cases hz) (by obtain ⟨k9, h9, -⟩ := Vm.findClass_spec hcl9; exact ⟨k9, h9⟩) pre x suf (hx.2.2.2.2.2.2.2.1.trans hsp)
    (fun z hz => by
      rcases hpass z hz with h9 | ⟨hz0, nm, hl1, hn1⟩
      · exact Or.inl h9
      · obtain ⟨c6, hc6, hcl6⟩ := Cond.classLink_spec hx.2.2.2.1 (hts _ hl1) e.platform hpl
        obtain ⟨a8, b8, g1, g2, g3⟩ := hw.2.2.2.2.2.2 _ hn1
        cases Option.some.inj (g1.symm.trans hcl9)
        cases Option.some.inj (g2.symm.trans hc6)
        exact Or.inr ⟨hz0, _, hcl6, g3⟩) hxc h0 hcl5 hasg
  have hSn := jj_keep h00 f1 hS hL1 hFr
  have hHn : jj_hp G h1 T'.heap := by rw [f1]; exact hH1
  have fin : ∀ ls' : Array Slot, jj_L Y.2.2.1 (L.set i none) ls' → W p l e R s m args below meth c T'.heap (locs ++ L1) (cells + (h1.2.1 - h.2.1)) (slots + (h1.2.2 - h.2.2)) Q (F0 m (x.handlerPc + len) ls' []) := fun ls' hL' =>
    hE p e R s m args below meth c T'.heap (locs ++ L1) _ _ Q ls' hx hw r2 hSn hHn hL' (by rw [e1, e2]; exact hK)
  have hWh : W p l e R s m args below meth c T'.heap (locs ++ L1) (cells + (h1.2.1 - h.2.1)) (slots + (h1.2.2 - h.2.2)) Q (F0 m x.handlerPc ls [.ref q]) := by
    rcases hd with ⟨hd, rfl⟩ | ⟨j, hj, hd, rfl⟩
    · exact lv_astore hx.1 hx.2.1 hd hL.has hb rfl (fun ls' h9 => fin ls' (jj_L.drop (jj_L.set1 ho h9)))
    · exact lv_astore_n hx.1 hx.2.1 hd hj hL.has hb rfl (fun ls' h9 => fin ls' (jj_L.drop (jj_L.set1 ho h9)))
  obtain ⟨t2, a1, b1⟩ := hWh (T'.setVm vm') rfl X2
  exact ⟨t2, stp.trans (stp2 t2 a1), b1⟩
end JJR2
end
section
/-! more instructions -/
section JJM
variable {l : Launch} {G : jj_G} {Y : jj_Y} {d : Nat} {F : jj_O → jj_H → Prop} {pc : Nat} {L : List (Option Value)} {st : List Value} {h : jj_H}
/-- a step that leaves the heap as it is -/
theorem jj_still {pc' : Nat} {st' : List Value}
    (hs : ∀ (p : Program) (e : Env) (R : Room) (s : State) (m : MethodId) (args : Array Value) (below : List Frame) (meth : Method) (c : Code) (H : Heap) (locs : List Loc) (cells slots : Nat) (Q : State → Prop) (ls : Array Slot), jj_cx Y l p s m args meth c → jj_wd G s → (d ≤ R.frames ∧ 40 * d ≤ R.locals) → va_S (jj_A G) s.heap H locs → jj_hp G h H → jj_L Y.2.2.1 L ls →
      W p l e R s m args below meth c H locs cells slots Q (F0 m pc' ls st') → W p l e R s m args below meth c H locs cells slots Q (F0 m pc ls st))
    (k : jj_P l G Y d F pc' L st' h) : jj_P l G Y d F pc L st h := by
  obtain ⟨o, h', hF, hm, hE⟩ := k
  refine ⟨o, h', hF, hm, fun p e R s m args below meth c H locs cells slots Q ls hx hw hr hS hH hL hK => ?_⟩
  exact hs p e R s m args below meth c H locs cells slots Q ls hx hw hr.1 hS hH hL (hE p e R s m args below meth c H locs cells slots Q ls hx hw hr hS hH hL hK)
theorem jj_lcmp {x y : Int64} (hd : decode Y.2.1 pc = .ok (.lcmp, 1)) (k : jj_P l G Y d F (pc + 1) L (.int (lg_cmp x y) :: st) h) : jj_P l G Y d F pc L (.long y :: .long x :: st) h :=
  jj_still (fun _ _ _ _ _ _ _ _ _ _ _ _ _ _ _ hx _ _ _ _ _ kk => W.lcmp hx.1 hx.2.1 hd kk) k
theorem jj_ldcS {index i : Nat} {tx : String} (hd : decode Y.2.1 pc = .ok (.ldc index, 2)) (hq : (Y.1.cls, index, tx, i) ∈ jj_str) (k : jj_P l G Y d F (pc + 2) L (.ref (G.2.2.2.1 i) :: st) h) : jj_P l G Y d F pc L st h :=
  jj_still (fun _ _ _ _ _ _ _ _ _ _ _ _ _ _ ls hx hw _ _ _ _ kk T hT X => by
    obtain ⟨t, a1, b1⟩ := kk T hT X
    have hZ := hw.2.2.2.2.1.2.1 _ hq
    exact ⟨t, X.ldcString hx.1 hx.2.2.2.1 (text := tx) (a := G.2.2.2.1 i) hZ.1 hZ.2 (g := F0 _ pc ls st) rfl (by rw [hx.2.1]; exact hd) t a1, b1⟩) k
theorem jj_coder {index i : Nat} (hi : i < jj_nS) (hl : Cond.fieldLink Y.1.cls index "java/lang/String" "coder" "B" ∈ jj_T) (hd : decode Y.2.1 pc = .ok (.getfield index, 3)) (k : jj_P l G Y d F (pc + 3) L (.int 0 :: st) h) : jj_P l G Y d F pc L (.ref (G.2.2.2.1 i) :: st) h :=
  jj_still (fun _ _ _ _ _ _ _ _ _ _ _ _ _ _ _ hx hw _ hS _ _ kk => vk_getf hx.1 hx.2.1 (hw.2.2.2.2.1.1.1 i hi).2.1 hS hx.2.2.2.1 (hx.2.2.2.2.1 _ hl) (fun _ q => q) hd kk) k
theorem jj_value {index i : Nat} (hi : i < jj_nS) (hl : Cond.fieldLink Y.1.cls index "java/lang/String" "value" "[B" ∈ jj_T) (hd : decode Y.2.1 pc = .ok (.getfield index, 3)) (k : jj_P l G Y d F (pc + 3) L (.ref (G.2.2.2.2.1 i) :: st) h) : jj_P l G Y d F pc L (.ref (G.2.2.2.1 i) :: st) h :=
  jj_still (fun _ _ _ _ _ _ _ _ _ _ _ _ _ _ _ hx hw _ hS _ _ kk => vk_getf hx.1 hx.2.1 (hw.2.2.2.2.1.1.1 i hi).2.2.1 hS hx.2.2.2.1 (hx.2.2.2.2.1 _ hl) (fun _ q => q) hd kk) k
theorem jj_getstatic {index : Nat} {C n dd : String} {v : Value} (hq : (C, n, dd, v) ∈ jj_sta) (hl : Cond.fieldLink Y.1.cls index C n dd ∈ jj_T) (hd : decode Y.2.1 pc = .ok (.getstatic index, 3)) (k : jj_P l G Y d F (pc + 3) L (v :: st) h) : jj_P l G Y d F pc L st h :=
  jj_still (fun _ _ _ _ _ _ _ _ _ _ _ _ _ _ _ hx hw _ hS _ _ kk => va_gets hx.1 hx.2.1 (hw.2.2.2.2.1.2.2.1.1 _ hq) hS hx.2.2.2.1 (hx.2.2.2.2.1 _ hl) (fun _ q => q) hd kk) k
theorem jj_getSIO {index : Nat} (hl : Cond.fieldLink Y.1.cls index "jdk/internal/util/Preconditions" "SIOOBE_FORMATTER" "Ljava/util/function/BiFunction;" ∈ jj_T) (hd : decode Y.2.1 pc = .ok (.getstatic index, 3)) (k : jj_P l G Y d F (pc + 3) L (jj_sv G :: st) h) : jj_P l G Y d F pc L st h :=
  jj_still (fun _ _ _ _ _ _ _ _ _ _ _ _ _ _ _ hx hw _ hS _ _ kk => va_gets hx.1 hx.2.1 hw.2.2.2.2.1.2.2.1.2 hS hx.2.2.2.1 (hx.2.2.2.2.1 _ hl) (fun _ q => q) hd kk) k
theorem jj_strlen {i : Nat} (hi : i < jj_nS) (hd : decode Y.2.1 pc = .ok (.arraylength, 1)) (k : jj_P l G Y d F (pc + 1) L (.int (nI (jj_lS.getD i 0)) :: st) h) : jj_P l G Y d F pc L (.ref (G.2.2.2.2.1 i) :: st) h :=
  jj_still (fun _ _ _ _ _ _ _ _ _ _ _ _ _ _ _ hx hw _ hS _ _ kk => va_tlen hx.1 hx.2.1 (hw.2.2.2.2.1.1.1 i hi).2.2.2 hS rfl hd kk) k
theorem jj_strbyte {i : Nat} {j : Int32} (hi : i < jj_nS) (hj : vp_in j (jj_lS.getD i 0)) (hd : decode Y.2.1 pc = .ok (.baload, 1)) (k : jj_P l G Y d F (pc + 1) L (.int ((jj_bS.getD i []).getD j.toNatClampNeg 0) :: st) h) : jj_P l G Y d F pc L (.int j :: .ref (G.2.2.2.2.1 i) :: st) h :=
  jj_still (fun _ _ _ _ _ _ _ _ _ _ _ _ _ _ _ hx hw _ hS _ _ kk => va_tb hx.1 hx.2.1 (hw.2.2.2.2.1.1.1 i hi).2.2.2 hS hj rfl hd kk) k
theorem jj_scrlen (hd : decode Y.2.1 pc = .ok (.arraylength, 1)) (k : jj_P l G Y d F (pc + 1) L (.int (nI G.2.2.2.2.2.2.1) :: st) h) : jj_P l G Y d F pc L (.ref G.2.2.2.2.2.1 :: st) h :=
  jj_still (fun _ _ _ s _ _ _ _ _ _ _ _ _ _ _ hx hw _ hS _ _ kk => va_slen (H0 := s.heap) hx.1 hx.2.1 hw.2.2.2.2.1.2.2.2.1 (Nat.lt_of_lt_of_le hw.2.2.2.2.1.2.2.2.2 hw.2.1) (Nat.not_le.mpr hw.2.2.2.2.1.2.2.2.2) hS hd kk) k
theorem jj_scrload {i : Int32} (hi : vp_in i G.2.2.2.2.2.2.1) (hd : decode Y.2.1 pc = .ok (.iaload, 1)) (k : jj_P l G Y d F (pc + 1) L (.int (G.2.2.2.2.2.2.2 i.toNatClampNeg) :: st) h) : jj_P l G Y d F pc L (.int i :: .ref G.2.2.2.2.2.1 :: st) h :=
  jj_still (fun _ _ _ s _ _ _ _ _ _ _ _ _ _ _ hx hw _ hS _ _ kk => va_sld (H0 := s.heap) hx.1 hx.2.1 hw.2.2.2.2.1.2.2.2.1 (Nat.lt_of_lt_of_le hw.2.2.2.2.1.2.2.2.2 hw.2.1) (Nat.not_le.mpr hw.2.2.2.2.1.2.2.2.2) hS hi hd kk) k
theorem jj_objInit {idx a : Nat} (hl : Cond.methodLink Y.1.cls idx Lib.objectInit ∈ jj_T) (hi : Cond.instanceMethod Lib.objectInit ∈ jj_T) (hc : Cond.code Lib.objectInit ⟨#[0xb1]⟩ 1 none ∈ jj_T) (hd : decode Y.2.1 pc = .ok (.invokespecial idx, 3)) (hdd : 1 ≤ d) (hsum : (st.map fun v => v.category).sum ≤ 20) (k : jj_P l G Y d F (pc + 3) L st h) : jj_P l G Y d F pc L (.ref a :: st) h :=
  jj_still (fun _ _ R _ m _ _ _ _ _ _ _ _ _ ls hx hw hr hS _ hL kk => by
    have hts := hx.2.2.2.2.1
    exact W.objInit hx.1 hx.2.1 hx.2.2.2.1 (hts _ hl) (hts _ hi) (hts _ hc) (g := F0 m pc ls (.ref a :: st)) rfl (hL.1.trans hx.2.2.1.symm) rfl hd (by omega) (by show 2 * 0 + _ + 12 ≤ R.locals; omega) kk) k
theorem jj_lookup {dflt : Int} {ps : Array (Int × Int)} {len : Nat} {x : Int32} {off : Int} {tgt : Nat} (hd : decode Y.2.1 pc = .ok (.lookupswitch dflt ps, len)) (hp : (ps.toList.zip (ps.toList.drop 1)).all (fun (a, next) => a.1 < next.1) = true) (ho : Op.lookupswitch.offset ps.toList dflt x.toInt = off) (ht : (pc : Int) + off = (tgt : Int)) (k : jj_P l G Y d F tgt L st h) : jj_P l G Y d F pc L (.int x :: st) h :=
  jj_still (fun _ _ _ _ _ _ _ _ _ _ _ _ _ _ _ hx _ _ _ _ _ kk => lv_lookup hx.1 hx.2.1 hd hp ho ht kk) k
theorem jj_tableOut {dflt lo hi : Int} {offs : Array Int} {len : Nat} {x : Int32} {tgt : Nat} (hd : decode Y.2.1 pc = .ok (.tableswitch dflt lo hi offs, len)) (hx0 : x.toInt < lo ∨ hi < x.toInt) (ht : (pc : Int) + dflt = (tgt : Int)) (k : jj_P l G Y d F tgt L st h) : jj_P l G Y d F pc L (.int x :: st) h :=
  jj_still (fun _ _ _ _ _ _ _ _ _ _ _ _ _ _ _ hx _ _ _ _ _ kk => lv_tableOut hx.1 hx.2.1 hd hx0 ht kk) k
theorem jj_tableIn {dflt lo hi : Int} {offs : Array Int} {len : Nat} {x : Int32} {off : Int} {tgt : Nat} (hd : decode Y.2.1 pc = .ok (.tableswitch dflt lo hi offs, len)) (h1 : ¬ x.toInt < lo) (h2 : ¬ hi < x.toInt) (ho : offs[(x.toInt - lo).toNat]? = some off) (ht : (pc : Int) + off = (tgt : Int)) (k : jj_P l G Y d F tgt L st h) : jj_P l G Y d F pc L (.int x :: st) h :=
  jj_still (fun _ _ _ _ _ _ _ _ _ _ _ _ _ _ _ hx _ _ _ _ _ kk => lv_tableIn hx.1 hx.2.1 hd h1 h2 ho ht kk) k
theorem jj_baload {a t0 n : Nat} {cA : ClassId} {f : Nat → Int32} {i : Int32} (ht : G.2.2.1[t0]? = some (cA, .byte)) (hd : decode Y.2.1 pc = .ok (.baload, 1)) (ha : h.1 a = some (.inl (cA, n, .inl f))) (hi : vp_in i n) (k : jj_P l G Y d F (pc + 1) L (.int (f i.toNatClampNeg) :: st) h) : jj_P l G Y d F pc L (.int i :: .ref a :: st) h :=
  jj_still (fun _ _ _ _ _ _ _ _ _ _ _ _ _ _ _ hx hw _ _ hH _ kk => va_bald hx.1 hx.2.1 hw.1 (hH.one ha) 0 t0 rfl ht hi hd kk) k
theorem jj_bastore {a t0 n : Nat} {cA : ClassId} {f : Nat → Int32} {i x : Int32} (ht : G.2.2.1[t0]? = some (cA, .byte)) (hd : decode Y.2.1 pc = .ok (.bastore, 1)) (ha : h.1 a = some (.inl (cA, n, .inl f))) (hi : vp_in i n)
    (kk : jj_P l G Y d F (pc + 1) L st (jj_up h.1 a (.inl (cA, n, .inl (upd f i.toNatClampNeg (vp_nar .byte x)))), h.2)) : jj_P l G Y d F pc L (.int x :: .int i :: .ref a :: st) h := by
  obtain ⟨o, h', hF, hm, hE⟩ := kk
  refine ⟨o, h', hF, hm, fun p e R s m args below meth c H locs cells slots Q ls hx hw hr hS hH hL hK => ?_⟩
  have hc : H[a]? = some (vp_cell cA (n, .inl f)) := (hH.2.2 a _ ha).2
  refine W.bast hx.1 hx.2.1 hc ((hw.1.2 t0 _ ht).1 n (fun j => .int (f j))) (fun q => by cases q) (by show ¬ (i < 0 ∨ (arrV _ _ _).slots.size ≤ _); rw [arrV_size]; exact hi) rfl rfl hd fun H1 e1 z oq => ?_
  refine hE p e R s m args below meth c H1 _ cells slots Q ls hx hw hr (hS.put z oq (hH.2.2 a _ ha).1) (hH.put ha ?_ z oq) hL hK
  show H1[a]? = some (vp_cell _ _)
  rw [e1, vp_cell_i, vp_cell_i, arrV_store]
  congr 2
  funext q
  by_cases hq : q = i.toNatClampNeg
  · subst hq
    simp [updV, upd, vp_nar, narrow]
  · simp [updV, upd, hq]
theorem jj_lastore {a t0 n : Nat} {cA : ClassId} {f : Nat → Int64} {i : Int32} {x : Int64} (ht : G.2.2.1[t0]? = some (cA, .long)) (hd : decode Y.2.1 pc = .ok (.lastore, 1)) (ha : h.1 a = some (.inl (cA, n, .inr (.inl f)))) (hi : vp_in i n)
    (kk : jj_P l G Y d F (pc + 1) L st (jj_up h.1 a (.inl (cA, n, .inr (.inl (vp_updL f i.toNatClampNeg x)))), h.2)) : jj_P l G Y d F pc L (.long x :: .int i :: .ref a :: st) h := by
  obtain ⟨o, h', hF, hm, hE⟩ := kk
  refine ⟨o, h', hF, hm, fun p e R s m args below meth c H locs cells slots Q ls hx hw hr hS hH hL hK => ?_⟩
  have hc : H[a]? = some (vp_cell cA (n, .inr (.inl f))) := (hH.2.2 a _ ha).2
  refine W.last hx.1 hx.2.1 hc ((hw.1.2 t0 _ ht).1 n (fun j => .long (f j))) (fun q => by cases q) (by show ¬ (i < 0 ∨ (arrV _ _ _).slots.size ≤ _); rw [arrV_size]; exact hi) rfl rfl hd fun H1 e1 z oq => ?_
  refine hE p e R s m args below meth c H1 _ cells slots Q ls hx hw hr (hS.put z oq (hH.2.2 a _ ha).1) (hH.put ha ?_ z oq) hL hK
  show H1[a]? = some (vp_cell _ _)
  rw [e1, vp_cell_l, vp_cell_l, arrV_store]
  congr 2
  funext q
  by_cases hq : q = i.toNatClampNeg
  · subst hq
    simp [updV, vp_updL]
  · simp [updV, vp_updL, hq]
/-- a call of any kind by its contract: what returned goes on, what was thrown is this method's own outcome -/
theorem jj_call {Y' : jj_Y} {d' : Nat} {as rest : List Value} {P : jj_O → jj_H → Prop} (hQ : jj_Q l G Y' d' as h P) (hR : ∀ o1 h1, jj_C l G Y' d' as h o1 h1 → jj_R l G Y d as h o1 h1 pc st rest) (hcov : (tableOf Y.2.2.2.2).all (fun x => !covers x pc) = true)
    (kr : ∀ (v : Option Value) (h1 : jj_H), P (.inl v) h1 → jj_P l G Y d F (pc + 3) L (v.toList ++ rest) h1) (kx : ∀ (E : String) (h1 : jj_H), P (.inr E) h1 → F (.inr E) h1) : jj_P l G Y d F pc L st h := by
  obtain ⟨o1, h1, hP, hC⟩ := hQ
  cases o1 with
  | inl v => exact (hR _ _ hC).ret hC.1 (kr v h1 hP)
  | inr E => exact (hR _ _ hC).thr hC.1 hcov (kx E h1 hP)
/-- .. of a callee that only returns -/
theorem jj_callr {Y' : jj_Y} {d' : Nat} {as rest : List Value} {P : jj_O → jj_H → Prop} (hQ : jj_Q l G Y' d' as h P) (hR : ∀ o1 h1, jj_C l G Y' d' as h o1 h1 → jj_R l G Y d as h o1 h1 pc st rest) (hx : ∀ (E : String) (h1 : jj_H), ¬ P (.inr E) h1)
    (kr : ∀ (v : Option Value) (h1 : jj_H), P (.inl v) h1 → jj_P l G Y d F (pc + 3) L (v.toList ++ rest) h1) : jj_P l G Y d F pc L st h := by
  obtain ⟨o1, h1, hP, hC⟩ := hQ
  cases o1 with
  | inl v => exact (hR _ _ hC).ret hC.1 (kr v h1 hP)
  | inr E => exact absurd hP (hx E h1)
end JJM
end
section
/-! System.arraycopy of ints between two arrays -/
section JJB
variable {p : Program} {l : Launch} {e : Env} {R : Room} {s : State} {m : MethodId} {args : Array Value} {below : List Frame} {meth : Method} {c : Code} {T : State} {locs : List Loc} {cells slots : Nat}
theorem jj_unbase (X : Stand p l e R s m args below meth c T locs cells slots) {R' : Room} (Y0 : Stand p l e R' (jj_anew s T m args below) m args below meth c T [] 0 0) {S : State} {K : List Loc} {k n : Nat} (Z : Stand p l e R' (jj_anew s T m args below) m args below meth c S K k n) : Stand p l e R s m args below meth c S (locs ++ K) (cells + k) (slots + n) := by
  have hW0 : s.WarmedH (jj_anew s T m args below).vm := State.WarmedH.refl s
  have hsame : s.sameButNew (S.setVm s.vm) (locs ++ K) (cells + k) (slots + n) := by
    obtain ⟨e1, e2⟩ := Z.same
    unfold jj_anew at e1
    rw [State.setFrames_setFrames] at e1
    have h2 : (T.setVm s.vm).sameButNew (S.setVm s.vm) K k n := ⟨e1, e2⟩
    exact X.same.trans h2
  exact { admits := X.admits, cas := X.cas, clock := X.clock, frames := X.frames, room := X.room, hears := X.hears, method := X.method, code := X.code, here := Z.here, tail := Z.tail, warmed := State.WarmedH.trans hW0 Z.warmed, limits := Z.limits.trans (Y0.limits.symm.trans X.limits), bytes := Z.bytes.trans (Y0.bytes.symm.trans X.bytes), same := hsame }
end JJB
section JJD
variable {l : Launch} {G : jj_G} {Y : jj_Y} {d : Nat} {F : jj_O → jj_H → Prop} {pc : Nat} {L : List (Option Value)} {st : List Value} {h : jj_H}
theorem jj_arraycopy {index a0 a n0 n1 t0 : Nat} {cA : ClassId} {f g : Nat → Int32} {sp dp n : Int32} (ht : G.2.2.1[t0]? = some (cA, .int)) (hl : Cond.methodLink Y.1.cls index arraycopyName ∈ jj_T) (hnat : Cond.native arraycopyName ∈ jj_T) (hstat : Cond.static arraycopyName ∈ jj_T) (hini : Cond.initialized "java/lang/System" ∈ jj_T) (hd : decode Y.2.1 pc = .ok (.invokestatic index, 3))
    (ha0 : h.1 a0 = some (.inl (cA, n0, .inl f))) (ha1 : h.1 a = some (.inl (cA, n1, .inl g))) (hne : a0 ≠ a) (h1 : ¬ sp < 0) (h2 : ¬ dp < 0) (h3 : ¬ n < 0) (h4 : sp.toNatClampNeg + n.toNatClampNeg ≤ n0) (h5 : dp.toNatClampNeg + n.toNatClampNeg ≤ n1) (hdd : 2 ≤ d) (hsum : (st.map fun v => v.category).sum + (nativeFrameWords "java/lang/System" "arraycopy" 5 + 11) ≤ 80)
    (k : jj_P l G Y d F (pc + 3) L st (jj_up h.1 a (.inl (cA, n1, .inl (va_cpy f g sp.toNatClampNeg dp.toNatClampNeg n.toNatClampNeg))), h.2)) : jj_P l G Y d F pc L (.int n :: .int dp :: .ref a :: .int sp :: .ref a0 :: st) h := by
  obtain ⟨o, h', hF, hm, hE⟩ := k
  refine ⟨o, h', hF, hm, fun p e R s m args below meth c H locs cells slots Q ls hx hw hr hS hH hL hK => ?_⟩
  intro T hT X
  have hts := hx.2.2.2.2.1
  have hcr : cells ≤ R.cells ∧ slots ≤ R.slots := by
    obtain ⟨-, q2, q3⟩ := hr
    exact ⟨by omega, by omega⟩
  have Y0 := jj_rebase X (R' := { frames := R.frames, locals := R.locals, cells := 0, slots := 0 }) (Nat.le_refl _) (Nat.le_refl _) hcr.1 hcr.2
  have hW0 : s.WarmedH (jj_anew s T m args below).vm := State.WarmedH.refl s
  have hg1 : ∀ w ∈ jj_T, w.before args (jj_anew s T m args below) = true := fun w hw9 => jj_at hts hW0 hw9
  have hP : va_P G.2.1 vwCl [(a0, .inl (cA, n0, .inl f)), (a, .inl (cA, n1, .inl g))] H := by
    intro k q hq
    match k, hq with
    | 0, hq => cases hq; exact (hH.2.2 a0 _ ha0).2
    | 1, hq => cases hq; exact (hH.2.2 a _ ha1).2
    | k + 2, hq => simp at hq
  have hD : va_D (fun q => q = a ∨ q = a0) [(a0, (.inl (cA, n0, .inl f) : va_E)), (a, .inl (cA, n1, .inl g))] := by
    refine ⟨fun i j p q hi hj hpq => ?_, fun k q hq => ?_⟩
    · match i, j, hi, hj with
      | 0, 0, _, _ => rfl
      | 1, 1, _, _ => rfl
      | 0, 1, hi, hj => cases hi; cases hj; exact absurd hpq hne
      | 1, 0, hi, hj => cases hi; cases hj; exact absurd hpq.symm hne
      | i + 2, _, hi, _ => simp at hi
      | _, j + 2, _, hj => simp at hj
    · match k, hq with
      | 0, hq => cases hq; exact Or.inr rfl
      | 1, hq => cases hq; exact Or.inl rfl
      | k + 2, hq => simp at hq
  have hKs : va_K G.2.1 vwCl G.2.2.1 (jj_anew s T m args below) := va_K.moved hW0.alike hw.1
  have key : W p l e { frames := R.frames, locals := R.locals, cells := 0, slots := 0 } (jj_anew s T m args below) m args below meth c H [] 0 0 Q (F0 m pc ls (.int n :: .int dp :: .ref a :: .int sp :: .ref a0 :: st)) := by
    refine va_copyi (D := G.2.1) (cl := vwCl) (A := fun q => q = a ∨ q = a0) (H0 := H) hx.1 hx.2.1 (hx.2.2.1.trans hL.1.symm) (show (jj_anew s T m args below).vm.findClass Y.1.cls = some m.cls from hx.2.2.2.1) (hg1 _ hl) (hg1 _ hnat) (hg1 _ hstat) (hg1 _ hini) hKs hP hD va_S.rf 0 1 t0 t0 rfl rfl ht ht rfl h1 h2 h3 h4 h5 (fun _ _ => rfl) (by show 1 ≤ R.frames; have := hr.1.1; omega) (by show _ ≤ R.locals; have := hr.1.2; omega) hd (fun H1 locs1 hP1 hD1 hS1 => ?_)
    intro S hS9 Z
    have X2 := jj_unbase X Y0 Z
    have hz1 : H1.size = H.size := by
      have q1 := Z.heapSize
      have q2 : (jj_anew s T m args below).heap = T.heap := rfl
      rw [q2, hT, hS9] at q1
      have q3 := hS1.1
      omega
    have hA0 := (hH.2.2 a0 _ ha0).1
    have hA1 := (hH.2.2 a _ ha1).1
    have c0 : H1[a0]? = H[a0]? := by
      have g1 : H1[a0]? = some (vp_cell cA (n0, .inl f)) := hP1 0 _ rfl
      have g2 : H[a0]? = some (vp_cell cA (n0, .inl f)) := (hH.2.2 a0 _ ha0).2
      rw [g1, g2]
    have oth : ∀ q : Nat, q ≠ a → H1[q]? = H[q]? := by
      intro q hq
      by_cases hq0 : q = a0
      · rw [hq0]; exact c0
      · rcases Nat.lt_or_ge q H.size with hlt | hge
        · exact hS1.2.1 q hlt (fun z => z.elim hq hq0)
        · rw [Array.getElem?_eq_none (by omega), Array.getElem?_eq_none (by omega)]
    have hSn : va_S (jj_A G) s.heap H1 (locs ++ locs1) := by
      refine ⟨by rw [hz1]; exact hS.1, fun q hq hA => ?_, fun z hz => ?_⟩
      · rw [oth q (fun hqa => hA (by rw [hqa]; exact hA1))]
        exact hS.2.1 q hq hA
      · rcases List.mem_append.mp hz with h9 | h9
        · exact hS.2.2 z h9
        · rcases hS1.2.2 z h9 with h8 | h8
          · rw [h8]; exact hA1
          · rw [h8]; exact hA0
    have hHn := hH.put (e' := .inl (cA, n1, .inl (va_cpy f g sp.toNatClampNeg dp.toNatClampNeg n.toNatClampNeg))) ha1 (hP1 1 _ rfl) hz1 oth
    obtain ⟨t, a1, b1⟩ := hE p e R s m args below meth c H1 (locs ++ locs1) cells slots Q ls hx hw hr hSn hHn hL hK S hS9 X2
    exact ⟨t, a1, b1⟩
  exact key T hT Y0
end JJD
theorem na_ok : nativeFrameWords "java/lang/System" "arraycopy" 5 + 11 ≤ 60 := by decide +kernel
end
section
abbrev y_ST_init : jj_Y := (⟨"SourceTree", "<init>", "()V"⟩, prog_1_method_1_code, 2, (Option.none : Option Jvm.ClassFile.FieldType), [])
abbrev y_JO_init : jj_Y := (⟨"java/lang/Object", "<init>", "()V"⟩, object_method_1_code, 1, (Option.none : Option Jvm.ClassFile.FieldType), [])
abbrev y_IR_init : jj_Y := (⟨"SourceTree$IntRow", "<init>", "(I)V"⟩, prog_4_method_1_code, 2, (Option.none : Option Jvm.ClassFile.FieldType), [])
abbrev y_SP_init : jj_Y := (⟨"SourceTree$Spellings", "<init>", "()V"⟩, prog_6_method_1_code, 2, (Option.none : Option Jvm.ClassFile.FieldType), [])
abbrev y_IR_add : jj_Y := (⟨"SourceTree$IntRow", "add", "(I)V"⟩, prog_4_method_4_code, 2, (Option.none : Option Jvm.ClassFile.FieldType), [])
abbrev y_JA_copyOf : jj_Y := (⟨"java/util/Arrays", "copyOf", "([II)[I"⟩, prog_23_method_123_code, 3, (Option.some (Jvm.ClassFile.FieldType.array Jvm.ClassFile.FieldType.int)), [])
abbrev y_JM_min : jj_Y := (⟨"java/lang/Math", "min", "(II)I"⟩, prog_16_method_69_code, 2, (Option.some Jvm.ClassFile.FieldType.int), [])
abbrev y_SP_reset : jj_Y := (⟨"SourceTree$Spellings", "reset", "()V"⟩, prog_6_method_2_code, 2, (Option.none : Option Jvm.ClassFile.FieldType), [])
abbrev y_IR_cutTo : jj_Y := (⟨"SourceTree$IntRow", "cutTo", "(I)V"⟩, prog_4_method_6_code, 2, (Option.none : Option Jvm.ClassFile.FieldType), [])
abbrev y_IR_put : jj_Y := (⟨"SourceTree$IntRow", "put", "(II)V"⟩, prog_4_method_5_code, 3, (Option.none : Option Jvm.ClassFile.FieldType), [])
abbrev y_SP_addAll : jj_Y := (⟨"SourceTree$Spellings", "addAll", "(Ljava/lang/String;)V"⟩, prog_6_method_8_code, 4, (Option.none : Option Jvm.ClassFile.FieldType), [])
abbrev y_JS_length : jj_Y := (⟨"java/lang/String", "length", "()I"⟩, prog_18_method_54_code, 1, (Option.some Jvm.ClassFile.FieldType.int), [])
abbrev y_JS_coder : jj_Y := (⟨"java/lang/String", "coder", "()B"⟩, prog_18_method_152_code, 1, (Option.some Jvm.ClassFile.FieldType.byte), [])
abbrev y_JS_charAt : jj_Y := (⟨"java/lang/String", "charAt", "(I)C"⟩, prog_18_method_56_code, 2, (Option.some Jvm.ClassFile.FieldType.char), [])
abbrev y_JS_isLatin1 : jj_Y := (⟨"java/lang/String", "isLatin1", "()Z"⟩, prog_18_method_154_code, 1, (Option.some Jvm.ClassFile.FieldType.boolean), [])
abbrev y_JL_charAt : jj_Y := (⟨"java/lang/StringLatin1", "charAt", "([BI)C"⟩, prog_19_method_2_code, 2, (Option.some Jvm.ClassFile.FieldType.char), [])
abbrev y_JS_checkIndex : jj_Y := (⟨"java/lang/String", "checkIndex", "(II)V"⟩, prog_18_method_155_code, 2, (Option.none : Option Jvm.ClassFile.FieldType), [])
abbrev y_JP_checkIndex : jj_Y := (⟨"jdk/internal/util/Preconditions", "checkIndex", "(IILjava/util/function/BiFunction;)I"⟩, prog_24_method_11_code, 3, (Option.some Jvm.ClassFile.FieldType.int), [])
abbrev y_JU_charAt : jj_Y := (⟨"java/lang/StringUTF16", "charAt", "([BI)C"⟩, prog_20_method_83_code, 2, (Option.some Jvm.ClassFile.FieldType.char), [])
abbrev y_JU_checkIndex : jj_Y := (⟨"java/lang/StringUTF16", "checkIndex", "(I[B)V"⟩, prog_20_method_91_code, 2, (Option.none : Option Jvm.ClassFile.FieldType), [])
abbrev y_JU_length : jj_Y := (⟨"java/lang/StringUTF16", "length", "([B)I"⟩, prog_20_method_6_code, 1, (Option.some Jvm.ClassFile.FieldType.int), [])
abbrev y_JU_getChar : jj_Y := (⟨"java/lang/StringUTF16", "getChar", "([BI)C"⟩, prog_20_method_5_code, 2, (Option.some Jvm.ClassFile.FieldType.char), [])
abbrev y_SP_settle : jj_Y := (⟨"SourceTree$Spellings", "settle", "()I"⟩, prog_6_method_6_code, 5, (Option.some Jvm.ClassFile.FieldType.int), [])
abbrev y_SP_size : jj_Y := (⟨"SourceTree$Spellings", "size", "()I"⟩, prog_6_method_3_code, 1, (Option.some Jvm.ClassFile.FieldType.int), [])
abbrev y_IR_size : jj_Y := (⟨"SourceTree$IntRow", "size", "()I"⟩, prog_4_method_2_code, 1, (Option.some Jvm.ClassFile.FieldType.int), [])
abbrev y_IR_at : jj_Y := (⟨"SourceTree$IntRow", "at", "(I)I"⟩, prog_4_method_3_code, 2, (Option.some Jvm.ClassFile.FieldType.int), [])
abbrev y_SP_isLast : jj_Y := (⟨"SourceTree$Spellings", "isLast", "(II)Z"⟩, prog_6_method_7_code, 6, (Option.some Jvm.ClassFile.FieldType.boolean), [])
abbrev y_SP_addLetter : jj_Y := (⟨"SourceTree$Spellings", "addLetter", "(I)V"⟩, prog_6_method_5_code, 2, (Option.none : Option Jvm.ClassFile.FieldType), [])
abbrev y_TB_init : jj_Y := (⟨"SourceTree$Table", "<init>", "()V"⟩, prog_7_method_1_code, 1, (Option.none : Option Jvm.ClassFile.FieldType), [])
abbrev y_SC_init : jj_Y := (⟨"SourceTree$Scanner", "<init>", "(LSourceTree$IntRow;LSourceTree$Spellings;LSourceTree$Table;)V"⟩, prog_5_method_1_code, 4, (Option.none : Option Jvm.ClassFile.FieldType), [])
abbrev y_GR_init : jj_Y := (⟨"SourceTree$Grammar", "<init>", "(LSourceTree$IntRow;LSourceTree$Table;LSourceTree$Table;)V"⟩, prog_3_method_1_code, 4, (Option.none : Option Jvm.ClassFile.FieldType), [])
abbrev y_CU_init : jj_Y := (⟨"SourceTree$Cursor", "<init>", "(LSourceTree$Table;LSourceTree$Table;)V"⟩, prog_2_method_1_code, 3, (Option.none : Option Jvm.ClassFile.FieldType), [])
abbrev y_ST_length : jj_Y := (⟨"SourceTree", "length", "()I"⟩, prog_1_method_4_code, 1, (Option.some Jvm.ClassFile.FieldType.int), [])
abbrev y_ST_read : jj_Y := (⟨"SourceTree", "read", "()I"⟩, prog_1_method_5_code, 2, (Option.some Jvm.ClassFile.FieldType.int), [((14 : Nat), (24 : Nat), (27 : Nat), (58 : Nat))])
abbrev y_TB_clear : jj_Y := (⟨"SourceTree$Table", "clear", "()V"⟩, prog_7_method_5_code, 1, (Option.none : Option Jvm.ClassFile.FieldType), [])
abbrev y_SC_scan : jj_Y := (⟨"SourceTree$Scanner", "scan", "()V"⟩, prog_5_method_2_code, 3, (Option.none : Option Jvm.ClassFile.FieldType), [])
abbrev y_SC_behindBlanks : jj_Y := (⟨"SourceTree$Scanner", "behindBlanks", "(I)I"⟩, prog_5_method_3_code, 5, (Option.some Jvm.ClassFile.FieldType.int), [])
abbrev y_SC_scanToken : jj_Y := (⟨"SourceTree$Scanner", "scanToken", "(I)I"⟩, prog_5_method_4_code, 4, (Option.some Jvm.ClassFile.FieldType.int), [])
abbrev y_TB_add : jj_Y := (⟨"SourceTree$Table", "add", "(III)V"⟩, prog_7_method_4_code, 5, (Option.none : Option Jvm.ClassFile.FieldType), [])
abbrev y_ST_isLetter : jj_Y := (⟨"SourceTree", "isLetter", "(I)Z"⟩, prog_1_method_12_code, 1, (Option.some Jvm.ClassFile.FieldType.boolean), [])
abbrev y_SC_scanName : jj_Y := (⟨"SourceTree$Scanner", "scanName", "(I)I"⟩, prog_5_method_5_code, 4, (Option.some Jvm.ClassFile.FieldType.int), [])
abbrev y_SC_goesOnName : jj_Y := (⟨"SourceTree$Scanner", "goesOnName", "(I)Z"⟩, prog_5_method_6_code, 3, (Option.some Jvm.ClassFile.FieldType.boolean), [])
abbrev y_ST_isDigit : jj_Y := (⟨"SourceTree", "isDigit", "(I)Z"⟩, prog_1_method_13_code, 1, (Option.some Jvm.ClassFile.FieldType.boolean), [])
abbrev y_ST_small : jj_Y := (⟨"SourceTree", "small", "(I)I"⟩, prog_1_method_14_code, 1, (Option.some Jvm.ClassFile.FieldType.int), [])
abbrev y_SC_endWith : jj_Y := (⟨"SourceTree$Scanner", "endWith", "(II)I"⟩, prog_5_method_11_code, 3, (Option.some Jvm.ClassFile.FieldType.int), [])
abbrev y_SC_scanNumber : jj_Y := (⟨"SourceTree$Scanner", "scanNumber", "(I)I"⟩, prog_5_method_7_code, 5, (Option.some Jvm.ClassFile.FieldType.int), [])
abbrev y_JM_min2 : jj_Y := (⟨"java/lang/Math", "min", "(JJ)J"⟩, prog_16_method_70_code, 4, (Option.some Jvm.ClassFile.FieldType.long), [])
abbrev y_SC_scanRow : jj_Y := (⟨"SourceTree$Scanner", "scanRow", "(I)I"⟩, prog_5_method_8_code, 3, (Option.some Jvm.ClassFile.FieldType.int), [])
abbrev y_ST_signOf : jj_Y := (⟨"SourceTree", "signOf", "(I)I"⟩, prog_1_method_15_code, 1, (Option.some Jvm.ClassFile.FieldType.int), [])
abbrev y_JS_indexOf : jj_Y := (⟨"java/lang/String", "indexOf", "(I)I"⟩, prog_18_method_79_code, 2, (Option.some Jvm.ClassFile.FieldType.int), [])
abbrev y_JS_indexOf2 : jj_Y := (⟨"java/lang/String", "indexOf", "(II)I"⟩, prog_18_method_80_code, 3, (Option.some Jvm.ClassFile.FieldType.int), [])
abbrev y_JL_indexOf : jj_Y := (⟨"java/lang/StringLatin1", "indexOf", "([BIII)I"⟩, prog_19_method_22_code, 4, (Option.some Jvm.ClassFile.FieldType.int), [])
abbrev y_JL_canEncode : jj_Y := (⟨"java/lang/StringLatin1", "canEncode", "(I)Z"⟩, prog_19_method_4_code, 1, (Option.some Jvm.ClassFile.FieldType.boolean), [])
abbrev y_JM_max : jj_Y := (⟨"java/lang/Math", "max", "(II)I"⟩, prog_16_method_65_code, 2, (Option.some Jvm.ClassFile.FieldType.int), [])
abbrev y_JL_indexOfChar : jj_Y := (⟨"java/lang/StringLatin1", "indexOfChar", "([BIII)I"⟩, prog_19_method_23_code, 6, (Option.some Jvm.ClassFile.FieldType.int), [])
abbrev y_JU_indexOf : jj_Y := (⟨"java/lang/StringUTF16", "indexOf", "([BIII)I"⟩, prog_20_method_40_code, 4, (Option.some Jvm.ClassFile.FieldType.int), [])
abbrev y_JU_indexOfChar : jj_Y := (⟨"java/lang/StringUTF16", "indexOfChar", "([BIII)I"⟩, prog_20_method_47_code, 4, (Option.some Jvm.ClassFile.FieldType.int), [])
abbrev y_JU_checkBoundsBeginEnd : jj_Y := (⟨"java/lang/StringUTF16", "checkBoundsBeginEnd", "(II[B)V"⟩, prog_20_method_93_code, 3, (Option.none : Option Jvm.ClassFile.FieldType), [])
abbrev y_JS_checkBoundsBeginEnd : jj_Y := (⟨"java/lang/String", "checkBoundsBeginEnd", "(III)V"⟩, prog_18_method_158_code, 3, (Option.none : Option Jvm.ClassFile.FieldType), [])
abbrev y_JP_checkFromToIndex : jj_Y := (⟨"jdk/internal/util/Preconditions", "checkFromToIndex", "(IIILjava/util/function/BiFunction;)I"⟩, prog_24_method_12_code, 4, (Option.some Jvm.ClassFile.FieldType.int), [])
abbrev y_JU_indexOfCharUnsafe : jj_Y := (⟨"java/lang/StringUTF16", "indexOfCharUnsafe", "([BIII)I"⟩, prog_20_method_48_code, 5, (Option.some Jvm.ClassFile.FieldType.int), [])
abbrev y_JU_indexOfSupplementary : jj_Y := (⟨"java/lang/StringUTF16", "indexOfSupplementary", "([BIII)I"⟩, prog_20_method_49_code, 7, (Option.some Jvm.ClassFile.FieldType.int), [])
abbrev y_JC_isValidCodePoint : jj_Y := (⟨"java/lang/Character", "isValidCodePoint", "(I)Z"⟩, prog_10_method_11_code, 2, (Option.some Jvm.ClassFile.FieldType.boolean), [])
abbrev y_JC_highSurrogate : jj_Y := (⟨"java/lang/Character", "highSurrogate", "(I)C"⟩, prog_10_method_28_code, 1, (Option.some Jvm.ClassFile.FieldType.char), [])
abbrev y_JC_lowSurrogate : jj_Y := (⟨"java/lang/Character", "lowSurrogate", "(I)C"⟩, prog_10_method_29_code, 1, (Option.some Jvm.ClassFile.FieldType.char), [])
abbrev y_SC_scanMark : jj_Y := (⟨"SourceTree$Scanner", "scanMark", "(I)I"⟩, prog_5_method_9_code, 4, (Option.some Jvm.ClassFile.FieldType.int), [])
abbrev y_SC_pairOf : jj_Y := (⟨"SourceTree$Scanner", "pairOf", "(II)I"⟩, prog_5_method_10_code, 2, (Option.some Jvm.ClassFile.FieldType.int), [])
abbrev y_GR_one : jj_Y := (⟨"SourceTree$Grammar", "one", "(I)I"⟩, prog_3_method_2_code, 2, (Option.some Jvm.ClassFile.FieldType.int), [])
abbrev y_GR_wholeFile : jj_Y := (⟨"SourceTree$Grammar", "wholeFile", "()V"⟩, prog_3_method_8_code, 3, (Option.none : Option Jvm.ClassFile.FieldType), [])
abbrev y_CU_begin : jj_Y := (⟨"SourceTree$Cursor", "begin", "()V"⟩, prog_2_method_2_code, 1, (Option.none : Option Jvm.ClassFile.FieldType), [])
abbrev y_CU_take : jj_Y := (⟨"SourceTree$Cursor", "take", "()V"⟩, prog_2_method_3_code, 1, (Option.none : Option Jvm.ClassFile.FieldType), [])
abbrev y_TB_at : jj_Y := (⟨"SourceTree$Table", "at", "(II)I"⟩, prog_7_method_3_code, 4, (Option.some Jvm.ClassFile.FieldType.int), [])
abbrev y_CU_raise : jj_Y := (⟨"SourceTree$Cursor", "raise", "(I)V"⟩, prog_2_method_13_code, 2, (Option.none : Option Jvm.ClassFile.FieldType), [])
abbrev y_JT_init : jj_Y := (⟨"java/lang/Throwable", "<init>", "()V"⟩, prog_22_method_1_code, 1, (Option.none : Option Jvm.ClassFile.FieldType), [])
abbrev y_JI_init : jj_Y := (⟨"java/lang/IllegalStateException", "<init>", "(Ljava/lang/String;)V"⟩, prog_14_method_2_code, 2, (Option.none : Option Jvm.ClassFile.FieldType), [])
abbrev y_JR_init : jj_Y := (⟨"java/lang/RuntimeException", "<init>", "(Ljava/lang/String;)V"⟩, prog_17_method_2_code, 2, (Option.none : Option Jvm.ClassFile.FieldType), [])
abbrev y_JE_init : jj_Y := (⟨"java/lang/Exception", "<init>", "(Ljava/lang/String;)V"⟩, prog_12_method_2_code, 2, (Option.none : Option Jvm.ClassFile.FieldType), [])
abbrev y_JT_init2 : jj_Y := (⟨"java/lang/Throwable", "<init>", "(Ljava/lang/String;)V"⟩, prog_22_method_2_code, 2, (Option.none : Option Jvm.ClassFile.FieldType), [])
abbrev y_GR_canBegin : jj_Y := (⟨"SourceTree$Grammar", "canBegin", "(I)Z"⟩, prog_3_method_3_code, 2, (Option.some Jvm.ClassFile.FieldType.boolean), [])
abbrev y_CU_tell : jj_Y := (⟨"SourceTree$Cursor", "tell", "(III)V"⟩, prog_2_method_9_code, 4, (Option.none : Option Jvm.ClassFile.FieldType), [])
abbrev y_TB_size : jj_Y := (⟨"SourceTree$Table", "size", "()I"⟩, prog_7_method_2_code, 1, (Option.some Jvm.ClassFile.FieldType.int), [])
abbrev y_GR_unitOrBody : jj_Y := (⟨"SourceTree$Grammar", "unitOrBody", "()V"⟩, prog_3_method_9_code, 1, (Option.none : Option Jvm.ClassFile.FieldType), [])
abbrev y_GR_body : jj_Y := (⟨"SourceTree$Grammar", "body", "()V"⟩, prog_3_method_19_code, 2, (Option.none : Option Jvm.ClassFile.FieldType), [])
abbrev y_CU_expect : jj_Y := (⟨"SourceTree$Cursor", "expect", "(I)V"⟩, prog_2_method_5_code, 2, (Option.none : Option Jvm.ClassFile.FieldType), [])
abbrev y_CU_takeName : jj_Y := (⟨"SourceTree$Cursor", "takeName", "()I"⟩, prog_2_method_6_code, 2, (Option.some Jvm.ClassFile.FieldType.int), [])
abbrev y_GR_listOfAny : jj_Y := (⟨"SourceTree$Grammar", "listOfAny", "(I)V"⟩, prog_3_method_4_code, 4, (Option.none : Option Jvm.ClassFile.FieldType), [])
abbrev y_CU_accept : jj_Y := (⟨"SourceTree$Cursor", "accept", "(I)Z"⟩, prog_2_method_4_code, 2, (Option.some Jvm.ClassFile.FieldType.boolean), [])
abbrev y_GR_nameBehindEnd : jj_Y := (⟨"SourceTree$Grammar", "nameBehindEnd", "(I)V"⟩, prog_3_method_20_code, 2, (Option.none : Option Jvm.ClassFile.FieldType), [])
abbrev y_GR_unit : jj_Y := (⟨"SourceTree$Grammar", "unit", "()V"⟩, prog_3_method_10_code, 2, (Option.none : Option Jvm.ClassFile.FieldType), [])
abbrev y_GR_interfaceList : jj_Y := (⟨"SourceTree$Grammar", "interfaceList", "(II)V"⟩, prog_3_method_11_code, 3, (Option.none : Option Jvm.ClassFile.FieldType), [])
abbrev y_GR_listOfSome : jj_Y := (⟨"SourceTree$Grammar", "listOfSome", "(II)V"⟩, prog_3_method_6_code, 3, (Option.none : Option Jvm.ClassFile.FieldType), [])
abbrev y_GR_oneOrMore : jj_Y := (⟨"SourceTree$Grammar", "oneOrMore", "(II)I"⟩, prog_3_method_5_code, 5, (Option.some Jvm.ClassFile.FieldType.int), [])
abbrev y_GR_emptyList : jj_Y := (⟨"SourceTree$Grammar", "emptyList", "()V"⟩, prog_3_method_7_code, 1, (Option.none : Option Jvm.ClassFile.FieldType), [])
abbrev y_GR_generic : jj_Y := (⟨"SourceTree$Grammar", "generic", "()I"⟩, prog_3_method_12_code, 2, (Option.some Jvm.ClassFile.FieldType.int), [])
abbrev y_GR_declaredNames : jj_Y := (⟨"SourceTree$Grammar", "declaredNames", "()V"⟩, prog_3_method_14_code, 2, (Option.none : Option Jvm.ClassFile.FieldType), [])
abbrev y_CU_told : jj_Y := (⟨"SourceTree$Cursor", "told", "()I"⟩, prog_2_method_11_code, 1, (Option.some Jvm.ClassFile.FieldType.int), [])
abbrev y_GR_type : jj_Y := (⟨"SourceTree$Grammar", "type", "()V"⟩, prog_3_method_17_code, 3, (Option.none : Option Jvm.ClassFile.FieldType), [])
abbrev y_GR_expression : jj_Y := (⟨"SourceTree$Grammar", "expression", "()V"⟩, prog_3_method_45_code, 6, (Option.none : Option Jvm.ClassFile.FieldType), [])
abbrev y_GR_signInFront : jj_Y := (⟨"SourceTree$Grammar", "signInFront", "()V"⟩, prog_3_method_48_code, 1, (Option.none : Option Jvm.ClassFile.FieldType), [])
abbrev y_GR_factor : jj_Y := (⟨"SourceTree$Grammar", "factor", "()V"⟩, prog_3_method_49_code, 1, (Option.none : Option Jvm.ClassFile.FieldType), [])
abbrev y_GR_primary : jj_Y := (⟨"SourceTree$Grammar", "primary", "()V"⟩, prog_3_method_46_code, 2, (Option.none : Option Jvm.ClassFile.FieldType), [])
abbrev y_CU_enter : jj_Y := (⟨"SourceTree$Cursor", "enter", "()V"⟩, prog_2_method_7_code, 1, (Option.none : Option Jvm.ClassFile.FieldType), [])
abbrev y_CU_leave : jj_Y := (⟨"SourceTree$Cursor", "leave", "()V"⟩, prog_2_method_8_code, 1, (Option.none : Option Jvm.ClassFile.FieldType), [])
abbrev y_GR_rowOfSigns : jj_Y := (⟨"SourceTree$Grammar", "rowOfSigns", "()V"⟩, prog_3_method_50_code, 4, (Option.none : Option Jvm.ClassFile.FieldType), [])
abbrev y_GR_behindName : jj_Y := (⟨"SourceTree$Grammar", "behindName", "(IZ)V"⟩, prog_3_method_47_code, 6, (Option.none : Option Jvm.ClassFile.FieldType), [])
abbrev y_GR_operatorThatJoins : jj_Y := (⟨"SourceTree$Grammar", "operatorThatJoins", "(I)I"⟩, prog_3_method_51_code, 6, (Option.some Jvm.ClassFile.FieldType.int), [])
abbrev y_GR_operatorOf : jj_Y := (⟨"SourceTree$Grammar", "operatorOf", "(I)I"⟩, prog_3_method_55_code, 1, (Option.some Jvm.ClassFile.FieldType.int), [])
abbrev y_GR_levelOf : jj_Y := (⟨"SourceTree$Grammar", "levelOf", "(I)I"⟩, prog_3_method_54_code, 1, (Option.some Jvm.ClassFile.FieldType.int), [])
abbrev y_GR_mayFollow : jj_Y := (⟨"SourceTree$Grammar", "mayFollow", "(III)Z"⟩, prog_3_method_52_code, 3, (Option.some Jvm.ClassFile.FieldType.boolean), [])
abbrev y_GR_tellPending : jj_Y := (⟨"SourceTree$Grammar", "tellPending", "(II)V"⟩, prog_3_method_53_code, 5, (Option.none : Option Jvm.ClassFile.FieldType), [])
abbrev y_GR_takeDirection : jj_Y := (⟨"SourceTree$Grammar", "takeDirection", "()Z"⟩, prog_3_method_18_code, 1, (Option.some Jvm.ClassFile.FieldType.boolean), [])
abbrev y_GR_expressionBehind : jj_Y := (⟨"SourceTree$Grammar", "expressionBehind", "(I)V"⟩, prog_3_method_16_code, 2, (Option.none : Option Jvm.ClassFile.FieldType), [])
abbrev y_CU_tellNothing : jj_Y := (⟨"SourceTree$Cursor", "tellNothing", "()V"⟩, prog_2_method_10_code, 1, (Option.none : Option Jvm.ClassFile.FieldType), [])
abbrev y_GR_tellDeclared : jj_Y := (⟨"SourceTree$Grammar", "tellDeclared", "(III)I"⟩, prog_3_method_15_code, 6, (Option.some Jvm.ClassFile.FieldType.int), [])
abbrev y_CU_tellAgain : jj_Y := (⟨"SourceTree$Cursor", "tellAgain", "(II)V"⟩, prog_2_method_12_code, 4, (Option.none : Option Jvm.ClassFile.FieldType), [])
abbrev y_GR_port : jj_Y := (⟨"SourceTree$Grammar", "port", "()I"⟩, prog_3_method_13_code, 3, (Option.some Jvm.ClassFile.FieldType.int), [])
abbrev y_GR_declaration : jj_Y := (⟨"SourceTree$Grammar", "declaration", "()I"⟩, prog_3_method_21_code, 1, (Option.some Jvm.ClassFile.FieldType.int), [])
abbrev y_GR_objects : jj_Y := (⟨"SourceTree$Grammar", "objects", "(I)I"⟩, prog_3_method_22_code, 3, (Option.some Jvm.ClassFile.FieldType.int), [])
abbrev y_GR_typeDeclaration : jj_Y := (⟨"SourceTree$Grammar", "typeDeclaration", "()V"⟩, prog_3_method_23_code, 3, (Option.none : Option Jvm.ClassFile.FieldType), [])
abbrev y_GR_subtypeDeclaration : jj_Y := (⟨"SourceTree$Grammar", "subtypeDeclaration", "()V"⟩, prog_3_method_24_code, 2, (Option.none : Option Jvm.ClassFile.FieldType), [])
abbrev y_GR_concurrent : jj_Y := (⟨"SourceTree$Grammar", "concurrent", "()V"⟩, prog_3_method_25_code, 2, (Option.none : Option Jvm.ClassFile.FieldType), [])
abbrev y_GR_process : jj_Y := (⟨"SourceTree$Grammar", "process", "(I)V"⟩, prog_3_method_35_code, 2, (Option.none : Option Jvm.ClassFile.FieldType), [])
abbrev y_GR_concurrentAssignment : jj_Y := (⟨"SourceTree$Grammar", "concurrentAssignment", "(I)V"⟩, prog_3_method_26_code, 5, (Option.none : Option Jvm.ClassFile.FieldType), [])
abbrev y_GR_mode : jj_Y := (⟨"SourceTree$Grammar", "mode", "()I"⟩, prog_3_method_27_code, 1, (Option.some Jvm.ClassFile.FieldType.int), [])
abbrev y_GR_instance : jj_Y := (⟨"SourceTree$Grammar", "instance", "(I)V"⟩, prog_3_method_31_code, 2, (Option.none : Option Jvm.ClassFile.FieldType), [])
abbrev y_GR_mapList : jj_Y := (⟨"SourceTree$Grammar", "mapList", "(I)V"⟩, prog_3_method_32_code, 2, (Option.none : Option Jvm.ClassFile.FieldType), [])
abbrev y_GR_generate : jj_Y := (⟨"SourceTree$Grammar", "generate", "(I)V"⟩, prog_3_method_34_code, 3, (Option.none : Option Jvm.ClassFile.FieldType), [])
abbrev y_GR_map : jj_Y := (⟨"SourceTree$Grammar", "map", "()V"⟩, prog_3_method_33_code, 2, (Option.none : Option Jvm.ClassFile.FieldType), [])
abbrev y_GR_statement : jj_Y := (⟨"SourceTree$Grammar", "statement", "()V"⟩, prog_3_method_36_code, 1, (Option.none : Option Jvm.ClassFile.FieldType), [])
abbrev y_GR_ifStatement : jj_Y := (⟨"SourceTree$Grammar", "ifStatement", "()V"⟩, prog_3_method_38_code, 3, (Option.none : Option Jvm.ClassFile.FieldType), [])
abbrev y_GR_caseStatement : jj_Y := (⟨"SourceTree$Grammar", "caseStatement", "()V"⟩, prog_3_method_39_code, 3, (Option.none : Option Jvm.ClassFile.FieldType), [])
abbrev y_GR_loopStatement : jj_Y := (⟨"SourceTree$Grammar", "loopStatement", "()V"⟩, prog_3_method_41_code, 4, (Option.none : Option Jvm.ClassFile.FieldType), [])
abbrev y_GR_leaveOrRepeat : jj_Y := (⟨"SourceTree$Grammar", "leaveOrRepeat", "(I)V"⟩, prog_3_method_42_code, 2, (Option.none : Option Jvm.ClassFile.FieldType), [])
abbrev y_GR_waitStatement : jj_Y := (⟨"SourceTree$Grammar", "waitStatement", "()V"⟩, prog_3_method_43_code, 1, (Option.none : Option Jvm.ClassFile.FieldType), [])
abbrev y_GR_timeBehind : jj_Y := (⟨"SourceTree$Grammar", "timeBehind", "(I)V"⟩, prog_3_method_29_code, 2, (Option.none : Option Jvm.ClassFile.FieldType), [])
abbrev y_GR_reportStatement : jj_Y := (⟨"SourceTree$Grammar", "reportStatement", "()V"⟩, prog_3_method_44_code, 2, (Option.none : Option Jvm.ClassFile.FieldType), [])
abbrev y_GR_assignment : jj_Y := (⟨"SourceTree$Grammar", "assignment", "()V"⟩, prog_3_method_37_code, 3, (Option.none : Option Jvm.ClassFile.FieldType), [])
abbrev y_GR_element : jj_Y := (⟨"SourceTree$Grammar", "element", "()V"⟩, prog_3_method_28_code, 1, (Option.none : Option Jvm.ClassFile.FieldType), [])
abbrev y_GR_time : jj_Y := (⟨"SourceTree$Grammar", "time", "()V"⟩, prog_3_method_30_code, 1, (Option.none : Option Jvm.ClassFile.FieldType), [])
abbrev y_GR_choice : jj_Y := (⟨"SourceTree$Grammar", "choice", "()V"⟩, prog_3_method_40_code, 1, (Option.none : Option Jvm.ClassFile.FieldType), [])
abbrev y_ST_place : jj_Y := (⟨"SourceTree", "place", "()I"⟩, prog_1_method_6_code, 1, (Option.some Jvm.ClassFile.FieldType.int), [])
abbrev y_ST_nodes : jj_Y := (⟨"SourceTree", "nodes", "()I"⟩, prog_1_method_7_code, 1, (Option.some Jvm.ClassFile.FieldType.int), [])
abbrev y_ST_names : jj_Y := (⟨"SourceTree", "names", "()I"⟩, prog_1_method_9_code, 1, (Option.some Jvm.ClassFile.FieldType.int), [])
abbrev y_LW_text : jj_Y := (⟨"SourceTreeLaw", "text", "(LSourceTree;IIII)I"⟩, method_3_code, 6, (Option.some Jvm.ClassFile.FieldType.int), [((0 : Nat), (9 : Nat), (12 : Nat), (13 : Nat))])
abbrev y_ST_text : jj_Y := (⟨"SourceTree", "text", "(IIII)V"⟩, prog_1_method_2_code, 5, (Option.none : Option Jvm.ClassFile.FieldType), [])
abbrev y_ST_addFour : jj_Y := (⟨"SourceTree", "addFour", "(I)V"⟩, prog_1_method_11_code, 3, (Option.none : Option Jvm.ClassFile.FieldType), [])
abbrev y_LW_cut : jj_Y := (⟨"SourceTreeLaw", "cut", "(LSourceTree;I)I"⟩, method_4_code, 3, (Option.some Jvm.ClassFile.FieldType.int), [((0 : Nat), (5 : Nat), (8 : Nat), (19 : Nat))])
abbrev y_ST_cut : jj_Y := (⟨"SourceTree", "cut", "(I)V"⟩, prog_1_method_3_code, 2, (Option.none : Option Jvm.ClassFile.FieldType), [])
abbrev y_JG_init : jj_Y := (⟨"java/lang/IllegalArgumentException", "<init>", "(Ljava/lang/String;)V"⟩, prog_13_method_2_code, 2, (Option.none : Option Jvm.ClassFile.FieldType), [])
abbrev y_LW_node : jj_Y := (⟨"SourceTreeLaw", "node", "(LSourceTree;II[J)I"⟩, method_5_code, 5, (Option.some Jvm.ClassFile.FieldType.int), [((0 : Nat), (10 : Nat), (13 : Nat), (25 : Nat)), ((0 : Nat), (10 : Nat), (17 : Nat), (19 : Nat))])
abbrev y_ST_node : jj_Y := (⟨"SourceTree", "node", "(II)I"⟩, prog_1_method_8_code, 3, (Option.some Jvm.ClassFile.FieldType.int), [])
abbrev y_JX_init : jj_Y := (⟨"java/lang/IndexOutOfBoundsException", "<init>", "(Ljava/lang/String;)V"⟩, prog_15_method_2_code, 2, (Option.none : Option Jvm.ClassFile.FieldType), [])
abbrev y_LW_name : jj_Y := (⟨"SourceTreeLaw", "name", "(LSourceTree;II[J)I"⟩, method_6_code, 5, (Option.some Jvm.ClassFile.FieldType.int), [((0 : Nat), (10 : Nat), (13 : Nat), (25 : Nat))])
abbrev y_ST_name : jj_Y := (⟨"SourceTree", "name", "(II)I"⟩, prog_1_method_10_code, 3, (Option.some Jvm.ClassFile.FieldType.int), [])
abbrev y_SP_letterOf : jj_Y := (⟨"SourceTree$Spellings", "letterOf", "(II)I"⟩, prog_6_method_4_code, 5, (Option.some Jvm.ClassFile.FieldType.int), [])
abbrev y_MO_init : jj_Y := (⟨"SourceTreeModel", "<init>", "()V"⟩, prog_9_method_1_code, 1, (Option.none : Option Jvm.ClassFile.FieldType), [])
abbrev y_MO_firstNames : jj_Y := (⟨"SourceTreeModel", "firstNames", "()V"⟩, prog_9_method_6_code, 3, (Option.none : Option Jvm.ClassFile.FieldType), [])
abbrev y_MO_text : jj_Y := (⟨"SourceTreeModel", "text", "(IIII)V"⟩, prog_9_method_3_code, 7, (Option.none : Option Jvm.ClassFile.FieldType), [])
abbrev y_MO_cut : jj_Y := (⟨"SourceTreeModel", "cut", "(I)V"⟩, prog_9_method_4_code, 2, (Option.none : Option Jvm.ClassFile.FieldType), [])
abbrev y_MO_length : jj_Y := (⟨"SourceTreeModel", "length", "()I"⟩, prog_9_method_5_code, 1, (Option.some Jvm.ClassFile.FieldType.int), [])
abbrev y_MO_read : jj_Y := (⟨"SourceTreeModel", "read", "()I"⟩, prog_9_method_37_code, 2, (Option.some Jvm.ClassFile.FieldType.int), [])
abbrev y_MO_cutUp : jj_Y := (⟨"SourceTreeModel", "cutUp", "()V"⟩, prog_9_method_18_code, 9, (Option.none : Option Jvm.ClassFile.FieldType), [])
abbrev y_MO_skip : jj_Y := (⟨"SourceTreeModel", "skip", "(I)I"⟩, prog_9_method_17_code, 5, (Option.some Jvm.ClassFile.FieldType.int), [])
abbrev y_MO_at : jj_Y := (⟨"SourceTreeModel", "at", "(I)I"⟩, prog_9_method_11_code, 2, (Option.some Jvm.ClassFile.FieldType.int), [])
abbrev y_MO_letter : jj_Y := (⟨"SourceTreeModel", "letter", "(I)Z"⟩, prog_9_method_12_code, 1, (Option.some Jvm.ClassFile.FieldType.boolean), [])
abbrev y_MO_digit : jj_Y := (⟨"SourceTreeModel", "digit", "(I)Z"⟩, prog_9_method_13_code, 1, (Option.some Jvm.ClassFile.FieldType.boolean), [])
abbrev y_MO_wordOf : jj_Y := (⟨"SourceTreeModel", "wordOf", "(II)I"⟩, prog_9_method_9_code, 6, (Option.some Jvm.ClassFile.FieldType.int), [])
abbrev y_MO_letterAt : jj_Y := (⟨"SourceTreeModel", "letterAt", "(I)I"⟩, prog_9_method_7_code, 3, (Option.some Jvm.ClassFile.FieldType.int), [])
abbrev y_MO_nameOf : jj_Y := (⟨"SourceTreeModel", "nameOf", "(II)I"⟩, prog_9_method_10_code, 6, (Option.some Jvm.ClassFile.FieldType.int), [])
abbrev y_MO_token : jj_Y := (⟨"SourceTreeModel", "token", "(III)V"⟩, prog_9_method_16_code, 4, (Option.none : Option Jvm.ClassFile.FieldType), [])
abbrev y_MO_nine : jj_Y := (⟨"SourceTreeModel", "nine", "(I)I"⟩, prog_9_method_15_code, 1, (Option.some Jvm.ClassFile.FieldType.int), [])
abbrev y_MO_placeIn : jj_Y := (⟨"SourceTreeModel", "placeIn", "(Ljava/lang/String;I)I"⟩, prog_9_method_14_code, 3, (Option.some Jvm.ClassFile.FieldType.int), [])
abbrev y_MO_stop : jj_Y := (⟨"SourceTreeModel", "stop", "(I)V"⟩, prog_9_method_20_code, 2, (Option.none : Option Jvm.ClassFile.FieldType), [])
abbrev y_MO_isWord : jj_Y := (⟨"SourceTreeModel", "isWord", "(Ljava/lang/String;)Z"⟩, prog_9_method_24_code, 2, (Option.some Jvm.ClassFile.FieldType.boolean), [])
abbrev y_MO_kind : jj_Y := (⟨"SourceTreeModel", "kind", "()I"⟩, prog_9_method_19_code, 1, (Option.some Jvm.ClassFile.FieldType.int), [])
abbrev y_MO_codeOf : jj_Y := (⟨"SourceTreeModel", "codeOf", "(Ljava/lang/String;)I"⟩, prog_9_method_8_code, 3, (Option.some Jvm.ClassFile.FieldType.int), [])
abbrev y_MO_unit : jj_Y := (⟨"SourceTreeModel", "unit", "()V"⟩, prog_9_method_38_code, 3, (Option.none : Option Jvm.ClassFile.FieldType), [])
abbrev y_MO_on : jj_Y := (⟨"SourceTreeModel", "on", "()V"⟩, prog_9_method_21_code, 1, (Option.none : Option Jvm.ClassFile.FieldType), [])
abbrev y_MO_aName : jj_Y := (⟨"SourceTreeModel", "aName", "()I"⟩, prog_9_method_31_code, 2, (Option.some Jvm.ClassFile.FieldType.int), [])
abbrev y_MO_word : jj_Y := (⟨"SourceTreeModel", "word", "(Ljava/lang/String;)V"⟩, prog_9_method_29_code, 2, (Option.none : Option Jvm.ClassFile.FieldType), [])
abbrev y_MO_takes : jj_Y := (⟨"SourceTreeModel", "takes", "(Ljava/lang/String;)Z"⟩, prog_9_method_25_code, 3, (Option.some Jvm.ClassFile.FieldType.boolean), [])
abbrev y_MO_must : jj_Y := (⟨"SourceTreeModel", "must", "(Z)V"⟩, prog_9_method_28_code, 2, (Option.none : Option Jvm.ClassFile.FieldType), [])
abbrev y_MO_lists : jj_Y := (⟨"SourceTreeModel", "lists", "(Ljava/lang/String;I)V"⟩, prog_9_method_39_code, 5, (Option.none : Option Jvm.ClassFile.FieldType), [])
abbrev y_MO_sign : jj_Y := (⟨"SourceTreeModel", "sign", "(I)V"⟩, prog_9_method_30_code, 2, (Option.none : Option Jvm.ClassFile.FieldType), [])
abbrev y_MO_takesMark : jj_Y := (⟨"SourceTreeModel", "takesMark", "(I)Z"⟩, prog_9_method_26_code, 3, (Option.some Jvm.ClassFile.FieldType.boolean), [])
abbrev y_MO_isMark : jj_Y := (⟨"SourceTreeModel", "isMark", "(I)Z"⟩, prog_9_method_22_code, 2, (Option.some Jvm.ClassFile.FieldType.boolean), [])
abbrev y_MO_several : jj_Y := (⟨"SourceTreeModel", "several", "(I)I"⟩, prog_9_method_41_code, 4, (Option.some Jvm.ClassFile.FieldType.int), [])
abbrev y_MO_groupNames : jj_Y := (⟨"SourceTreeModel", "groupNames", "()V"⟩, prog_9_method_40_code, 2, (Option.none : Option Jvm.ClassFile.FieldType), [])
abbrev y_MO_lay : jj_Y := (⟨"SourceTreeModel", "lay", "(III)V"⟩, prog_9_method_32_code, 4, (Option.none : Option Jvm.ClassFile.FieldType), [])
abbrev y_MO_type : jj_Y := (⟨"SourceTreeModel", "type", "()V"⟩, prog_9_method_43_code, 3, (Option.none : Option Jvm.ClassFile.FieldType), [])
abbrev y_MO_expression : jj_Y := (⟨"SourceTreeModel", "expression", "()V"⟩, prog_9_method_73_code, 5, (Option.none : Option Jvm.ClassFile.FieldType), [])
abbrev y_MO_relation : jj_Y := (⟨"SourceTreeModel", "relation", "()V"⟩, prog_9_method_74_code, 2, (Option.none : Option Jvm.ClassFile.FieldType), [])
abbrev y_MO_shift : jj_Y := (⟨"SourceTreeModel", "shift", "()V"⟩, prog_9_method_75_code, 2, (Option.none : Option Jvm.ClassFile.FieldType), [])
abbrev y_MO_sum : jj_Y := (⟨"SourceTreeModel", "sum", "()V"⟩, prog_9_method_76_code, 3, (Option.none : Option Jvm.ClassFile.FieldType), [])
abbrev y_MO_term : jj_Y := (⟨"SourceTreeModel", "term", "()V"⟩, prog_9_method_78_code, 2, (Option.none : Option Jvm.ClassFile.FieldType), [])
abbrev y_MO_factor : jj_Y := (⟨"SourceTreeModel", "factor", "()V"⟩, prog_9_method_80_code, 2, (Option.none : Option Jvm.ClassFile.FieldType), [])
abbrev y_MO_primary : jj_Y := (⟨"SourceTreeModel", "primary", "()V"⟩, prog_9_method_81_code, 4, (Option.none : Option Jvm.ClassFile.FieldType), [])
abbrev y_MO_opens : jj_Y := (⟨"SourceTreeModel", "opens", "()V"⟩, prog_9_method_34_code, 1, (Option.none : Option Jvm.ClassFile.FieldType), [])
abbrev y_MO_closes : jj_Y := (⟨"SourceTreeModel", "closes", "(I)V"⟩, prog_9_method_35_code, 2, (Option.none : Option Jvm.ClassFile.FieldType), [])
abbrev y_MO_behind : jj_Y := (⟨"SourceTreeModel", "behind", "(I)V"⟩, prog_9_method_82_code, 4, (Option.none : Option Jvm.ClassFile.FieldType), [])
abbrev y_MO_nameNode : jj_Y := (⟨"SourceTreeModel", "nameNode", "()V"⟩, prog_9_method_33_code, 2, (Option.none : Option Jvm.ClassFile.FieldType), [])
abbrev y_MO_termSign : jj_Y := (⟨"SourceTreeModel", "termSign", "()I"⟩, prog_9_method_79_code, 1, (Option.some Jvm.ClassFile.FieldType.int), [])
abbrev y_MO_sumSign : jj_Y := (⟨"SourceTreeModel", "sumSign", "()I"⟩, prog_9_method_77_code, 1, (Option.some Jvm.ClassFile.FieldType.int), [])
abbrev y_MO_isTwo : jj_Y := (⟨"SourceTreeModel", "isTwo", "(I)Z"⟩, prog_9_method_23_code, 2, (Option.some Jvm.ClassFile.FieldType.boolean), [])
abbrev y_MO_takesTwo : jj_Y := (⟨"SourceTreeModel", "takesTwo", "(I)Z"⟩, prog_9_method_27_code, 3, (Option.some Jvm.ClassFile.FieldType.boolean), [])
abbrev y_MO_again : jj_Y := (⟨"SourceTreeModel", "again", "(III)I"⟩, prog_9_method_42_code, 7, (Option.some Jvm.ClassFile.FieldType.int), [])
abbrev y_MO_ownName : jj_Y := (⟨"SourceTreeModel", "ownName", "(I)V"⟩, prog_9_method_36_code, 2, (Option.none : Option Jvm.ClassFile.FieldType), [])
abbrev y_MO_body : jj_Y := (⟨"SourceTreeModel", "body", "()V"⟩, prog_9_method_44_code, 3, (Option.none : Option Jvm.ClassFile.FieldType), [])
abbrev y_MO_declarations : jj_Y := (⟨"SourceTreeModel", "declarations", "(Z)V"⟩, prog_9_method_45_code, 4, (Option.none : Option Jvm.ClassFile.FieldType), [])
abbrev y_MO_objects : jj_Y := (⟨"SourceTreeModel", "objects", "(I)I"⟩, prog_9_method_46_code, 3, (Option.some Jvm.ClassFile.FieldType.int), [])
abbrev y_MO_enumeration : jj_Y := (⟨"SourceTreeModel", "enumeration", "()I"⟩, prog_9_method_47_code, 3, (Option.some Jvm.ClassFile.FieldType.int), [])
abbrev y_MO_subtype : jj_Y := (⟨"SourceTreeModel", "subtype", "()I"⟩, prog_9_method_48_code, 2, (Option.some Jvm.ClassFile.FieldType.int), [])
abbrev y_MO_concurrents : jj_Y := (⟨"SourceTreeModel", "concurrents", "()V"⟩, prog_9_method_49_code, 2, (Option.none : Option Jvm.ClassFile.FieldType), [])
abbrev y_MO_concurrent : jj_Y := (⟨"SourceTreeModel", "concurrent", "()V"⟩, prog_9_method_50_code, 2, (Option.none : Option Jvm.ClassFile.FieldType), [])
abbrev y_MO_process : jj_Y := (⟨"SourceTreeModel", "process", "(I)V"⟩, prog_9_method_52_code, 3, (Option.none : Option Jvm.ClassFile.FieldType), [])
abbrev y_MO_nameNodes : jj_Y := (⟨"SourceTreeModel", "nameNodes", "()I"⟩, prog_9_method_51_code, 2, (Option.some Jvm.ClassFile.FieldType.int), [])
abbrev y_MO_statements : jj_Y := (⟨"SourceTreeModel", "statements", "()V"⟩, prog_9_method_63_code, 2, (Option.none : Option Jvm.ClassFile.FieldType), [])
abbrev y_MO_statement : jj_Y := (⟨"SourceTreeModel", "statement", "()Z"⟩, prog_9_method_64_code, 1, (Option.some Jvm.ClassFile.FieldType.boolean), [])
abbrev y_MO_assignment : jj_Y := (⟨"SourceTreeModel", "assignment", "()V"⟩, prog_9_method_66_code, 4, (Option.none : Option Jvm.ClassFile.FieldType), [])
abbrev y_MO_target : jj_Y := (⟨"SourceTreeModel", "target", "(I)V"⟩, prog_9_method_58_code, 3, (Option.none : Option Jvm.ClassFile.FieldType), [])
abbrev y_MO_mode : jj_Y := (⟨"SourceTreeModel", "mode", "()I"⟩, prog_9_method_59_code, 2, (Option.some Jvm.ClassFile.FieldType.int), [])
abbrev y_MO_time : jj_Y := (⟨"SourceTreeModel", "time", "()V"⟩, prog_9_method_60_code, 2, (Option.none : Option Jvm.ClassFile.FieldType), [])
abbrev y_MO_elements : jj_Y := (⟨"SourceTreeModel", "elements", "()I"⟩, prog_9_method_61_code, 3, (Option.some Jvm.ClassFile.FieldType.int), [])
abbrev y_MO_branches : jj_Y := (⟨"SourceTreeModel", "branches", "()V"⟩, prog_9_method_67_code, 3, (Option.none : Option Jvm.ClassFile.FieldType), [])
abbrev y_MO_cases : jj_Y := (⟨"SourceTreeModel", "cases", "()V"⟩, prog_9_method_68_code, 5, (Option.none : Option Jvm.ClassFile.FieldType), [])
abbrev y_MO_loop : jj_Y := (⟨"SourceTreeModel", "loop", "()V"⟩, prog_9_method_69_code, 5, (Option.none : Option Jvm.ClassFile.FieldType), [])
abbrev y_MO_leave : jj_Y := (⟨"SourceTreeModel", "leave", "(I)V"⟩, prog_9_method_70_code, 2, (Option.none : Option Jvm.ClassFile.FieldType), [])
abbrev y_MO_waits : jj_Y := (⟨"SourceTreeModel", "waits", "()V"⟩, prog_9_method_71_code, 2, (Option.none : Option Jvm.ClassFile.FieldType), [])
abbrev y_MO_nothing : jj_Y := (⟨"SourceTreeModel", "nothing", "()V"⟩, prog_9_method_65_code, 1, (Option.none : Option Jvm.ClassFile.FieldType), [])
abbrev y_MO_report : jj_Y := (⟨"SourceTreeModel", "report", "(I)V"⟩, prog_9_method_72_code, 2, (Option.none : Option Jvm.ClassFile.FieldType), [])
abbrev y_MO_flow : jj_Y := (⟨"SourceTreeModel", "flow", "(I)V"⟩, prog_9_method_62_code, 5, (Option.none : Option Jvm.ClassFile.FieldType), [])
abbrev y_MO_instance : jj_Y := (⟨"SourceTreeModel", "instance", "(I)V"⟩, prog_9_method_53_code, 2, (Option.none : Option Jvm.ClassFile.FieldType), [])
abbrev y_MO_maps : jj_Y := (⟨"SourceTreeModel", "maps", "(Ljava/lang/String;)V"⟩, prog_9_method_54_code, 6, (Option.none : Option Jvm.ClassFile.FieldType), [])
abbrev y_MO_manyTimes : jj_Y := (⟨"SourceTreeModel", "manyTimes", "(I)V"⟩, prog_9_method_55_code, 2, (Option.none : Option Jvm.ClassFile.FieldType), [])
abbrev y_MO_inside : jj_Y := (⟨"SourceTreeModel", "inside", "(I)V"⟩, prog_9_method_57_code, 2, (Option.none : Option Jvm.ClassFile.FieldType), [])
abbrev y_MO_perhaps : jj_Y := (⟨"SourceTreeModel", "perhaps", "(I)V"⟩, prog_9_method_56_code, 2, (Option.none : Option Jvm.ClassFile.FieldType), [])
abbrev y_MO_place : jj_Y := (⟨"SourceTreeModel", "place", "()I"⟩, prog_9_method_83_code, 1, (Option.some Jvm.ClassFile.FieldType.int), [])
abbrev y_MO_nodes : jj_Y := (⟨"SourceTreeModel", "nodes", "()I"⟩, prog_9_method_84_code, 1, (Option.some Jvm.ClassFile.FieldType.int), [])
abbrev y_MO_node : jj_Y := (⟨"SourceTreeModel", "node", "(II)I"⟩, prog_9_method_85_code, 3, (Option.some Jvm.ClassFile.FieldType.int), [])
abbrev y_MO_names : jj_Y := (⟨"SourceTreeModel", "names", "()I"⟩, prog_9_method_86_code, 1, (Option.some Jvm.ClassFile.FieldType.int), [])
abbrev y_MO_name : jj_Y := (⟨"SourceTreeModel", "name", "(II)I"⟩, prog_9_method_87_code, 3, (Option.some Jvm.ClassFile.FieldType.int), [])
end
section
theorem ck_ST : jj_ck 0 "SourceTree" T_ST 6 t_ST := ⟨rfl, by decide +kernel, by decide +kernel, by decide +kernel⟩
theorem ni_ST : Cond.instantiable "SourceTree" 6 ∈ jj_T := jw 158 (by decide +kernel) rfl
theorem ck_IR : jj_ck 1 "SourceTree$IntRow" T_IR 2 t_IR := ⟨rfl, by decide +kernel, by decide +kernel, by decide +kernel⟩
theorem ni_IR : Cond.instantiable "SourceTree$IntRow" 2 ∈ jj_T := jw 166 (by decide +kernel) rfl
theorem ck_TB : jj_ck 2 "SourceTree$Table" T_TB 2 t_TB := ⟨rfl, by decide +kernel, by decide +kernel, by decide +kernel⟩
theorem ni_TB : Cond.instantiable "SourceTree$Table" 2 ∈ jj_T := jw 318 (by decide +kernel) rfl
theorem ck_SP : jj_ck 3 "SourceTree$Spellings" T_SP 5 t_SP := ⟨rfl, by decide +kernel, by decide +kernel, by decide +kernel⟩
theorem ni_SP : Cond.instantiable "SourceTree$Spellings" 5 ∈ jj_T := jw 180 (by decide +kernel) rfl
theorem ck_SC : jj_ck 4 "SourceTree$Scanner" T_SC 4 t_SC := ⟨rfl, by decide +kernel, by decide +kernel, by decide +kernel⟩
theorem ni_SC : Cond.instantiable "SourceTree$Scanner" 4 ∈ jj_T := jw 331 (by decide +kernel) rfl
theorem ck_GR : jj_ck 5 "SourceTree$Grammar" T_GR 12 t_GR := ⟨rfl, by decide +kernel, by decide +kernel, by decide +kernel⟩
theorem ni_GR : Cond.instantiable "SourceTree$Grammar" 12 ∈ jj_T := jw 350 (by decide +kernel) rfl
theorem fl_IR_9 : jj_fl "SourceTree$IntRow" 9 T_IR 0 := ⟨"SourceTree$IntRow", jw 171 (by decide +kernel) rfl, Or.inl rfl⟩
theorem fl_IR_15 : jj_fl "SourceTree$IntRow" 15 T_IR 1 := ⟨"SourceTree$IntRow", jw 172 (by decide +kernel) rfl, Or.inl rfl⟩
theorem fl_SP_14 : jj_fl "SourceTree$Spellings" 14 T_SP 0 := ⟨"SourceTree$Spellings", jw 300 (by decide +kernel) rfl, Or.inl rfl⟩
theorem fl_SP_20 : jj_fl "SourceTree$Spellings" 20 T_SP 1 := ⟨"SourceTree$Spellings", jw 301 (by decide +kernel) rfl, Or.inl rfl⟩
theorem fl_SP_26 : jj_fl "SourceTree$Spellings" 26 T_SP 2 := ⟨"SourceTree$Spellings", jw 302 (by decide +kernel) rfl, Or.inl rfl⟩
theorem fl_SP_23 : jj_fl "SourceTree$Spellings" 23 T_SP 3 := ⟨"SourceTree$Spellings", jw 303 (by decide +kernel) rfl, Or.inl rfl⟩
theorem fl_SP_38 : jj_fl "SourceTree$Spellings" 38 T_SP 4 := ⟨"SourceTree$Spellings", jw 304 (by decide +kernel) rfl, Or.inl rfl⟩
theorem fl_TB_9 : jj_fl "SourceTree$Table" 9 T_TB 0 := ⟨"SourceTree$Table", jw 323 (by decide +kernel) rfl, Or.inl rfl⟩
theorem fl_TB_15 : jj_fl "SourceTree$Table" 15 T_TB 1 := ⟨"SourceTree$Table", jw 324 (by decide +kernel) rfl, Or.inl rfl⟩
theorem fl_SC_9 : jj_fl "SourceTree$Scanner" 9 T_SC 0 := ⟨"SourceTree$Scanner", jw 336 (by decide +kernel) rfl, Or.inl rfl⟩
theorem fl_SC_15 : jj_fl "SourceTree$Scanner" 15 T_SC 1 := ⟨"SourceTree$Scanner", jw 337 (by decide +kernel) rfl, Or.inl rfl⟩
theorem fl_SC_19 : jj_fl "SourceTree$Scanner" 19 T_SC 2 := ⟨"SourceTree$Scanner", jw 338 (by decide +kernel) rfl, Or.inl rfl⟩
theorem fl_SC_23 : jj_fl "SourceTree$Scanner" 23 T_SC 3 := ⟨"SourceTree$Scanner", jw 339 (by decide +kernel) rfl, Or.inl rfl⟩
theorem fl_GR_9 : jj_fl "SourceTree$Grammar" 9 T_GR 0 := ⟨"SourceTree$Grammar", jw 360 (by decide +kernel) rfl, Or.inl rfl⟩
theorem fl_GR_20 : jj_fl "SourceTree$Grammar" 20 T_GR 1 := ⟨"SourceTree$Grammar", jw 361 (by decide +kernel) rfl, Or.inl rfl⟩
theorem fl_GR_23 : jj_fl "SourceTree$Grammar" 23 T_GR 2 := ⟨"SourceTree$Grammar", jw 362 (by decide +kernel) rfl, Or.inl rfl⟩
theorem fl_CU_18 : jj_fl "SourceTree$Cursor" 18 T_GR 3 := ⟨"SourceTree$Cursor", jw 363 (by decide +kernel) rfl, Or.inl rfl⟩
theorem fl_GR_68 : jj_fl "SourceTree$Grammar" 68 T_GR 3 := ⟨"SourceTree$Grammar", jw 364 (by decide +kernel) rfl, Or.inr (jw 365 (by decide +kernel) rfl)⟩
theorem fl_CU_22 : jj_fl "SourceTree$Cursor" 22 T_GR 4 := ⟨"SourceTree$Cursor", jw 366 (by decide +kernel) rfl, Or.inl rfl⟩
theorem fl_GR_162 : jj_fl "SourceTree$Grammar" 162 T_GR 4 := ⟨"SourceTree$Grammar", jw 367 (by decide +kernel) rfl, Or.inr (jw 368 (by decide +kernel) rfl)⟩
theorem fl_CU_25 : jj_fl "SourceTree$Cursor" 25 T_GR 5 := ⟨"SourceTree$Cursor", jw 369 (by decide +kernel) rfl, Or.inl rfl⟩
theorem fl_GR_247 : jj_fl "SourceTree$Grammar" 247 T_GR 5 := ⟨"SourceTree$Grammar", jw 370 (by decide +kernel) rfl, Or.inr (jw 371 (by decide +kernel) rfl)⟩
theorem fl_CU_28 : jj_fl "SourceTree$Cursor" 28 T_GR 6 := ⟨"SourceTree$Cursor", jw 372 (by decide +kernel) rfl, Or.inl rfl⟩
theorem fl_ST_90 : jj_fl "SourceTree" 90 T_GR 6 := ⟨"SourceTree$Grammar", jw 373 (by decide +kernel) rfl, Or.inr (jw 374 (by decide +kernel) rfl)⟩
theorem fl_CU_31 : jj_fl "SourceTree$Cursor" 31 T_GR 7 := ⟨"SourceTree$Cursor", jw 375 (by decide +kernel) rfl, Or.inl rfl⟩
theorem fl_ST_89 : jj_fl "SourceTree" 89 T_GR 7 := ⟨"SourceTree$Grammar", jw 376 (by decide +kernel) rfl, Or.inr (jw 377 (by decide +kernel) rfl)⟩
theorem fl_CU_9 : jj_fl "SourceTree$Cursor" 9 T_GR 8 := ⟨"SourceTree$Cursor", jw 378 (by decide +kernel) rfl, Or.inl rfl⟩
theorem fl_CU_15 : jj_fl "SourceTree$Cursor" 15 T_GR 9 := ⟨"SourceTree$Cursor", jw 379 (by decide +kernel) rfl, Or.inl rfl⟩
theorem fl_CU_34 : jj_fl "SourceTree$Cursor" 34 T_GR 10 := ⟨"SourceTree$Cursor", jw 380 (by decide +kernel) rfl, Or.inl rfl⟩
theorem fl_CU_37 : jj_fl "SourceTree$Cursor" 37 T_GR 11 := ⟨"SourceTree$Cursor", jw 381 (by decide +kernel) rfl, Or.inl rfl⟩
theorem fl_ST_14 : jj_fl "SourceTree" 14 T_ST 0 := ⟨"SourceTree", jw 407 (by decide +kernel) rfl, Or.inl rfl⟩
theorem fl_ST_21 : jj_fl "SourceTree" 21 T_ST 1 := ⟨"SourceTree", jw 408 (by decide +kernel) rfl, Or.inl rfl⟩
theorem fl_ST_28 : jj_fl "SourceTree" 28 T_ST 2 := ⟨"SourceTree", jw 409 (by decide +kernel) rfl, Or.inl rfl⟩
theorem fl_ST_37 : jj_fl "SourceTree" 37 T_ST 3 := ⟨"SourceTree", jw 410 (by decide +kernel) rfl, Or.inl rfl⟩
theorem fl_ST_46 : jj_fl "SourceTree" 46 T_ST 4 := ⟨"SourceTree", jw 411 (by decide +kernel) rfl, Or.inl rfl⟩
theorem fl_ST_50 : jj_fl "SourceTree" 50 T_ST 5 := ⟨"SourceTree", jw 412 (by decide +kernel) rfl, Or.inl rfl⟩
theorem ok_ST_init : jj_okc y_ST_init 0 := ⟨jw 161 (by decide +kernel) rfl, jw 135 (by decide +kernel) rfl, by decide, by decide, by decide +kernel, by decide⟩
theorem im_ST_init : Cond.instanceMethod ⟨"SourceTree", "<init>", "()V"⟩ ∈ jj_T := jw 160 (by decide +kernel) rfl
theorem ok_IR_init : jj_okc y_IR_init 1 := ⟨jw 169 (by decide +kernel) rfl, jw 136 (by decide +kernel) rfl, by decide, by decide, by decide +kernel, by decide⟩
theorem im_IR_init : Cond.instanceMethod ⟨"SourceTree$IntRow", "<init>", "(I)V"⟩ ∈ jj_T := jw 168 (by decide +kernel) rfl
theorem ok_SP_init : jj_okc y_SP_init 0 := ⟨jw 183 (by decide +kernel) rfl, jw 137 (by decide +kernel) rfl, by decide, by decide, by decide +kernel, by decide⟩
theorem im_SP_init : Cond.instanceMethod ⟨"SourceTree$Spellings", "<init>", "()V"⟩ ∈ jj_T := jw 182 (by decide +kernel) rfl
theorem ok_IR_add : jj_okc y_IR_add 1 := ⟨jw 190 (by decide +kernel) rfl, jw 136 (by decide +kernel) rfl, by decide, by decide, by decide +kernel, by decide⟩
theorem im_IR_add : Cond.instanceMethod ⟨"SourceTree$IntRow", "add", "(I)V"⟩ ∈ jj_T := jw 188 (by decide +kernel) rfl
theorem ok_JA_copyOf : jj_okc y_JA_copyOf 2 := ⟨jw 194 (by decide +kernel) rfl, jw 138 (by decide +kernel) rfl, by decide, by decide, by decide +kernel, by decide⟩
theorem st_JA_copyOf : Cond.static ⟨"java/util/Arrays", "copyOf", "([II)[I"⟩ ∈ jj_T := jw 193 (by decide +kernel) rfl
theorem ok_JM_min : jj_okc y_JM_min 2 := ⟨jw 204 (by decide +kernel) rfl, jw 139 (by decide +kernel) rfl, by decide, by decide, by decide +kernel, by decide⟩
theorem st_JM_min : Cond.static ⟨"java/lang/Math", "min", "(II)I"⟩ ∈ jj_T := jw 203 (by decide +kernel) rfl
theorem ok_SP_reset : jj_okc y_SP_reset 0 := ⟨jw 211 (by decide +kernel) rfl, jw 137 (by decide +kernel) rfl, by decide, by decide, by decide +kernel, by decide⟩
theorem im_SP_reset : Cond.instanceMethod ⟨"SourceTree$Spellings", "reset", "()V"⟩ ∈ jj_T := jw 209 (by decide +kernel) rfl
theorem ok_IR_cutTo : jj_okc y_IR_cutTo 1 := ⟨jw 215 (by decide +kernel) rfl, jw 136 (by decide +kernel) rfl, by decide, by decide, by decide +kernel, by decide⟩
theorem im_IR_cutTo : Cond.instanceMethod ⟨"SourceTree$IntRow", "cutTo", "(I)V"⟩ ∈ jj_T := jw 213 (by decide +kernel) rfl
theorem ok_IR_put : jj_okc y_IR_put 2 := ⟨jw 219 (by decide +kernel) rfl, jw 136 (by decide +kernel) rfl, by decide, by decide, by decide +kernel, by decide⟩
theorem im_IR_put : Cond.instanceMethod ⟨"SourceTree$IntRow", "put", "(II)V"⟩ ∈ jj_T := jw 217 (by decide +kernel) rfl
theorem ok_SP_addAll : jj_okc y_SP_addAll 1 := ⟨jw 224 (by decide +kernel) rfl, jw 137 (by decide +kernel) rfl, by decide, by decide, by decide +kernel, by decide⟩
theorem im_SP_addAll : Cond.instanceMethod ⟨"SourceTree$Spellings", "addAll", "(Ljava/lang/String;)V"⟩ ∈ jj_T := jw 223 (by decide +kernel) rfl
theorem ok_JS_length : jj_okc y_JS_length 0 := ⟨jw 228 (by decide +kernel) rfl, jw 141 (by decide +kernel) rfl, by decide, by decide, by decide +kernel, by decide⟩
theorem im_JS_length : Cond.instanceMethod ⟨"java/lang/String", "length", "()I"⟩ ∈ jj_T := jw 226 (by decide +kernel) rfl
theorem ok_JS_coder : jj_okc y_JS_coder 0 := ⟨jw 232 (by decide +kernel) rfl, jw 141 (by decide +kernel) rfl, by decide, by decide, by decide +kernel, by decide⟩
theorem im_JS_coder : Cond.instanceMethod ⟨"java/lang/String", "coder", "()B"⟩ ∈ jj_T := jw 230 (by decide +kernel) rfl
theorem ok_JS_charAt : jj_okc y_JS_charAt 1 := ⟨jw 238 (by decide +kernel) rfl, jw 141 (by decide +kernel) rfl, by decide, by decide, by decide +kernel, by decide⟩
theorem im_JS_charAt : Cond.instanceMethod ⟨"java/lang/String", "charAt", "(I)C"⟩ ∈ jj_T := jw 236 (by decide +kernel) rfl
theorem ok_JS_isLatin1 : jj_okc y_JS_isLatin1 0 := ⟨jw 242 (by decide +kernel) rfl, jw 141 (by decide +kernel) rfl, by decide, by decide, by decide +kernel, by decide⟩
theorem im_JS_isLatin1 : Cond.instanceMethod ⟨"java/lang/String", "isLatin1", "()Z"⟩ ∈ jj_T := jw 240 (by decide +kernel) rfl
theorem ok_JL_charAt : jj_okc y_JL_charAt 2 := ⟨jw 245 (by decide +kernel) rfl, jw 142 (by decide +kernel) rfl, by decide, by decide, by decide +kernel, by decide⟩
theorem st_JL_charAt : Cond.static ⟨"java/lang/StringLatin1", "charAt", "([BI)C"⟩ ∈ jj_T := jw 244 (by decide +kernel) rfl
theorem ok_JS_checkIndex : jj_okc y_JS_checkIndex 2 := ⟨jw 248 (by decide +kernel) rfl, jw 141 (by decide +kernel) rfl, by decide, by decide, by decide +kernel, by decide⟩
theorem st_JS_checkIndex : Cond.static ⟨"java/lang/String", "checkIndex", "(II)V"⟩ ∈ jj_T := jw 247 (by decide +kernel) rfl
theorem ok_JP_checkIndex : jj_okc y_JP_checkIndex 3 := ⟨jw 253 (by decide +kernel) rfl, jw 143 (by decide +kernel) rfl, by decide, by decide, by decide +kernel, by decide⟩
theorem st_JP_checkIndex : Cond.static ⟨"jdk/internal/util/Preconditions", "checkIndex", "(IILjava/util/function/BiFunction;)I"⟩ ∈ jj_T := jw 252 (by decide +kernel) rfl
theorem ok_SP_settle : jj_okc y_SP_settle 0 := ⟨jw 276 (by decide +kernel) rfl, jw 137 (by decide +kernel) rfl, by decide, by decide, by decide +kernel, by decide⟩
theorem im_SP_settle : Cond.instanceMethod ⟨"SourceTree$Spellings", "settle", "()I"⟩ ∈ jj_T := jw 274 (by decide +kernel) rfl
theorem ok_SP_size : jj_okc y_SP_size 0 := ⟨jw 280 (by decide +kernel) rfl, jw 137 (by decide +kernel) rfl, by decide, by decide, by decide +kernel, by decide⟩
theorem im_SP_size : Cond.instanceMethod ⟨"SourceTree$Spellings", "size", "()I"⟩ ∈ jj_T := jw 278 (by decide +kernel) rfl
theorem ok_IR_size : jj_okc y_IR_size 0 := ⟨jw 284 (by decide +kernel) rfl, jw 136 (by decide +kernel) rfl, by decide, by decide, by decide +kernel, by decide⟩
theorem im_IR_size : Cond.instanceMethod ⟨"SourceTree$IntRow", "size", "()I"⟩ ∈ jj_T := jw 282 (by decide +kernel) rfl
theorem ok_IR_at : jj_okc y_IR_at 1 := ⟨jw 288 (by decide +kernel) rfl, jw 136 (by decide +kernel) rfl, by decide, by decide, by decide +kernel, by decide⟩
theorem im_IR_at : Cond.instanceMethod ⟨"SourceTree$IntRow", "at", "(I)I"⟩ ∈ jj_T := jw 286 (by decide +kernel) rfl
theorem ok_SP_isLast : jj_okc y_SP_isLast 2 := ⟨jw 292 (by decide +kernel) rfl, jw 137 (by decide +kernel) rfl, by decide, by decide, by decide +kernel, by decide⟩
theorem im_SP_isLast : Cond.instanceMethod ⟨"SourceTree$Spellings", "isLast", "(II)Z"⟩ ∈ jj_T := jw 291 (by decide +kernel) rfl
theorem ok_SP_addLetter : jj_okc y_SP_addLetter 1 := ⟨jw 296 (by decide +kernel) rfl, jw 137 (by decide +kernel) rfl, by decide, by decide, by decide +kernel, by decide⟩
theorem im_SP_addLetter : Cond.instanceMethod ⟨"SourceTree$Spellings", "addLetter", "(I)V"⟩ ∈ jj_T := jw 294 (by decide +kernel) rfl
theorem ok_TB_init : jj_okc y_TB_init 0 := ⟨jw 321 (by decide +kernel) rfl, jw 145 (by decide +kernel) rfl, by decide, by decide, by decide +kernel, by decide⟩
theorem im_TB_init : Cond.instanceMethod ⟨"SourceTree$Table", "<init>", "()V"⟩ ∈ jj_T := jw 320 (by decide +kernel) rfl
theorem ok_SC_init : jj_okc y_SC_init 3 := ⟨jw 334 (by decide +kernel) rfl, jw 146 (by decide +kernel) rfl, by decide, by decide, by decide +kernel, by decide⟩
theorem im_SC_init : Cond.instanceMethod ⟨"SourceTree$Scanner", "<init>", "(LSourceTree$IntRow;LSourceTree$Spellings;LSourceTree$Table;)V"⟩ ∈ jj_T := jw 333 (by decide +kernel) rfl
theorem ok_GR_init : jj_okc y_GR_init 3 := ⟨jw 353 (by decide +kernel) rfl, jw 148 (by decide +kernel) rfl, by decide, by decide, by decide +kernel, by decide⟩
theorem im_GR_init : Cond.instanceMethod ⟨"SourceTree$Grammar", "<init>", "(LSourceTree$IntRow;LSourceTree$Table;LSourceTree$Table;)V"⟩ ∈ jj_T := jw 352 (by decide +kernel) rfl
theorem ok_CU_init : jj_okc y_CU_init 2 := ⟨jw 356 (by decide +kernel) rfl, jw 147 (by decide +kernel) rfl, by decide, by decide, by decide +kernel, by decide⟩
theorem im_CU_init : Cond.instanceMethod ⟨"SourceTree$Cursor", "<init>", "(LSourceTree$Table;LSourceTree$Table;)V"⟩ ∈ jj_T := jw 355 (by decide +kernel) rfl
theorem ok_ST_length : jj_okc y_ST_length 0 := ⟨jw 429 (by decide +kernel) rfl, jw 135 (by decide +kernel) rfl, by decide, by decide, by decide +kernel, by decide⟩
theorem im_ST_length : Cond.instanceMethod ⟨"SourceTree", "length", "()I"⟩ ∈ jj_T := jw 427 (by decide +kernel) rfl
theorem ok_ST_read : jj_okc y_ST_read 0 := ⟨jw 434 (by decide +kernel) rfl, jw 135 (by decide +kernel) rfl, by decide, by decide, by decide +kernel, by decide⟩
theorem im_ST_read : Cond.instanceMethod ⟨"SourceTree", "read", "()I"⟩ ∈ jj_T := jw 432 (by decide +kernel) rfl
theorem ok_TB_clear : jj_okc y_TB_clear 0 := ⟨jw 439 (by decide +kernel) rfl, jw 145 (by decide +kernel) rfl, by decide, by decide, by decide +kernel, by decide⟩
theorem im_TB_clear : Cond.instanceMethod ⟨"SourceTree$Table", "clear", "()V"⟩ ∈ jj_T := jw 437 (by decide +kernel) rfl
theorem ok_SC_scan : jj_okc y_SC_scan 0 := ⟨jw 443 (by decide +kernel) rfl, jw 146 (by decide +kernel) rfl, by decide, by decide, by decide +kernel, by decide⟩
theorem im_SC_scan : Cond.instanceMethod ⟨"SourceTree$Scanner", "scan", "()V"⟩ ∈ jj_T := jw 441 (by decide +kernel) rfl
theorem ok_SC_behindBlanks : jj_okc y_SC_behindBlanks 1 := ⟨jw 449 (by decide +kernel) rfl, jw 146 (by decide +kernel) rfl, by decide, by decide, by decide +kernel, by decide⟩
theorem im_SC_behindBlanks : Cond.instanceMethod ⟨"SourceTree$Scanner", "behindBlanks", "(I)I"⟩ ∈ jj_T := jw 448 (by decide +kernel) rfl
theorem ok_SC_scanToken : jj_okc y_SC_scanToken 1 := ⟨jw 455 (by decide +kernel) rfl, jw 146 (by decide +kernel) rfl, by decide, by decide, by decide +kernel, by decide⟩
theorem im_SC_scanToken : Cond.instanceMethod ⟨"SourceTree$Scanner", "scanToken", "(I)I"⟩ ∈ jj_T := jw 454 (by decide +kernel) rfl
theorem ok_TB_add : jj_okc y_TB_add 3 := ⟨jw 459 (by decide +kernel) rfl, jw 145 (by decide +kernel) rfl, by decide, by decide, by decide +kernel, by decide⟩
theorem im_TB_add : Cond.instanceMethod ⟨"SourceTree$Table", "add", "(III)V"⟩ ∈ jj_T := jw 457 (by decide +kernel) rfl
theorem ok_ST_isLetter : jj_okc y_ST_isLetter 1 := ⟨jw 463 (by decide +kernel) rfl, jw 135 (by decide +kernel) rfl, by decide, by decide, by decide +kernel, by decide⟩
theorem st_ST_isLetter : Cond.static ⟨"SourceTree", "isLetter", "(I)Z"⟩ ∈ jj_T := jw 462 (by decide +kernel) rfl
theorem ok_SC_scanName : jj_okc y_SC_scanName 1 := ⟨jw 467 (by decide +kernel) rfl, jw 146 (by decide +kernel) rfl, by decide, by decide, by decide +kernel, by decide⟩
theorem im_SC_scanName : Cond.instanceMethod ⟨"SourceTree$Scanner", "scanName", "(I)I"⟩ ∈ jj_T := jw 466 (by decide +kernel) rfl
theorem ok_SC_goesOnName : jj_okc y_SC_goesOnName 1 := ⟨jw 471 (by decide +kernel) rfl, jw 146 (by decide +kernel) rfl, by decide, by decide, by decide +kernel, by decide⟩
theorem im_SC_goesOnName : Cond.instanceMethod ⟨"SourceTree$Scanner", "goesOnName", "(I)Z"⟩ ∈ jj_T := jw 470 (by decide +kernel) rfl
theorem ok_ST_isDigit : jj_okc y_ST_isDigit 1 := ⟨jw 474 (by decide +kernel) rfl, jw 135 (by decide +kernel) rfl, by decide, by decide, by decide +kernel, by decide⟩
theorem st_ST_isDigit : Cond.static ⟨"SourceTree", "isDigit", "(I)Z"⟩ ∈ jj_T := jw 473 (by decide +kernel) rfl
theorem ok_ST_small : jj_okc y_ST_small 1 := ⟨jw 477 (by decide +kernel) rfl, jw 135 (by decide +kernel) rfl, by decide, by decide, by decide +kernel, by decide⟩
theorem st_ST_small : Cond.static ⟨"SourceTree", "small", "(I)I"⟩ ∈ jj_T := jw 476 (by decide +kernel) rfl
theorem ok_SC_endWith : jj_okc y_SC_endWith 2 := ⟨jw 483 (by decide +kernel) rfl, jw 146 (by decide +kernel) rfl, by decide, by decide, by decide +kernel, by decide⟩
theorem im_SC_endWith : Cond.instanceMethod ⟨"SourceTree$Scanner", "endWith", "(II)I"⟩ ∈ jj_T := jw 482 (by decide +kernel) rfl
theorem ok_SC_scanNumber : jj_okc y_SC_scanNumber 1 := ⟨jw 487 (by decide +kernel) rfl, jw 146 (by decide +kernel) rfl, by decide, by decide, by decide +kernel, by decide⟩
theorem im_SC_scanNumber : Cond.instanceMethod ⟨"SourceTree$Scanner", "scanNumber", "(I)I"⟩ ∈ jj_T := jw 486 (by decide +kernel) rfl
theorem ok_JM_min2 : jj_okc y_JM_min2 2 := ⟨jw 492 (by decide +kernel) rfl, jw 139 (by decide +kernel) rfl, by decide, by decide, by decide +kernel, by decide⟩
theorem st_JM_min2 : Cond.static ⟨"java/lang/Math", "min", "(JJ)J"⟩ ∈ jj_T := jw 491 (by decide +kernel) rfl
theorem ok_SC_scanRow : jj_okc y_SC_scanRow 1 := ⟨jw 497 (by decide +kernel) rfl, jw 146 (by decide +kernel) rfl, by decide, by decide, by decide +kernel, by decide⟩
theorem im_SC_scanRow : Cond.instanceMethod ⟨"SourceTree$Scanner", "scanRow", "(I)I"⟩ ∈ jj_T := jw 496 (by decide +kernel) rfl
theorem ok_ST_signOf : jj_okc y_ST_signOf 1 := ⟨jw 500 (by decide +kernel) rfl, jw 135 (by decide +kernel) rfl, by decide, by decide, by decide +kernel, by decide⟩
theorem st_ST_signOf : Cond.static ⟨"SourceTree", "signOf", "(I)I"⟩ ∈ jj_T := jw 499 (by decide +kernel) rfl
theorem ok_JS_indexOf : jj_okc y_JS_indexOf 1 := ⟨jw 506 (by decide +kernel) rfl, jw 141 (by decide +kernel) rfl, by decide, by decide, by decide +kernel, by decide⟩
theorem im_JS_indexOf : Cond.instanceMethod ⟨"java/lang/String", "indexOf", "(I)I"⟩ ∈ jj_T := jw 504 (by decide +kernel) rfl
theorem ok_JS_indexOf2 : jj_okc y_JS_indexOf2 2 := ⟨jw 510 (by decide +kernel) rfl, jw 141 (by decide +kernel) rfl, by decide, by decide, by decide +kernel, by decide⟩
theorem im_JS_indexOf2 : Cond.instanceMethod ⟨"java/lang/String", "indexOf", "(II)I"⟩ ∈ jj_T := jw 508 (by decide +kernel) rfl
theorem ok_JL_indexOf : jj_okc y_JL_indexOf 4 := ⟨jw 514 (by decide +kernel) rfl, jw 142 (by decide +kernel) rfl, by decide, by decide, by decide +kernel, by decide⟩
theorem st_JL_indexOf : Cond.static ⟨"java/lang/StringLatin1", "indexOf", "([BIII)I"⟩ ∈ jj_T := jw 513 (by decide +kernel) rfl
theorem ok_JL_canEncode : jj_okc y_JL_canEncode 1 := ⟨jw 517 (by decide +kernel) rfl, jw 142 (by decide +kernel) rfl, by decide, by decide, by decide +kernel, by decide⟩
theorem st_JL_canEncode : Cond.static ⟨"java/lang/StringLatin1", "canEncode", "(I)Z"⟩ ∈ jj_T := jw 516 (by decide +kernel) rfl
theorem ok_JM_max : jj_okc y_JM_max 2 := ⟨jw 520 (by decide +kernel) rfl, jw 139 (by decide +kernel) rfl, by decide, by decide, by decide +kernel, by decide⟩
theorem st_JM_max : Cond.static ⟨"java/lang/Math", "max", "(II)I"⟩ ∈ jj_T := jw 519 (by decide +kernel) rfl
theorem ok_JL_indexOfChar : jj_okc y_JL_indexOfChar 4 := ⟨jw 524 (by decide +kernel) rfl, jw 142 (by decide +kernel) rfl, by decide, by decide, by decide +kernel, by decide⟩
theorem st_JL_indexOfChar : Cond.static ⟨"java/lang/StringLatin1", "indexOfChar", "([BIII)I"⟩ ∈ jj_T := jw 523 (by decide +kernel) rfl
theorem ok_JS_checkBoundsBeginEnd : jj_okc y_JS_checkBoundsBeginEnd 3 := ⟨jw 539 (by decide +kernel) rfl, jw 141 (by decide +kernel) rfl, by decide, by decide, by decide +kernel, by decide⟩
theorem st_JS_checkBoundsBeginEnd : Cond.static ⟨"java/lang/String", "checkBoundsBeginEnd", "(III)V"⟩ ∈ jj_T := jw 538 (by decide +kernel) rfl
theorem ok_JP_checkFromToIndex : jj_okc y_JP_checkFromToIndex 4 := ⟨jw 542 (by decide +kernel) rfl, jw 143 (by decide +kernel) rfl, by decide, by decide, by decide +kernel, by decide⟩
theorem st_JP_checkFromToIndex : Cond.static ⟨"jdk/internal/util/Preconditions", "checkFromToIndex", "(IIILjava/util/function/BiFunction;)I"⟩ ∈ jj_T := jw 541 (by decide +kernel) rfl
theorem ok_SC_scanMark : jj_okc y_SC_scanMark 1 := ⟨jw 563 (by decide +kernel) rfl, jw 146 (by decide +kernel) rfl, by decide, by decide, by decide +kernel, by decide⟩
theorem im_SC_scanMark : Cond.instanceMethod ⟨"SourceTree$Scanner", "scanMark", "(I)I"⟩ ∈ jj_T := jw 562 (by decide +kernel) rfl
theorem ok_SC_pairOf : jj_okc y_SC_pairOf 2 := ⟨jw 566 (by decide +kernel) rfl, jw 146 (by decide +kernel) rfl, by decide, by decide, by decide +kernel, by decide⟩
theorem st_SC_pairOf : Cond.static ⟨"SourceTree$Scanner", "pairOf", "(II)I"⟩ ∈ jj_T := jw 565 (by decide +kernel) rfl
theorem ok_GR_one : jj_okc y_GR_one 1 := ⟨jw 572 (by decide +kernel) rfl, jw 148 (by decide +kernel) rfl, by decide, by decide, by decide +kernel, by decide⟩
theorem im_GR_one : Cond.instanceMethod ⟨"SourceTree$Grammar", "one", "(I)I"⟩ ∈ jj_T := jw 571 (by decide +kernel) rfl
theorem ok_GR_wholeFile : jj_okc y_GR_wholeFile 0 := ⟨jw 576 (by decide +kernel) rfl, jw 148 (by decide +kernel) rfl, by decide, by decide, by decide +kernel, by decide⟩
theorem im_GR_wholeFile : Cond.instanceMethod ⟨"SourceTree$Grammar", "wholeFile", "()V"⟩ ∈ jj_T := jw 575 (by decide +kernel) rfl
theorem ok_CU_begin : jj_okc y_CU_begin 0 := ⟨jw 583 (by decide +kernel) rfl, jw 147 (by decide +kernel) rfl, by decide, by decide, by decide +kernel, by decide⟩
theorem im_CU_begin : Cond.instanceMethod ⟨"SourceTree$Cursor", "begin", "()V"⟩ ∈ jj_T := jw 582 (by decide +kernel) rfl
theorem ok_CU_take : jj_okc y_CU_take 0 := ⟨jw 588 (by decide +kernel) rfl, jw 147 (by decide +kernel) rfl, by decide, by decide, by decide +kernel, by decide⟩
theorem im_CU_take : Cond.instanceMethod ⟨"SourceTree$Cursor", "take", "()V"⟩ ∈ jj_T := jw 585 (by decide +kernel) rfl
theorem ok_TB_at : jj_okc y_TB_at 2 := ⟨jw 592 (by decide +kernel) rfl, jw 145 (by decide +kernel) rfl, by decide, by decide, by decide +kernel, by decide⟩
theorem im_TB_at : Cond.instanceMethod ⟨"SourceTree$Table", "at", "(II)I"⟩ ∈ jj_T := jw 590 (by decide +kernel) rfl
theorem ok_CU_raise : jj_okc y_CU_raise 1 := ⟨jw 597 (by decide +kernel) rfl, jw 147 (by decide +kernel) rfl, by decide, by decide, by decide +kernel, by decide⟩
theorem im_CU_raise : Cond.instanceMethod ⟨"SourceTree$Cursor", "raise", "(I)V"⟩ ∈ jj_T := jw 594 (by decide +kernel) rfl
theorem ok_GR_canBegin : jj_okc y_GR_canBegin 1 := ⟨jw 669 (by decide +kernel) rfl, jw 148 (by decide +kernel) rfl, by decide, by decide, by decide +kernel, by decide⟩
theorem im_GR_canBegin : Cond.instanceMethod ⟨"SourceTree$Grammar", "canBegin", "(I)Z"⟩ ∈ jj_T := jw 668 (by decide +kernel) rfl
theorem ok_CU_tell : jj_okc y_CU_tell 3 := ⟨jw 675 (by decide +kernel) rfl, jw 147 (by decide +kernel) rfl, by decide, by decide, by decide +kernel, by decide⟩
theorem im_CU_tell : Cond.instanceMethod ⟨"SourceTree$Cursor", "tell", "(III)V"⟩ ∈ jj_T := jw 674 (by decide +kernel) rfl
theorem ok_TB_size : jj_okc y_TB_size 0 := ⟨jw 679 (by decide +kernel) rfl, jw 145 (by decide +kernel) rfl, by decide, by decide, by decide +kernel, by decide⟩
theorem im_TB_size : Cond.instanceMethod ⟨"SourceTree$Table", "size", "()I"⟩ ∈ jj_T := jw 677 (by decide +kernel) rfl
theorem ok_GR_unitOrBody : jj_okc y_GR_unitOrBody 0 := ⟨jw 688 (by decide +kernel) rfl, jw 148 (by decide +kernel) rfl, by decide, by decide, by decide +kernel, by decide⟩
theorem im_GR_unitOrBody : Cond.instanceMethod ⟨"SourceTree$Grammar", "unitOrBody", "()V"⟩ ∈ jj_T := jw 687 (by decide +kernel) rfl
theorem ok_GR_body : jj_okc y_GR_body 0 := ⟨jw 692 (by decide +kernel) rfl, jw 148 (by decide +kernel) rfl, by decide, by decide, by decide +kernel, by decide⟩
theorem im_GR_body : Cond.instanceMethod ⟨"SourceTree$Grammar", "body", "()V"⟩ ∈ jj_T := jw 691 (by decide +kernel) rfl
theorem ok_CU_expect : jj_okc y_CU_expect 1 := ⟨jw 698 (by decide +kernel) rfl, jw 147 (by decide +kernel) rfl, by decide, by decide, by decide +kernel, by decide⟩
theorem im_CU_expect : Cond.instanceMethod ⟨"SourceTree$Cursor", "expect", "(I)V"⟩ ∈ jj_T := jw 697 (by decide +kernel) rfl
theorem ok_CU_takeName : jj_okc y_CU_takeName 0 := ⟨jw 704 (by decide +kernel) rfl, jw 147 (by decide +kernel) rfl, by decide, by decide, by decide +kernel, by decide⟩
theorem im_CU_takeName : Cond.instanceMethod ⟨"SourceTree$Cursor", "takeName", "()I"⟩ ∈ jj_T := jw 703 (by decide +kernel) rfl
theorem ok_GR_listOfAny : jj_okc y_GR_listOfAny 1 := ⟨jw 708 (by decide +kernel) rfl, jw 148 (by decide +kernel) rfl, by decide, by decide, by decide +kernel, by decide⟩
theorem im_GR_listOfAny : Cond.instanceMethod ⟨"SourceTree$Grammar", "listOfAny", "(I)V"⟩ ∈ jj_T := jw 707 (by decide +kernel) rfl
theorem ok_CU_accept : jj_okc y_CU_accept 1 := ⟨jw 714 (by decide +kernel) rfl, jw 147 (by decide +kernel) rfl, by decide, by decide, by decide +kernel, by decide⟩
theorem im_CU_accept : Cond.instanceMethod ⟨"SourceTree$Cursor", "accept", "(I)Z"⟩ ∈ jj_T := jw 713 (by decide +kernel) rfl
theorem ok_GR_nameBehindEnd : jj_okc y_GR_nameBehindEnd 1 := ⟨jw 718 (by decide +kernel) rfl, jw 148 (by decide +kernel) rfl, by decide, by decide, by decide +kernel, by decide⟩
theorem im_GR_nameBehindEnd : Cond.instanceMethod ⟨"SourceTree$Grammar", "nameBehindEnd", "(I)V"⟩ ∈ jj_T := jw 717 (by decide +kernel) rfl
theorem ok_GR_unit : jj_okc y_GR_unit 0 := ⟨jw 726 (by decide +kernel) rfl, jw 148 (by decide +kernel) rfl, by decide, by decide, by decide +kernel, by decide⟩
theorem im_GR_unit : Cond.instanceMethod ⟨"SourceTree$Grammar", "unit", "()V"⟩ ∈ jj_T := jw 725 (by decide +kernel) rfl
theorem ok_GR_interfaceList : jj_okc y_GR_interfaceList 2 := ⟨jw 730 (by decide +kernel) rfl, jw 148 (by decide +kernel) rfl, by decide, by decide, by decide +kernel, by decide⟩
theorem im_GR_interfaceList : Cond.instanceMethod ⟨"SourceTree$Grammar", "interfaceList", "(II)V"⟩ ∈ jj_T := jw 729 (by decide +kernel) rfl
theorem ok_GR_listOfSome : jj_okc y_GR_listOfSome 2 := ⟨jw 734 (by decide +kernel) rfl, jw 148 (by decide +kernel) rfl, by decide, by decide, by decide +kernel, by decide⟩
theorem im_GR_listOfSome : Cond.instanceMethod ⟨"SourceTree$Grammar", "listOfSome", "(II)V"⟩ ∈ jj_T := jw 733 (by decide +kernel) rfl
theorem ok_GR_oneOrMore : jj_okc y_GR_oneOrMore 2 := ⟨jw 738 (by decide +kernel) rfl, jw 148 (by decide +kernel) rfl, by decide, by decide, by decide +kernel, by decide⟩
theorem im_GR_oneOrMore : Cond.instanceMethod ⟨"SourceTree$Grammar", "oneOrMore", "(II)I"⟩ ∈ jj_T := jw 737 (by decide +kernel) rfl
theorem ok_GR_emptyList : jj_okc y_GR_emptyList 0 := ⟨jw 742 (by decide +kernel) rfl, jw 148 (by decide +kernel) rfl, by decide, by decide, by decide +kernel, by decide⟩
theorem im_GR_emptyList : Cond.instanceMethod ⟨"SourceTree$Grammar", "emptyList", "()V"⟩ ∈ jj_T := jw 741 (by decide +kernel) rfl
theorem ok_GR_generic : jj_okc y_GR_generic 0 := ⟨jw 746 (by decide +kernel) rfl, jw 148 (by decide +kernel) rfl, by decide, by decide, by decide +kernel, by decide⟩
theorem im_GR_generic : Cond.instanceMethod ⟨"SourceTree$Grammar", "generic", "()I"⟩ ∈ jj_T := jw 745 (by decide +kernel) rfl
theorem ok_GR_declaredNames : jj_okc y_GR_declaredNames 0 := ⟨jw 750 (by decide +kernel) rfl, jw 148 (by decide +kernel) rfl, by decide, by decide, by decide +kernel, by decide⟩
theorem im_GR_declaredNames : Cond.instanceMethod ⟨"SourceTree$Grammar", "declaredNames", "()V"⟩ ∈ jj_T := jw 749 (by decide +kernel) rfl
theorem ok_CU_told : jj_okc y_CU_told 0 := ⟨jw 757 (by decide +kernel) rfl, jw 147 (by decide +kernel) rfl, by decide, by decide, by decide +kernel, by decide⟩
theorem im_CU_told : Cond.instanceMethod ⟨"SourceTree$Cursor", "told", "()I"⟩ ∈ jj_T := jw 756 (by decide +kernel) rfl
theorem ok_GR_type : jj_okc y_GR_type 0 := ⟨jw 761 (by decide +kernel) rfl, jw 148 (by decide +kernel) rfl, by decide, by decide, by decide +kernel, by decide⟩
theorem im_GR_type : Cond.instanceMethod ⟨"SourceTree$Grammar", "type", "()V"⟩ ∈ jj_T := jw 760 (by decide +kernel) rfl
theorem ok_GR_expression : jj_okc y_GR_expression 0 := ⟨jw 765 (by decide +kernel) rfl, jw 148 (by decide +kernel) rfl, by decide, by decide, by decide +kernel, by decide⟩
theorem im_GR_expression : Cond.instanceMethod ⟨"SourceTree$Grammar", "expression", "()V"⟩ ∈ jj_T := jw 764 (by decide +kernel) rfl
theorem ok_GR_signInFront : jj_okc y_GR_signInFront 0 := ⟨jw 770 (by decide +kernel) rfl, jw 148 (by decide +kernel) rfl, by decide, by decide, by decide +kernel, by decide⟩
theorem im_GR_signInFront : Cond.instanceMethod ⟨"SourceTree$Grammar", "signInFront", "()V"⟩ ∈ jj_T := jw 769 (by decide +kernel) rfl
theorem ok_GR_factor : jj_okc y_GR_factor 0 := ⟨jw 774 (by decide +kernel) rfl, jw 148 (by decide +kernel) rfl, by decide, by decide, by decide +kernel, by decide⟩
theorem im_GR_factor : Cond.instanceMethod ⟨"SourceTree$Grammar", "factor", "()V"⟩ ∈ jj_T := jw 773 (by decide +kernel) rfl
theorem ok_GR_primary : jj_okc y_GR_primary 0 := ⟨jw 778 (by decide +kernel) rfl, jw 148 (by decide +kernel) rfl, by decide, by decide, by decide +kernel, by decide⟩
theorem im_GR_primary : Cond.instanceMethod ⟨"SourceTree$Grammar", "primary", "()V"⟩ ∈ jj_T := jw 777 (by decide +kernel) rfl
theorem ok_CU_enter : jj_okc y_CU_enter 0 := ⟨jw 784 (by decide +kernel) rfl, jw 147 (by decide +kernel) rfl, by decide, by decide, by decide +kernel, by decide⟩
theorem im_CU_enter : Cond.instanceMethod ⟨"SourceTree$Cursor", "enter", "()V"⟩ ∈ jj_T := jw 783 (by decide +kernel) rfl
theorem ok_CU_leave : jj_okc y_CU_leave 0 := ⟨jw 790 (by decide +kernel) rfl, jw 147 (by decide +kernel) rfl, by decide, by decide, by decide +kernel, by decide⟩
theorem im_CU_leave : Cond.instanceMethod ⟨"SourceTree$Cursor", "leave", "()V"⟩ ∈ jj_T := jw 789 (by decide +kernel) rfl
theorem ok_GR_rowOfSigns : jj_okc y_GR_rowOfSigns 0 := ⟨jw 794 (by decide +kernel) rfl, jw 148 (by decide +kernel) rfl, by decide, by decide, by decide +kernel, by decide⟩
theorem im_GR_rowOfSigns : Cond.instanceMethod ⟨"SourceTree$Grammar", "rowOfSigns", "()V"⟩ ∈ jj_T := jw 793 (by decide +kernel) rfl
theorem ok_GR_behindName : jj_okc y_GR_behindName 2 := ⟨jw 800 (by decide +kernel) rfl, jw 148 (by decide +kernel) rfl, by decide, by decide, by decide +kernel, by decide⟩
theorem im_GR_behindName : Cond.instanceMethod ⟨"SourceTree$Grammar", "behindName", "(IZ)V"⟩ ∈ jj_T := jw 799 (by decide +kernel) rfl
theorem ok_GR_operatorThatJoins : jj_okc y_GR_operatorThatJoins 1 := ⟨jw 804 (by decide +kernel) rfl, jw 148 (by decide +kernel) rfl, by decide, by decide, by decide +kernel, by decide⟩
theorem im_GR_operatorThatJoins : Cond.instanceMethod ⟨"SourceTree$Grammar", "operatorThatJoins", "(I)I"⟩ ∈ jj_T := jw 803 (by decide +kernel) rfl
theorem ok_GR_operatorOf : jj_okc y_GR_operatorOf 1 := ⟨jw 807 (by decide +kernel) rfl, jw 148 (by decide +kernel) rfl, by decide, by decide, by decide +kernel, by decide⟩
theorem st_GR_operatorOf : Cond.static ⟨"SourceTree$Grammar", "operatorOf", "(I)I"⟩ ∈ jj_T := jw 806 (by decide +kernel) rfl
theorem ok_GR_levelOf : jj_okc y_GR_levelOf 1 := ⟨jw 810 (by decide +kernel) rfl, jw 148 (by decide +kernel) rfl, by decide, by decide, by decide +kernel, by decide⟩
theorem st_GR_levelOf : Cond.static ⟨"SourceTree$Grammar", "levelOf", "(I)I"⟩ ∈ jj_T := jw 809 (by decide +kernel) rfl
theorem ok_GR_mayFollow : jj_okc y_GR_mayFollow 3 := ⟨jw 813 (by decide +kernel) rfl, jw 148 (by decide +kernel) rfl, by decide, by decide, by decide +kernel, by decide⟩
theorem st_GR_mayFollow : Cond.static ⟨"SourceTree$Grammar", "mayFollow", "(III)Z"⟩ ∈ jj_T := jw 812 (by decide +kernel) rfl
theorem ok_GR_tellPending : jj_okc y_GR_tellPending 2 := ⟨jw 817 (by decide +kernel) rfl, jw 148 (by decide +kernel) rfl, by decide, by decide, by decide +kernel, by decide⟩
theorem im_GR_tellPending : Cond.instanceMethod ⟨"SourceTree$Grammar", "tellPending", "(II)V"⟩ ∈ jj_T := jw 816 (by decide +kernel) rfl
theorem ok_GR_takeDirection : jj_okc y_GR_takeDirection 0 := ⟨jw 821 (by decide +kernel) rfl, jw 148 (by decide +kernel) rfl, by decide, by decide, by decide +kernel, by decide⟩
theorem im_GR_takeDirection : Cond.instanceMethod ⟨"SourceTree$Grammar", "takeDirection", "()Z"⟩ ∈ jj_T := jw 820 (by decide +kernel) rfl
theorem ok_GR_expressionBehind : jj_okc y_GR_expressionBehind 1 := ⟨jw 825 (by decide +kernel) rfl, jw 148 (by decide +kernel) rfl, by decide, by decide, by decide +kernel, by decide⟩
theorem im_GR_expressionBehind : Cond.instanceMethod ⟨"SourceTree$Grammar", "expressionBehind", "(I)V"⟩ ∈ jj_T := jw 824 (by decide +kernel) rfl
theorem ok_CU_tellNothing : jj_okc y_CU_tellNothing 0 := ⟨jw 831 (by decide +kernel) rfl, jw 147 (by decide +kernel) rfl, by decide, by decide, by decide +kernel, by decide⟩
theorem im_CU_tellNothing : Cond.instanceMethod ⟨"SourceTree$Cursor", "tellNothing", "()V"⟩ ∈ jj_T := jw 830 (by decide +kernel) rfl
theorem ok_GR_tellDeclared : jj_okc y_GR_tellDeclared 3 := ⟨jw 836 (by decide +kernel) rfl, jw 148 (by decide +kernel) rfl, by decide, by decide, by decide +kernel, by decide⟩
theorem im_GR_tellDeclared : Cond.instanceMethod ⟨"SourceTree$Grammar", "tellDeclared", "(III)I"⟩ ∈ jj_T := jw 835 (by decide +kernel) rfl
theorem ok_CU_tellAgain : jj_okc y_CU_tellAgain 2 := ⟨jw 842 (by decide +kernel) rfl, jw 147 (by decide +kernel) rfl, by decide, by decide, by decide +kernel, by decide⟩
theorem im_CU_tellAgain : Cond.instanceMethod ⟨"SourceTree$Cursor", "tellAgain", "(II)V"⟩ ∈ jj_T := jw 841 (by decide +kernel) rfl
theorem ok_GR_port : jj_okc y_GR_port 0 := ⟨jw 846 (by decide +kernel) rfl, jw 148 (by decide +kernel) rfl, by decide, by decide, by decide +kernel, by decide⟩
theorem im_GR_port : Cond.instanceMethod ⟨"SourceTree$Grammar", "port", "()I"⟩ ∈ jj_T := jw 845 (by decide +kernel) rfl
theorem ok_GR_declaration : jj_okc y_GR_declaration 0 := ⟨jw 850 (by decide +kernel) rfl, jw 148 (by decide +kernel) rfl, by decide, by decide, by decide +kernel, by decide⟩
theorem im_GR_declaration : Cond.instanceMethod ⟨"SourceTree$Grammar", "declaration", "()I"⟩ ∈ jj_T := jw 849 (by decide +kernel) rfl
theorem ok_GR_objects : jj_okc y_GR_objects 1 := ⟨jw 854 (by decide +kernel) rfl, jw 148 (by decide +kernel) rfl, by decide, by decide, by decide +kernel, by decide⟩
theorem im_GR_objects : Cond.instanceMethod ⟨"SourceTree$Grammar", "objects", "(I)I"⟩ ∈ jj_T := jw 853 (by decide +kernel) rfl
theorem ok_GR_typeDeclaration : jj_okc y_GR_typeDeclaration 0 := ⟨jw 858 (by decide +kernel) rfl, jw 148 (by decide +kernel) rfl, by decide, by decide, by decide +kernel, by decide⟩
theorem im_GR_typeDeclaration : Cond.instanceMethod ⟨"SourceTree$Grammar", "typeDeclaration", "()V"⟩ ∈ jj_T := jw 857 (by decide +kernel) rfl
theorem ok_GR_subtypeDeclaration : jj_okc y_GR_subtypeDeclaration 0 := ⟨jw 862 (by decide +kernel) rfl, jw 148 (by decide +kernel) rfl, by decide, by decide, by decide +kernel, by decide⟩
theorem im_GR_subtypeDeclaration : Cond.instanceMethod ⟨"SourceTree$Grammar", "subtypeDeclaration", "()V"⟩ ∈ jj_T := jw 861 (by decide +kernel) rfl
theorem ok_GR_concurrent : jj_okc y_GR_concurrent 0 := ⟨jw 866 (by decide +kernel) rfl, jw 148 (by decide +kernel) rfl, by decide, by decide, by decide +kernel, by decide⟩
theorem im_GR_concurrent : Cond.instanceMethod ⟨"SourceTree$Grammar", "concurrent", "()V"⟩ ∈ jj_T := jw 865 (by decide +kernel) rfl
theorem ok_GR_process : jj_okc y_GR_process 1 := ⟨jw 870 (by decide +kernel) rfl, jw 148 (by decide +kernel) rfl, by decide, by decide, by decide +kernel, by decide⟩
theorem im_GR_process : Cond.instanceMethod ⟨"SourceTree$Grammar", "process", "(I)V"⟩ ∈ jj_T := jw 869 (by decide +kernel) rfl
theorem ok_GR_concurrentAssignment : jj_okc y_GR_concurrentAssignment 1 := ⟨jw 874 (by decide +kernel) rfl, jw 148 (by decide +kernel) rfl, by decide, by decide, by decide +kernel, by decide⟩
theorem im_GR_concurrentAssignment : Cond.instanceMethod ⟨"SourceTree$Grammar", "concurrentAssignment", "(I)V"⟩ ∈ jj_T := jw 873 (by decide +kernel) rfl
theorem ok_GR_mode : jj_okc y_GR_mode 0 := ⟨jw 878 (by decide +kernel) rfl, jw 148 (by decide +kernel) rfl, by decide, by decide, by decide +kernel, by decide⟩
theorem im_GR_mode : Cond.instanceMethod ⟨"SourceTree$Grammar", "mode", "()I"⟩ ∈ jj_T := jw 877 (by decide +kernel) rfl
theorem ok_GR_instance : jj_okc y_GR_instance 1 := ⟨jw 882 (by decide +kernel) rfl, jw 148 (by decide +kernel) rfl, by decide, by decide, by decide +kernel, by decide⟩
theorem im_GR_instance : Cond.instanceMethod ⟨"SourceTree$Grammar", "instance", "(I)V"⟩ ∈ jj_T := jw 881 (by decide +kernel) rfl
theorem ok_GR_mapList : jj_okc y_GR_mapList 1 := ⟨jw 886 (by decide +kernel) rfl, jw 148 (by decide +kernel) rfl, by decide, by decide, by decide +kernel, by decide⟩
theorem im_GR_mapList : Cond.instanceMethod ⟨"SourceTree$Grammar", "mapList", "(I)V"⟩ ∈ jj_T := jw 885 (by decide +kernel) rfl
theorem ok_GR_generate : jj_okc y_GR_generate 1 := ⟨jw 890 (by decide +kernel) rfl, jw 148 (by decide +kernel) rfl, by decide, by decide, by decide +kernel, by decide⟩
theorem im_GR_generate : Cond.instanceMethod ⟨"SourceTree$Grammar", "generate", "(I)V"⟩ ∈ jj_T := jw 889 (by decide +kernel) rfl
theorem ok_GR_map : jj_okc y_GR_map 0 := ⟨jw 894 (by decide +kernel) rfl, jw 148 (by decide +kernel) rfl, by decide, by decide, by decide +kernel, by decide⟩
theorem im_GR_map : Cond.instanceMethod ⟨"SourceTree$Grammar", "map", "()V"⟩ ∈ jj_T := jw 893 (by decide +kernel) rfl
theorem ok_GR_statement : jj_okc y_GR_statement 0 := ⟨jw 898 (by decide +kernel) rfl, jw 148 (by decide +kernel) rfl, by decide, by decide, by decide +kernel, by decide⟩
theorem im_GR_statement : Cond.instanceMethod ⟨"SourceTree$Grammar", "statement", "()V"⟩ ∈ jj_T := jw 897 (by decide +kernel) rfl
theorem ok_GR_ifStatement : jj_okc y_GR_ifStatement 0 := ⟨jw 902 (by decide +kernel) rfl, jw 148 (by decide +kernel) rfl, by decide, by decide, by decide +kernel, by decide⟩
theorem im_GR_ifStatement : Cond.instanceMethod ⟨"SourceTree$Grammar", "ifStatement", "()V"⟩ ∈ jj_T := jw 901 (by decide +kernel) rfl
theorem ok_GR_caseStatement : jj_okc y_GR_caseStatement 0 := ⟨jw 906 (by decide +kernel) rfl, jw 148 (by decide +kernel) rfl, by decide, by decide, by decide +kernel, by decide⟩
theorem im_GR_caseStatement : Cond.instanceMethod ⟨"SourceTree$Grammar", "caseStatement", "()V"⟩ ∈ jj_T := jw 905 (by decide +kernel) rfl
theorem ok_GR_loopStatement : jj_okc y_GR_loopStatement 0 := ⟨jw 910 (by decide +kernel) rfl, jw 148 (by decide +kernel) rfl, by decide, by decide, by decide +kernel, by decide⟩
theorem im_GR_loopStatement : Cond.instanceMethod ⟨"SourceTree$Grammar", "loopStatement", "()V"⟩ ∈ jj_T := jw 909 (by decide +kernel) rfl
theorem ok_GR_leaveOrRepeat : jj_okc y_GR_leaveOrRepeat 1 := ⟨jw 914 (by decide +kernel) rfl, jw 148 (by decide +kernel) rfl, by decide, by decide, by decide +kernel, by decide⟩
theorem im_GR_leaveOrRepeat : Cond.instanceMethod ⟨"SourceTree$Grammar", "leaveOrRepeat", "(I)V"⟩ ∈ jj_T := jw 913 (by decide +kernel) rfl
theorem ok_GR_waitStatement : jj_okc y_GR_waitStatement 0 := ⟨jw 918 (by decide +kernel) rfl, jw 148 (by decide +kernel) rfl, by decide, by decide, by decide +kernel, by decide⟩
theorem im_GR_waitStatement : Cond.instanceMethod ⟨"SourceTree$Grammar", "waitStatement", "()V"⟩ ∈ jj_T := jw 917 (by decide +kernel) rfl
theorem ok_GR_timeBehind : jj_okc y_GR_timeBehind 1 := ⟨jw 922 (by decide +kernel) rfl, jw 148 (by decide +kernel) rfl, by decide, by decide, by decide +kernel, by decide⟩
theorem im_GR_timeBehind : Cond.instanceMethod ⟨"SourceTree$Grammar", "timeBehind", "(I)V"⟩ ∈ jj_T := jw 921 (by decide +kernel) rfl
theorem ok_GR_reportStatement : jj_okc y_GR_reportStatement 0 := ⟨jw 926 (by decide +kernel) rfl, jw 148 (by decide +kernel) rfl, by decide, by decide, by decide +kernel, by decide⟩
theorem im_GR_reportStatement : Cond.instanceMethod ⟨"SourceTree$Grammar", "reportStatement", "()V"⟩ ∈ jj_T := jw 925 (by decide +kernel) rfl
theorem ok_GR_assignment : jj_okc y_GR_assignment 0 := ⟨jw 930 (by decide +kernel) rfl, jw 148 (by decide +kernel) rfl, by decide, by decide, by decide +kernel, by decide⟩
theorem im_GR_assignment : Cond.instanceMethod ⟨"SourceTree$Grammar", "assignment", "()V"⟩ ∈ jj_T := jw 929 (by decide +kernel) rfl
theorem ok_GR_element : jj_okc y_GR_element 0 := ⟨jw 934 (by decide +kernel) rfl, jw 148 (by decide +kernel) rfl, by decide, by decide, by decide +kernel, by decide⟩
theorem im_GR_element : Cond.instanceMethod ⟨"SourceTree$Grammar", "element", "()V"⟩ ∈ jj_T := jw 933 (by decide +kernel) rfl
theorem ok_GR_time : jj_okc y_GR_time 0 := ⟨jw 938 (by decide +kernel) rfl, jw 148 (by decide +kernel) rfl, by decide, by decide, by decide +kernel, by decide⟩
theorem im_GR_time : Cond.instanceMethod ⟨"SourceTree$Grammar", "time", "()V"⟩ ∈ jj_T := jw 937 (by decide +kernel) rfl
theorem ok_GR_choice : jj_okc y_GR_choice 0 := ⟨jw 942 (by decide +kernel) rfl, jw 148 (by decide +kernel) rfl, by decide, by decide, by decide +kernel, by decide⟩
theorem im_GR_choice : Cond.instanceMethod ⟨"SourceTree$Grammar", "choice", "()V"⟩ ∈ jj_T := jw 941 (by decide +kernel) rfl
theorem ok_ST_place : jj_okc y_ST_place 0 := ⟨jw 947 (by decide +kernel) rfl, jw 135 (by decide +kernel) rfl, by decide, by decide, by decide +kernel, by decide⟩
theorem im_ST_place : Cond.instanceMethod ⟨"SourceTree", "place", "()I"⟩ ∈ jj_T := jw 945 (by decide +kernel) rfl
theorem ok_ST_nodes : jj_okc y_ST_nodes 0 := ⟨jw 951 (by decide +kernel) rfl, jw 135 (by decide +kernel) rfl, by decide, by decide, by decide +kernel, by decide⟩
theorem im_ST_nodes : Cond.instanceMethod ⟨"SourceTree", "nodes", "()I"⟩ ∈ jj_T := jw 949 (by decide +kernel) rfl
theorem ok_ST_names : jj_okc y_ST_names 0 := ⟨jw 956 (by decide +kernel) rfl, jw 135 (by decide +kernel) rfl, by decide, by decide, by decide +kernel, by decide⟩
theorem im_ST_names : Cond.instanceMethod ⟨"SourceTree", "names", "()I"⟩ ∈ jj_T := jw 954 (by decide +kernel) rfl
theorem ok_LW_text : jj_okc y_LW_text 5 := ⟨jw 960 (by decide +kernel) rfl, jw 134 (by decide +kernel) rfl, by decide, by decide, by decide +kernel, by decide⟩
theorem st_LW_text : Cond.static ⟨"SourceTreeLaw", "text", "(LSourceTree;IIII)I"⟩ ∈ jj_T := jw 959 (by decide +kernel) rfl
theorem ok_ST_text : jj_okc y_ST_text 4 := ⟨jw 965 (by decide +kernel) rfl, jw 135 (by decide +kernel) rfl, by decide, by decide, by decide +kernel, by decide⟩
theorem im_ST_text : Cond.instanceMethod ⟨"SourceTree", "text", "(IIII)V"⟩ ∈ jj_T := jw 963 (by decide +kernel) rfl
theorem ok_ST_addFour : jj_okc y_ST_addFour 1 := ⟨jw 971 (by decide +kernel) rfl, jw 135 (by decide +kernel) rfl, by decide, by decide, by decide +kernel, by decide⟩
theorem im_ST_addFour : Cond.instanceMethod ⟨"SourceTree", "addFour", "(I)V"⟩ ∈ jj_T := jw 970 (by decide +kernel) rfl
theorem ok_LW_cut : jj_okc y_LW_cut 2 := ⟨jw 975 (by decide +kernel) rfl, jw 134 (by decide +kernel) rfl, by decide, by decide, by decide +kernel, by decide⟩
theorem st_LW_cut : Cond.static ⟨"SourceTreeLaw", "cut", "(LSourceTree;I)I"⟩ ∈ jj_T := jw 974 (by decide +kernel) rfl
theorem ok_ST_cut : jj_okc y_ST_cut 1 := ⟨jw 980 (by decide +kernel) rfl, jw 135 (by decide +kernel) rfl, by decide, by decide, by decide +kernel, by decide⟩
theorem im_ST_cut : Cond.instanceMethod ⟨"SourceTree", "cut", "(I)V"⟩ ∈ jj_T := jw 978 (by decide +kernel) rfl
theorem ok_LW_node : jj_okc y_LW_node 4 := ⟨jw 1000 (by decide +kernel) rfl, jw 134 (by decide +kernel) rfl, by decide, by decide, by decide +kernel, by decide⟩
theorem st_LW_node : Cond.static ⟨"SourceTreeLaw", "node", "(LSourceTree;II[J)I"⟩ ∈ jj_T := jw 999 (by decide +kernel) rfl
theorem ok_ST_node : jj_okc y_ST_node 2 := ⟨jw 1005 (by decide +kernel) rfl, jw 135 (by decide +kernel) rfl, by decide, by decide, by decide +kernel, by decide⟩
theorem im_ST_node : Cond.instanceMethod ⟨"SourceTree", "node", "(II)I"⟩ ∈ jj_T := jw 1003 (by decide +kernel) rfl
theorem ok_LW_name : jj_okc y_LW_name 4 := ⟨jw 1026 (by decide +kernel) rfl, jw 134 (by decide +kernel) rfl, by decide, by decide, by decide +kernel, by decide⟩
theorem st_LW_name : Cond.static ⟨"SourceTreeLaw", "name", "(LSourceTree;II[J)I"⟩ ∈ jj_T := jw 1025 (by decide +kernel) rfl
theorem ok_ST_name : jj_okc y_ST_name 2 := ⟨jw 1030 (by decide +kernel) rfl, jw 135 (by decide +kernel) rfl, by decide, by decide, by decide +kernel, by decide⟩
theorem im_ST_name : Cond.instanceMethod ⟨"SourceTree", "name", "(II)I"⟩ ∈ jj_T := jw 1028 (by decide +kernel) rfl
theorem ok_SP_letterOf : jj_okc y_SP_letterOf 2 := ⟨jw 1035 (by decide +kernel) rfl, jw 137 (by decide +kernel) rfl, by decide, by decide, by decide +kernel, by decide⟩
theorem im_SP_letterOf : Cond.instanceMethod ⟨"SourceTree$Spellings", "letterOf", "(II)I"⟩ ∈ jj_T := jw 1033 (by decide +kernel) rfl
theorem se_IR_IR_add : Cond.selects "SourceTree$IntRow" ⟨"SourceTree$IntRow", "add", "(I)V"⟩ ⟨"SourceTree$IntRow", "add", "(I)V"⟩ ∈ jj_T := jw 189 (by decide +kernel) rfl
theorem se_SP_SP_reset : Cond.selects "SourceTree$Spellings" ⟨"SourceTree$Spellings", "reset", "()V"⟩ ⟨"SourceTree$Spellings", "reset", "()V"⟩ ∈ jj_T := jw 210 (by decide +kernel) rfl
theorem se_IR_IR_cutTo : Cond.selects "SourceTree$IntRow" ⟨"SourceTree$IntRow", "cutTo", "(I)V"⟩ ⟨"SourceTree$IntRow", "cutTo", "(I)V"⟩ ∈ jj_T := jw 214 (by decide +kernel) rfl
theorem se_IR_IR_put : Cond.selects "SourceTree$IntRow" ⟨"SourceTree$IntRow", "put", "(II)V"⟩ ⟨"SourceTree$IntRow", "put", "(II)V"⟩ ∈ jj_T := jw 218 (by decide +kernel) rfl
theorem se_JS_JS_length : Cond.selects "java/lang/String" ⟨"java/lang/String", "length", "()I"⟩ ⟨"java/lang/String", "length", "()I"⟩ ∈ jj_T := jw 227 (by decide +kernel) rfl
theorem se_JS_JS_coder : Cond.selects "java/lang/String" ⟨"java/lang/String", "coder", "()B"⟩ ⟨"java/lang/String", "coder", "()B"⟩ ∈ jj_T := jw 231 (by decide +kernel) rfl
theorem se_JS_JS_charAt : Cond.selects "java/lang/String" ⟨"java/lang/String", "charAt", "(I)C"⟩ ⟨"java/lang/String", "charAt", "(I)C"⟩ ∈ jj_T := jw 237 (by decide +kernel) rfl
theorem se_JS_JS_isLatin1 : Cond.selects "java/lang/String" ⟨"java/lang/String", "isLatin1", "()Z"⟩ ⟨"java/lang/String", "isLatin1", "()Z"⟩ ∈ jj_T := jw 241 (by decide +kernel) rfl
theorem se_SP_SP_settle : Cond.selects "SourceTree$Spellings" ⟨"SourceTree$Spellings", "settle", "()I"⟩ ⟨"SourceTree$Spellings", "settle", "()I"⟩ ∈ jj_T := jw 275 (by decide +kernel) rfl
theorem se_SP_SP_size : Cond.selects "SourceTree$Spellings" ⟨"SourceTree$Spellings", "size", "()I"⟩ ⟨"SourceTree$Spellings", "size", "()I"⟩ ∈ jj_T := jw 279 (by decide +kernel) rfl
theorem se_IR_IR_size : Cond.selects "SourceTree$IntRow" ⟨"SourceTree$IntRow", "size", "()I"⟩ ⟨"SourceTree$IntRow", "size", "()I"⟩ ∈ jj_T := jw 283 (by decide +kernel) rfl
theorem se_IR_IR_at : Cond.selects "SourceTree$IntRow" ⟨"SourceTree$IntRow", "at", "(I)I"⟩ ⟨"SourceTree$IntRow", "at", "(I)I"⟩ ∈ jj_T := jw 287 (by decide +kernel) rfl
theorem se_SP_SP_addLetter : Cond.selects "SourceTree$Spellings" ⟨"SourceTree$Spellings", "addLetter", "(I)V"⟩ ⟨"SourceTree$Spellings", "addLetter", "(I)V"⟩ ∈ jj_T := jw 295 (by decide +kernel) rfl
theorem se_ST_ST_length : Cond.selects "SourceTree" ⟨"SourceTree", "length", "()I"⟩ ⟨"SourceTree", "length", "()I"⟩ ∈ jj_T := jw 428 (by decide +kernel) rfl
theorem se_ST_ST_read : Cond.selects "SourceTree" ⟨"SourceTree", "read", "()I"⟩ ⟨"SourceTree", "read", "()I"⟩ ∈ jj_T := jw 433 (by decide +kernel) rfl
theorem se_TB_TB_clear : Cond.selects "SourceTree$Table" ⟨"SourceTree$Table", "clear", "()V"⟩ ⟨"SourceTree$Table", "clear", "()V"⟩ ∈ jj_T := jw 438 (by decide +kernel) rfl
theorem se_SC_SC_scan : Cond.selects "SourceTree$Scanner" ⟨"SourceTree$Scanner", "scan", "()V"⟩ ⟨"SourceTree$Scanner", "scan", "()V"⟩ ∈ jj_T := jw 442 (by decide +kernel) rfl
theorem se_TB_TB_add : Cond.selects "SourceTree$Table" ⟨"SourceTree$Table", "add", "(III)V"⟩ ⟨"SourceTree$Table", "add", "(III)V"⟩ ∈ jj_T := jw 458 (by decide +kernel) rfl
theorem se_JS_JS_indexOf : Cond.selects "java/lang/String" ⟨"java/lang/String", "indexOf", "(I)I"⟩ ⟨"java/lang/String", "indexOf", "(I)I"⟩ ∈ jj_T := jw 505 (by decide +kernel) rfl
theorem se_JS_JS_indexOf2 : Cond.selects "java/lang/String" ⟨"java/lang/String", "indexOf", "(II)I"⟩ ⟨"java/lang/String", "indexOf", "(II)I"⟩ ∈ jj_T := jw 509 (by decide +kernel) rfl
theorem se_GR_CU_begin_u : Cond.selects "SourceTree$Grammar" ⟨"SourceTree$Grammar", "begin", "()V"⟩ ⟨"SourceTree$Cursor", "begin", "()V"⟩ ∈ jj_T := jw 581 (by decide +kernel) rfl
theorem se_GR_CU_take : Cond.selects "SourceTree$Grammar" ⟨"SourceTree$Cursor", "take", "()V"⟩ ⟨"SourceTree$Cursor", "take", "()V"⟩ ∈ jj_T := jw 587 (by decide +kernel) rfl
theorem se_TB_TB_at : Cond.selects "SourceTree$Table" ⟨"SourceTree$Table", "at", "(II)I"⟩ ⟨"SourceTree$Table", "at", "(II)I"⟩ ∈ jj_T := jw 591 (by decide +kernel) rfl
theorem se_GR_CU_raise : Cond.selects "SourceTree$Grammar" ⟨"SourceTree$Cursor", "raise", "(I)V"⟩ ⟨"SourceTree$Cursor", "raise", "(I)V"⟩ ∈ jj_T := jw 596 (by decide +kernel) rfl
theorem se_GR_CU_tell_u : Cond.selects "SourceTree$Grammar" ⟨"SourceTree$Grammar", "tell", "(III)V"⟩ ⟨"SourceTree$Cursor", "tell", "(III)V"⟩ ∈ jj_T := jw 673 (by decide +kernel) rfl
theorem se_TB_TB_size : Cond.selects "SourceTree$Table" ⟨"SourceTree$Table", "size", "()I"⟩ ⟨"SourceTree$Table", "size", "()I"⟩ ∈ jj_T := jw 678 (by decide +kernel) rfl
theorem se_GR_CU_raise_u : Cond.selects "SourceTree$Grammar" ⟨"SourceTree$Grammar", "raise", "(I)V"⟩ ⟨"SourceTree$Cursor", "raise", "(I)V"⟩ ∈ jj_T := jw 684 (by decide +kernel) rfl
theorem se_GR_CU_expect_u : Cond.selects "SourceTree$Grammar" ⟨"SourceTree$Grammar", "expect", "(I)V"⟩ ⟨"SourceTree$Cursor", "expect", "(I)V"⟩ ∈ jj_T := jw 696 (by decide +kernel) rfl
theorem se_GR_CU_takeName_u : Cond.selects "SourceTree$Grammar" ⟨"SourceTree$Grammar", "takeName", "()I"⟩ ⟨"SourceTree$Cursor", "takeName", "()I"⟩ ∈ jj_T := jw 702 (by decide +kernel) rfl
theorem se_GR_CU_accept_u : Cond.selects "SourceTree$Grammar" ⟨"SourceTree$Grammar", "accept", "(I)Z"⟩ ⟨"SourceTree$Cursor", "accept", "(I)Z"⟩ ∈ jj_T := jw 712 (by decide +kernel) rfl
theorem se_GR_CU_take_u : Cond.selects "SourceTree$Grammar" ⟨"SourceTree$Grammar", "take", "()V"⟩ ⟨"SourceTree$Cursor", "take", "()V"⟩ ∈ jj_T := jw 722 (by decide +kernel) rfl
theorem se_GR_CU_told_u : Cond.selects "SourceTree$Grammar" ⟨"SourceTree$Grammar", "told", "()I"⟩ ⟨"SourceTree$Cursor", "told", "()I"⟩ ∈ jj_T := jw 755 (by decide +kernel) rfl
theorem se_GR_CU_enter_u : Cond.selects "SourceTree$Grammar" ⟨"SourceTree$Grammar", "enter", "()V"⟩ ⟨"SourceTree$Cursor", "enter", "()V"⟩ ∈ jj_T := jw 782 (by decide +kernel) rfl
theorem se_GR_CU_leave_u : Cond.selects "SourceTree$Grammar" ⟨"SourceTree$Grammar", "leave", "()V"⟩ ⟨"SourceTree$Cursor", "leave", "()V"⟩ ∈ jj_T := jw 788 (by decide +kernel) rfl
theorem se_GR_CU_tellNothing_u : Cond.selects "SourceTree$Grammar" ⟨"SourceTree$Grammar", "tellNothing", "()V"⟩ ⟨"SourceTree$Cursor", "tellNothing", "()V"⟩ ∈ jj_T := jw 829 (by decide +kernel) rfl
theorem se_GR_CU_tellAgain_u : Cond.selects "SourceTree$Grammar" ⟨"SourceTree$Grammar", "tellAgain", "(II)V"⟩ ⟨"SourceTree$Cursor", "tellAgain", "(II)V"⟩ ∈ jj_T := jw 840 (by decide +kernel) rfl
theorem se_ST_ST_place : Cond.selects "SourceTree" ⟨"SourceTree", "place", "()I"⟩ ⟨"SourceTree", "place", "()I"⟩ ∈ jj_T := jw 946 (by decide +kernel) rfl
theorem se_ST_ST_nodes : Cond.selects "SourceTree" ⟨"SourceTree", "nodes", "()I"⟩ ⟨"SourceTree", "nodes", "()I"⟩ ∈ jj_T := jw 950 (by decide +kernel) rfl
theorem se_ST_ST_names : Cond.selects "SourceTree" ⟨"SourceTree", "names", "()I"⟩ ⟨"SourceTree", "names", "()I"⟩ ∈ jj_T := jw 955 (by decide +kernel) rfl
theorem se_ST_ST_text : Cond.selects "SourceTree" ⟨"SourceTree", "text", "(IIII)V"⟩ ⟨"SourceTree", "text", "(IIII)V"⟩ ∈ jj_T := jw 964 (by decide +kernel) rfl
theorem se_ST_ST_cut : Cond.selects "SourceTree" ⟨"SourceTree", "cut", "(I)V"⟩ ⟨"SourceTree", "cut", "(I)V"⟩ ∈ jj_T := jw 979 (by decide +kernel) rfl
theorem se_ST_ST_node : Cond.selects "SourceTree" ⟨"SourceTree", "node", "(II)I"⟩ ⟨"SourceTree", "node", "(II)I"⟩ ∈ jj_T := jw 1004 (by decide +kernel) rfl
theorem se_ST_ST_name : Cond.selects "SourceTree" ⟨"SourceTree", "name", "(II)I"⟩ ⟨"SourceTree", "name", "(II)I"⟩ ∈ jj_T := jw 1029 (by decide +kernel) rfl
theorem se_SP_SP_letterOf : Cond.selects "SourceTree$Spellings" ⟨"SourceTree$Spellings", "letterOf", "(II)I"⟩ ⟨"SourceTree$Spellings", "letterOf", "(II)I"⟩ ∈ jj_T := jw 1034 (by decide +kernel) rfl
theorem se_GR_CU_tell : Cond.selects "SourceTree$Grammar" ⟨"SourceTree$Cursor", "tell", "(III)V"⟩ ⟨"SourceTree$Cursor", "tell", "(III)V"⟩ ∈ jj_T := jw 1508 (by decide +kernel) rfl
theorem se_SP_SP_addAll : Cond.selects "SourceTree$Spellings" ⟨"SourceTree$Spellings", "addAll", "(Ljava/lang/String;)V"⟩ ⟨"SourceTree$Spellings", "addAll", "(Ljava/lang/String;)V"⟩ ∈ jj_T := jw 0 (by decide +kernel) rfl
theorem se_SP_SP_isLast : Cond.selects "SourceTree$Spellings" ⟨"SourceTree$Spellings", "isLast", "(II)Z"⟩ ⟨"SourceTree$Spellings", "isLast", "(II)Z"⟩ ∈ jj_T := jw 1 (by decide +kernel) rfl
theorem se_SC_SC_behindBlanks : Cond.selects "SourceTree$Scanner" ⟨"SourceTree$Scanner", "behindBlanks", "(I)I"⟩ ⟨"SourceTree$Scanner", "behindBlanks", "(I)I"⟩ ∈ jj_T := jw 2 (by decide +kernel) rfl
theorem se_SC_SC_scanToken : Cond.selects "SourceTree$Scanner" ⟨"SourceTree$Scanner", "scanToken", "(I)I"⟩ ⟨"SourceTree$Scanner", "scanToken", "(I)I"⟩ ∈ jj_T := jw 3 (by decide +kernel) rfl
theorem se_SC_SC_scanName : Cond.selects "SourceTree$Scanner" ⟨"SourceTree$Scanner", "scanName", "(I)I"⟩ ⟨"SourceTree$Scanner", "scanName", "(I)I"⟩ ∈ jj_T := jw 4 (by decide +kernel) rfl
theorem se_SC_SC_goesOnName : Cond.selects "SourceTree$Scanner" ⟨"SourceTree$Scanner", "goesOnName", "(I)Z"⟩ ⟨"SourceTree$Scanner", "goesOnName", "(I)Z"⟩ ∈ jj_T := jw 5 (by decide +kernel) rfl
theorem se_SC_SC_endWith : Cond.selects "SourceTree$Scanner" ⟨"SourceTree$Scanner", "endWith", "(II)I"⟩ ⟨"SourceTree$Scanner", "endWith", "(II)I"⟩ ∈ jj_T := jw 6 (by decide +kernel) rfl
theorem se_SC_SC_scanNumber : Cond.selects "SourceTree$Scanner" ⟨"SourceTree$Scanner", "scanNumber", "(I)I"⟩ ⟨"SourceTree$Scanner", "scanNumber", "(I)I"⟩ ∈ jj_T := jw 7 (by decide +kernel) rfl
theorem se_SC_SC_scanRow : Cond.selects "SourceTree$Scanner" ⟨"SourceTree$Scanner", "scanRow", "(I)I"⟩ ⟨"SourceTree$Scanner", "scanRow", "(I)I"⟩ ∈ jj_T := jw 8 (by decide +kernel) rfl
theorem se_SC_SC_scanMark : Cond.selects "SourceTree$Scanner" ⟨"SourceTree$Scanner", "scanMark", "(I)I"⟩ ⟨"SourceTree$Scanner", "scanMark", "(I)I"⟩ ∈ jj_T := jw 9 (by decide +kernel) rfl
theorem se_GR_GR_one : Cond.selects "SourceTree$Grammar" ⟨"SourceTree$Grammar", "one", "(I)I"⟩ ⟨"SourceTree$Grammar", "one", "(I)I"⟩ ∈ jj_T := jw 10 (by decide +kernel) rfl
theorem se_GR_GR_wholeFile : Cond.selects "SourceTree$Grammar" ⟨"SourceTree$Grammar", "wholeFile", "()V"⟩ ⟨"SourceTree$Grammar", "wholeFile", "()V"⟩ ∈ jj_T := jw 11 (by decide +kernel) rfl
theorem se_GR_GR_canBegin : Cond.selects "SourceTree$Grammar" ⟨"SourceTree$Grammar", "canBegin", "(I)Z"⟩ ⟨"SourceTree$Grammar", "canBegin", "(I)Z"⟩ ∈ jj_T := jw 13 (by decide +kernel) rfl
theorem se_GR_GR_unitOrBody : Cond.selects "SourceTree$Grammar" ⟨"SourceTree$Grammar", "unitOrBody", "()V"⟩ ⟨"SourceTree$Grammar", "unitOrBody", "()V"⟩ ∈ jj_T := jw 14 (by decide +kernel) rfl
theorem se_GR_GR_body : Cond.selects "SourceTree$Grammar" ⟨"SourceTree$Grammar", "body", "()V"⟩ ⟨"SourceTree$Grammar", "body", "()V"⟩ ∈ jj_T := jw 15 (by decide +kernel) rfl
theorem se_GR_GR_listOfAny : Cond.selects "SourceTree$Grammar" ⟨"SourceTree$Grammar", "listOfAny", "(I)V"⟩ ⟨"SourceTree$Grammar", "listOfAny", "(I)V"⟩ ∈ jj_T := jw 16 (by decide +kernel) rfl
theorem se_GR_GR_nameBehindEnd : Cond.selects "SourceTree$Grammar" ⟨"SourceTree$Grammar", "nameBehindEnd", "(I)V"⟩ ⟨"SourceTree$Grammar", "nameBehindEnd", "(I)V"⟩ ∈ jj_T := jw 17 (by decide +kernel) rfl
theorem se_GR_GR_unit : Cond.selects "SourceTree$Grammar" ⟨"SourceTree$Grammar", "unit", "()V"⟩ ⟨"SourceTree$Grammar", "unit", "()V"⟩ ∈ jj_T := jw 18 (by decide +kernel) rfl
theorem se_GR_GR_interfaceList : Cond.selects "SourceTree$Grammar" ⟨"SourceTree$Grammar", "interfaceList", "(II)V"⟩ ⟨"SourceTree$Grammar", "interfaceList", "(II)V"⟩ ∈ jj_T := jw 19 (by decide +kernel) rfl
theorem se_GR_GR_listOfSome : Cond.selects "SourceTree$Grammar" ⟨"SourceTree$Grammar", "listOfSome", "(II)V"⟩ ⟨"SourceTree$Grammar", "listOfSome", "(II)V"⟩ ∈ jj_T := jw 20 (by decide +kernel) rfl
theorem se_GR_GR_oneOrMore : Cond.selects "SourceTree$Grammar" ⟨"SourceTree$Grammar", "oneOrMore", "(II)I"⟩ ⟨"SourceTree$Grammar", "oneOrMore", "(II)I"⟩ ∈ jj_T := jw 21 (by decide +kernel) rfl
theorem se_GR_GR_emptyList : Cond.selects "SourceTree$Grammar" ⟨"SourceTree$Grammar", "emptyList", "()V"⟩ ⟨"SourceTree$Grammar", "emptyList", "()V"⟩ ∈ jj_T := jw 22 (by decide +kernel) rfl
theorem se_GR_GR_generic : Cond.selects "SourceTree$Grammar" ⟨"SourceTree$Grammar", "generic", "()I"⟩ ⟨"SourceTree$Grammar", "generic", "()I"⟩ ∈ jj_T := jw 23 (by decide +kernel) rfl
theorem se_GR_GR_declaredNames : Cond.selects "SourceTree$Grammar" ⟨"SourceTree$Grammar", "declaredNames", "()V"⟩ ⟨"SourceTree$Grammar", "declaredNames", "()V"⟩ ∈ jj_T := jw 24 (by decide +kernel) rfl
theorem se_GR_GR_type : Cond.selects "SourceTree$Grammar" ⟨"SourceTree$Grammar", "type", "()V"⟩ ⟨"SourceTree$Grammar", "type", "()V"⟩ ∈ jj_T := jw 25 (by decide +kernel) rfl
theorem se_GR_GR_expression : Cond.selects "SourceTree$Grammar" ⟨"SourceTree$Grammar", "expression", "()V"⟩ ⟨"SourceTree$Grammar", "expression", "()V"⟩ ∈ jj_T := jw 26 (by decide +kernel) rfl
theorem se_GR_GR_signInFront : Cond.selects "SourceTree$Grammar" ⟨"SourceTree$Grammar", "signInFront", "()V"⟩ ⟨"SourceTree$Grammar", "signInFront", "()V"⟩ ∈ jj_T := jw 27 (by decide +kernel) rfl
theorem se_GR_GR_factor : Cond.selects "SourceTree$Grammar" ⟨"SourceTree$Grammar", "factor", "()V"⟩ ⟨"SourceTree$Grammar", "factor", "()V"⟩ ∈ jj_T := jw 28 (by decide +kernel) rfl
theorem se_GR_GR_primary : Cond.selects "SourceTree$Grammar" ⟨"SourceTree$Grammar", "primary", "()V"⟩ ⟨"SourceTree$Grammar", "primary", "()V"⟩ ∈ jj_T := jw 29 (by decide +kernel) rfl
theorem se_GR_GR_rowOfSigns : Cond.selects "SourceTree$Grammar" ⟨"SourceTree$Grammar", "rowOfSigns", "()V"⟩ ⟨"SourceTree$Grammar", "rowOfSigns", "()V"⟩ ∈ jj_T := jw 30 (by decide +kernel) rfl
theorem se_GR_GR_behindName : Cond.selects "SourceTree$Grammar" ⟨"SourceTree$Grammar", "behindName", "(IZ)V"⟩ ⟨"SourceTree$Grammar", "behindName", "(IZ)V"⟩ ∈ jj_T := jw 31 (by decide +kernel) rfl
theorem se_GR_GR_operatorThatJoins : Cond.selects "SourceTree$Grammar" ⟨"SourceTree$Grammar", "operatorThatJoins", "(I)I"⟩ ⟨"SourceTree$Grammar", "operatorThatJoins", "(I)I"⟩ ∈ jj_T := jw 32 (by decide +kernel) rfl
theorem se_GR_GR_tellPending : Cond.selects "SourceTree$Grammar" ⟨"SourceTree$Grammar", "tellPending", "(II)V"⟩ ⟨"SourceTree$Grammar", "tellPending", "(II)V"⟩ ∈ jj_T := jw 33 (by decide +kernel) rfl
theorem se_GR_GR_takeDirection : Cond.selects "SourceTree$Grammar" ⟨"SourceTree$Grammar", "takeDirection", "()Z"⟩ ⟨"SourceTree$Grammar", "takeDirection", "()Z"⟩ ∈ jj_T := jw 34 (by decide +kernel) rfl
theorem se_GR_GR_expressionBehind : Cond.selects "SourceTree$Grammar" ⟨"SourceTree$Grammar", "expressionBehind", "(I)V"⟩ ⟨"SourceTree$Grammar", "expressionBehind", "(I)V"⟩ ∈ jj_T := jw 35 (by decide +kernel) rfl
theorem se_GR_GR_tellDeclared : Cond.selects "SourceTree$Grammar" ⟨"SourceTree$Grammar", "tellDeclared", "(III)I"⟩ ⟨"SourceTree$Grammar", "tellDeclared", "(III)I"⟩ ∈ jj_T := jw 36 (by decide +kernel) rfl
theorem se_GR_GR_port : Cond.selects "SourceTree$Grammar" ⟨"SourceTree$Grammar", "port", "()I"⟩ ⟨"SourceTree$Grammar", "port", "()I"⟩ ∈ jj_T := jw 37 (by decide +kernel) rfl
theorem se_GR_GR_declaration : Cond.selects "SourceTree$Grammar" ⟨"SourceTree$Grammar", "declaration", "()I"⟩ ⟨"SourceTree$Grammar", "declaration", "()I"⟩ ∈ jj_T := jw 38 (by decide +kernel) rfl
theorem se_GR_GR_objects : Cond.selects "SourceTree$Grammar" ⟨"SourceTree$Grammar", "objects", "(I)I"⟩ ⟨"SourceTree$Grammar", "objects", "(I)I"⟩ ∈ jj_T := jw 39 (by decide +kernel) rfl
theorem se_GR_GR_typeDeclaration : Cond.selects "SourceTree$Grammar" ⟨"SourceTree$Grammar", "typeDeclaration", "()V"⟩ ⟨"SourceTree$Grammar", "typeDeclaration", "()V"⟩ ∈ jj_T := jw 40 (by decide +kernel) rfl
theorem se_GR_GR_subtypeDeclaration : Cond.selects "SourceTree$Grammar" ⟨"SourceTree$Grammar", "subtypeDeclaration", "()V"⟩ ⟨"SourceTree$Grammar", "subtypeDeclaration", "()V"⟩ ∈ jj_T := jw 41 (by decide +kernel) rfl
theorem se_GR_GR_concurrent : Cond.selects "SourceTree$Grammar" ⟨"SourceTree$Grammar", "concurrent", "()V"⟩ ⟨"SourceTree$Grammar", "concurrent", "()V"⟩ ∈ jj_T := jw 42 (by decide +kernel) rfl
theorem se_GR_GR_process : Cond.selects "SourceTree$Grammar" ⟨"SourceTree$Grammar", "process", "(I)V"⟩ ⟨"SourceTree$Grammar", "process", "(I)V"⟩ ∈ jj_T := jw 43 (by decide +kernel) rfl
theorem se_GR_GR_concurrentAssignment : Cond.selects "SourceTree$Grammar" ⟨"SourceTree$Grammar", "concurrentAssignment", "(I)V"⟩ ⟨"SourceTree$Grammar", "concurrentAssignment", "(I)V"⟩ ∈ jj_T := jw 44 (by decide +kernel) rfl
theorem se_GR_GR_mode : Cond.selects "SourceTree$Grammar" ⟨"SourceTree$Grammar", "mode", "()I"⟩ ⟨"SourceTree$Grammar", "mode", "()I"⟩ ∈ jj_T := jw 45 (by decide +kernel) rfl
theorem se_GR_GR_instance : Cond.selects "SourceTree$Grammar" ⟨"SourceTree$Grammar", "instance", "(I)V"⟩ ⟨"SourceTree$Grammar", "instance", "(I)V"⟩ ∈ jj_T := jw 46 (by decide +kernel) rfl
theorem se_GR_GR_mapList : Cond.selects "SourceTree$Grammar" ⟨"SourceTree$Grammar", "mapList", "(I)V"⟩ ⟨"SourceTree$Grammar", "mapList", "(I)V"⟩ ∈ jj_T := jw 47 (by decide +kernel) rfl
theorem se_GR_GR_generate : Cond.selects "SourceTree$Grammar" ⟨"SourceTree$Grammar", "generate", "(I)V"⟩ ⟨"SourceTree$Grammar", "generate", "(I)V"⟩ ∈ jj_T := jw 48 (by decide +kernel) rfl
theorem se_GR_GR_map : Cond.selects "SourceTree$Grammar" ⟨"SourceTree$Grammar", "map", "()V"⟩ ⟨"SourceTree$Grammar", "map", "()V"⟩ ∈ jj_T := jw 49 (by decide +kernel) rfl
theorem se_GR_GR_statement : Cond.selects "SourceTree$Grammar" ⟨"SourceTree$Grammar", "statement", "()V"⟩ ⟨"SourceTree$Grammar", "statement", "()V"⟩ ∈ jj_T := jw 50 (by decide +kernel) rfl
theorem se_GR_GR_ifStatement : Cond.selects "SourceTree$Grammar" ⟨"SourceTree$Grammar", "ifStatement", "()V"⟩ ⟨"SourceTree$Grammar", "ifStatement", "()V"⟩ ∈ jj_T := jw 51 (by decide +kernel) rfl
theorem se_GR_GR_caseStatement : Cond.selects "SourceTree$Grammar" ⟨"SourceTree$Grammar", "caseStatement", "()V"⟩ ⟨"SourceTree$Grammar", "caseStatement", "()V"⟩ ∈ jj_T := jw 52 (by decide +kernel) rfl
theorem se_GR_GR_loopStatement : Cond.selects "SourceTree$Grammar" ⟨"SourceTree$Grammar", "loopStatement", "()V"⟩ ⟨"SourceTree$Grammar", "loopStatement", "()V"⟩ ∈ jj_T := jw 53 (by decide +kernel) rfl
theorem se_GR_GR_leaveOrRepeat : Cond.selects "SourceTree$Grammar" ⟨"SourceTree$Grammar", "leaveOrRepeat", "(I)V"⟩ ⟨"SourceTree$Grammar", "leaveOrRepeat", "(I)V"⟩ ∈ jj_T := jw 54 (by decide +kernel) rfl
theorem se_GR_GR_waitStatement : Cond.selects "SourceTree$Grammar" ⟨"SourceTree$Grammar", "waitStatement", "()V"⟩ ⟨"SourceTree$Grammar", "waitStatement", "()V"⟩ ∈ jj_T := jw 55 (by decide +kernel) rfl
theorem se_GR_GR_timeBehind : Cond.selects "SourceTree$Grammar" ⟨"SourceTree$Grammar", "timeBehind", "(I)V"⟩ ⟨"SourceTree$Grammar", "timeBehind", "(I)V"⟩ ∈ jj_T := jw 56 (by decide +kernel) rfl
theorem se_GR_GR_reportStatement : Cond.selects "SourceTree$Grammar" ⟨"SourceTree$Grammar", "reportStatement", "()V"⟩ ⟨"SourceTree$Grammar", "reportStatement", "()V"⟩ ∈ jj_T := jw 57 (by decide +kernel) rfl
theorem se_GR_GR_assignment : Cond.selects "SourceTree$Grammar" ⟨"SourceTree$Grammar", "assignment", "()V"⟩ ⟨"SourceTree$Grammar", "assignment", "()V"⟩ ∈ jj_T := jw 58 (by decide +kernel) rfl
theorem se_GR_GR_element : Cond.selects "SourceTree$Grammar" ⟨"SourceTree$Grammar", "element", "()V"⟩ ⟨"SourceTree$Grammar", "element", "()V"⟩ ∈ jj_T := jw 59 (by decide +kernel) rfl
theorem se_GR_GR_time : Cond.selects "SourceTree$Grammar" ⟨"SourceTree$Grammar", "time", "()V"⟩ ⟨"SourceTree$Grammar", "time", "()V"⟩ ∈ jj_T := jw 60 (by decide +kernel) rfl
theorem se_GR_GR_choice : Cond.selects "SourceTree$Grammar" ⟨"SourceTree$Grammar", "choice", "()V"⟩ ⟨"SourceTree$Grammar", "choice", "()V"⟩ ∈ jj_T := jw 61 (by decide +kernel) rfl
theorem se_ST_ST_addFour : Cond.selects "SourceTree" ⟨"SourceTree", "addFour", "(I)V"⟩ ⟨"SourceTree", "addFour", "(I)V"⟩ ∈ jj_T := jw 62 (by decide +kernel) rfl
theorem ml_LW_30 : Cond.methodLink "SourceTreeLaw" 30 ⟨"SourceTree", "<init>", "()V"⟩ ∈ jj_T := jw 159 (by decide +kernel) rfl
theorem ml_ST_3 : Cond.methodLink "SourceTree" 3 ⟨"java/lang/Object", "<init>", "()V"⟩ ∈ jj_T := jw 162 (by decide +kernel) rfl
theorem ml_ST_11 : Cond.methodLink "SourceTree" 11 ⟨"SourceTree$IntRow", "<init>", "(I)V"⟩ ∈ jj_T := jw 167 (by decide +kernel) rfl
theorem ml_IR_3 : Cond.methodLink "SourceTree$IntRow" 3 ⟨"java/lang/Object", "<init>", "()V"⟩ ∈ jj_T := jw 170 (by decide +kernel) rfl
theorem ml_ST_20 : Cond.methodLink "SourceTree" 20 ⟨"SourceTree$Spellings", "<init>", "()V"⟩ ∈ jj_T := jw 181 (by decide +kernel) rfl
theorem ml_SP_3 : Cond.methodLink "SourceTree$Spellings" 3 ⟨"java/lang/Object", "<init>", "()V"⟩ ∈ jj_T := jw 184 (by decide +kernel) rfl
theorem ml_SP_11 : Cond.methodLink "SourceTree$Spellings" 11 ⟨"SourceTree$IntRow", "<init>", "(I)V"⟩ ∈ jj_T := jw 186 (by decide +kernel) rfl
theorem ml_SP_29 : Cond.methodLink "SourceTree$Spellings" 29 ⟨"SourceTree$IntRow", "add", "(I)V"⟩ ∈ jj_T := jw 187 (by decide +kernel) rfl
theorem ml_IR_20 : Cond.methodLink "SourceTree$IntRow" 20 ⟨"java/util/Arrays", "copyOf", "([II)[I"⟩ ∈ jj_T := jw 192 (by decide +kernel) rfl
theorem ml_JA_316 : Cond.methodLink "java/util/Arrays" 316 ⟨"[I", "clone", "()Ljava/lang/Object;"⟩ ∈ jj_T := jw 195 (by decide +kernel) rfl
theorem ml_JA_304 : Cond.methodLink "java/util/Arrays" 304 ⟨"java/lang/Math", "min", "(II)I"⟩ ∈ jj_T := jw 202 (by decide +kernel) rfl
theorem ml_JA_150 : Cond.methodLink "java/util/Arrays" 150 ⟨"java/lang/System", "arraycopy", "(Ljava/lang/Object;ILjava/lang/Object;II)V"⟩ ∈ jj_T := jw 205 (by decide +kernel) rfl
theorem ml_SP_32 : Cond.methodLink "SourceTree$Spellings" 32 ⟨"SourceTree$Spellings", "reset", "()V"⟩ ∈ jj_T := jw 208 (by decide +kernel) rfl
theorem ml_SP_35 : Cond.methodLink "SourceTree$Spellings" 35 ⟨"SourceTree$IntRow", "cutTo", "(I)V"⟩ ∈ jj_T := jw 212 (by decide +kernel) rfl
theorem ml_SP_42 : Cond.methodLink "SourceTree$Spellings" 42 ⟨"SourceTree$IntRow", "put", "(II)V"⟩ ∈ jj_T := jw 216 (by decide +kernel) rfl
theorem ml_SP_48 : Cond.methodLink "SourceTree$Spellings" 48 ⟨"SourceTree$Spellings", "addAll", "(Ljava/lang/String;)V"⟩ ∈ jj_T := jw 221 (by decide +kernel) rfl
theorem ml_SP_71 : Cond.methodLink "SourceTree$Spellings" 71 ⟨"java/lang/String", "length", "()I"⟩ ∈ jj_T := jw 225 (by decide +kernel) rfl
theorem ml_JS_335 : Cond.methodLink "java/lang/String" 335 ⟨"java/lang/String", "coder", "()B"⟩ ∈ jj_T := jw 229 (by decide +kernel) rfl
theorem ml_SP_76 : Cond.methodLink "SourceTree$Spellings" 76 ⟨"java/lang/String", "charAt", "(I)C"⟩ ∈ jj_T := jw 235 (by decide +kernel) rfl
theorem ml_JS_492 : Cond.methodLink "java/lang/String" 492 ⟨"java/lang/String", "isLatin1", "()Z"⟩ ∈ jj_T := jw 239 (by decide +kernel) rfl
theorem ml_JS_495 : Cond.methodLink "java/lang/String" 495 ⟨"java/lang/StringLatin1", "charAt", "([BI)C"⟩ ∈ jj_T := jw 243 (by decide +kernel) rfl
theorem ml_JL_9 : Cond.methodLink "java/lang/StringLatin1" 9 ⟨"java/lang/String", "checkIndex", "(II)V"⟩ ∈ jj_T := jw 246 (by decide +kernel) rfl
theorem ml_JS_1059 : Cond.methodLink "java/lang/String" 1059 ⟨"jdk/internal/util/Preconditions", "checkIndex", "(IILjava/util/function/BiFunction;)I"⟩ ∈ jj_T := jw 251 (by decide +kernel) rfl
theorem ml_JS_498 : Cond.methodLink "java/lang/String" 498 ⟨"java/lang/StringUTF16", "charAt", "([BI)C"⟩ ∈ jj_T := jw 254 (by decide +kernel) rfl
theorem ml_SP_80 : Cond.methodLink "SourceTree$Spellings" 80 ⟨"SourceTree$Spellings", "settle", "()I"⟩ ∈ jj_T := jw 273 (by decide +kernel) rfl
theorem ml_SP_66 : Cond.methodLink "SourceTree$Spellings" 66 ⟨"SourceTree$Spellings", "size", "()I"⟩ ∈ jj_T := jw 277 (by decide +kernel) rfl
theorem ml_SP_58 : Cond.methodLink "SourceTree$Spellings" 58 ⟨"SourceTree$IntRow", "size", "()I"⟩ ∈ jj_T := jw 281 (by decide +kernel) rfl
theorem ml_SP_62 : Cond.methodLink "SourceTree$Spellings" 62 ⟨"SourceTree$IntRow", "at", "(I)I"⟩ ∈ jj_T := jw 285 (by decide +kernel) rfl
theorem ml_SP_67 : Cond.methodLink "SourceTree$Spellings" 67 ⟨"SourceTree$Spellings", "isLast", "(II)Z"⟩ ∈ jj_T := jw 289 (by decide +kernel) rfl
theorem ml_SP_83 : Cond.methodLink "SourceTree$Spellings" 83 ⟨"SourceTree$Spellings", "addLetter", "(I)V"⟩ ∈ jj_T := jw 293 (by decide +kernel) rfl
theorem ml_ST_27 : Cond.methodLink "SourceTree" 27 ⟨"SourceTree$Table", "<init>", "()V"⟩ ∈ jj_T := jw 319 (by decide +kernel) rfl
theorem ml_TB_3 : Cond.methodLink "SourceTree$Table" 3 ⟨"java/lang/Object", "<init>", "()V"⟩ ∈ jj_T := jw 322 (by decide +kernel) rfl
theorem ml_ST_34 : Cond.methodLink "SourceTree" 34 ⟨"SourceTree$Scanner", "<init>", "(LSourceTree$IntRow;LSourceTree$Spellings;LSourceTree$Table;)V"⟩ ∈ jj_T := jw 332 (by decide +kernel) rfl
theorem ml_SC_3 : Cond.methodLink "SourceTree$Scanner" 3 ⟨"java/lang/Object", "<init>", "()V"⟩ ∈ jj_T := jw 335 (by decide +kernel) rfl
theorem ml_ST_43 : Cond.methodLink "SourceTree" 43 ⟨"SourceTree$Grammar", "<init>", "(LSourceTree$IntRow;LSourceTree$Table;LSourceTree$Table;)V"⟩ ∈ jj_T := jw 351 (by decide +kernel) rfl
theorem ml_GR_3 : Cond.methodLink "SourceTree$Grammar" 3 ⟨"SourceTree$Cursor", "<init>", "(LSourceTree$Table;LSourceTree$Table;)V"⟩ ∈ jj_T := jw 354 (by decide +kernel) rfl
theorem ml_CU_3 : Cond.methodLink "SourceTree$Cursor" 3 ⟨"java/lang/Object", "<init>", "()V"⟩ ∈ jj_T := jw 357 (by decide +kernel) rfl
theorem ml_GR_17 : Cond.methodLink "SourceTree$Grammar" 17 ⟨"SourceTree$IntRow", "<init>", "(I)V"⟩ ∈ jj_T := jw 359 (by decide +kernel) rfl
theorem ml_LW_44 : Cond.methodLink "SourceTreeLaw" 44 ⟨"SourceTree", "length", "()I"⟩ ∈ jj_T := jw 426 (by decide +kernel) rfl
theorem ml_ST_54 : Cond.methodLink "SourceTree" 54 ⟨"SourceTree$IntRow", "size", "()I"⟩ ∈ jj_T := jw 430 (by decide +kernel) rfl
theorem ml_LW_49 : Cond.methodLink "SourceTreeLaw" 49 ⟨"SourceTree", "read", "()I"⟩ ∈ jj_T := jw 431 (by decide +kernel) rfl
theorem ml_ST_76 : Cond.methodLink "SourceTree" 76 ⟨"SourceTree$Table", "clear", "()V"⟩ ∈ jj_T := jw 436 (by decide +kernel) rfl
theorem ml_ST_79 : Cond.methodLink "SourceTree" 79 ⟨"SourceTree$Scanner", "scan", "()V"⟩ ∈ jj_T := jw 440 (by decide +kernel) rfl
theorem ml_SC_27 : Cond.methodLink "SourceTree$Scanner" 27 ⟨"SourceTree$Table", "clear", "()V"⟩ ∈ jj_T := jw 444 (by decide +kernel) rfl
theorem ml_SC_32 : Cond.methodLink "SourceTree$Scanner" 32 ⟨"SourceTree$Spellings", "reset", "()V"⟩ ∈ jj_T := jw 445 (by decide +kernel) rfl
theorem ml_SC_37 : Cond.methodLink "SourceTree$Scanner" 37 ⟨"SourceTree$Scanner", "behindBlanks", "(I)I"⟩ ∈ jj_T := jw 446 (by decide +kernel) rfl
theorem ml_SC_44 : Cond.methodLink "SourceTree$Scanner" 44 ⟨"SourceTree$IntRow", "size", "()I"⟩ ∈ jj_T := jw 450 (by decide +kernel) rfl
theorem ml_SC_50 : Cond.methodLink "SourceTree$Scanner" 50 ⟨"SourceTree$IntRow", "at", "(I)I"⟩ ∈ jj_T := jw 451 (by decide +kernel) rfl
theorem ml_SC_41 : Cond.methodLink "SourceTree$Scanner" 41 ⟨"SourceTree$Scanner", "scanToken", "(I)I"⟩ ∈ jj_T := jw 452 (by decide +kernel) rfl
theorem ml_SC_53 : Cond.methodLink "SourceTree$Scanner" 53 ⟨"SourceTree$Table", "add", "(III)V"⟩ ∈ jj_T := jw 456 (by decide +kernel) rfl
theorem ml_TB_19 : Cond.methodLink "SourceTree$Table" 19 ⟨"java/util/Arrays", "copyOf", "([II)[I"⟩ ∈ jj_T := jw 460 (by decide +kernel) rfl
theorem ml_SC_61 : Cond.methodLink "SourceTree$Scanner" 61 ⟨"SourceTree$Scanner", "scanName", "(I)I"⟩ ∈ jj_T := jw 464 (by decide +kernel) rfl
theorem ml_SC_79 : Cond.methodLink "SourceTree$Scanner" 79 ⟨"SourceTree$Scanner", "goesOnName", "(I)Z"⟩ ∈ jj_T := jw 468 (by decide +kernel) rfl
theorem ml_SC_85 : Cond.methodLink "SourceTree$Scanner" 85 ⟨"SourceTree$Spellings", "addLetter", "(I)V"⟩ ∈ jj_T := jw 478 (by decide +kernel) rfl
theorem ml_SC_89 : Cond.methodLink "SourceTree$Scanner" 89 ⟨"SourceTree$Spellings", "settle", "()I"⟩ ∈ jj_T := jw 479 (by decide +kernel) rfl
theorem ml_SC_92 : Cond.methodLink "SourceTree$Scanner" 92 ⟨"SourceTree$Scanner", "endWith", "(II)I"⟩ ∈ jj_T := jw 480 (by decide +kernel) rfl
theorem ml_SC_67 : Cond.methodLink "SourceTree$Scanner" 67 ⟨"SourceTree$Scanner", "scanNumber", "(I)I"⟩ ∈ jj_T := jw 484 (by decide +kernel) rfl
theorem ml_SC_100 : Cond.methodLink "SourceTree$Scanner" 100 ⟨"java/lang/Math", "min", "(JJ)J"⟩ ∈ jj_T := jw 490 (by decide +kernel) rfl
theorem ml_SC_70 : Cond.methodLink "SourceTree$Scanner" 70 ⟨"SourceTree$Scanner", "scanRow", "(I)I"⟩ ∈ jj_T := jw 494 (by decide +kernel) rfl
theorem ml_ST_116 : Cond.methodLink "SourceTree" 116 ⟨"SourceTree", "small", "(I)I"⟩ ∈ jj_T := jw 502 (by decide +kernel) rfl
theorem ml_ST_119 : Cond.methodLink "SourceTree" 119 ⟨"java/lang/String", "indexOf", "(I)I"⟩ ∈ jj_T := jw 503 (by decide +kernel) rfl
theorem ml_JS_633 : Cond.methodLink "java/lang/String" 633 ⟨"java/lang/String", "indexOf", "(II)I"⟩ ∈ jj_T := jw 507 (by decide +kernel) rfl
theorem ml_JS_505 : Cond.methodLink "java/lang/String" 505 ⟨"java/lang/String", "length", "()I"⟩ ∈ jj_T := jw 511 (by decide +kernel) rfl
theorem ml_JS_637 : Cond.methodLink "java/lang/String" 637 ⟨"java/lang/StringLatin1", "indexOf", "([BIII)I"⟩ ∈ jj_T := jw 512 (by decide +kernel) rfl
theorem ml_JL_88 : Cond.methodLink "java/lang/StringLatin1" 88 ⟨"java/lang/StringLatin1", "canEncode", "(I)Z"⟩ ∈ jj_T := jw 515 (by decide +kernel) rfl
theorem ml_JL_92 : Cond.methodLink "java/lang/StringLatin1" 92 ⟨"java/lang/Math", "max", "(II)I"⟩ ∈ jj_T := jw 518 (by decide +kernel) rfl
theorem ml_JL_38 : Cond.methodLink "java/lang/StringLatin1" 38 ⟨"java/lang/Math", "min", "(II)I"⟩ ∈ jj_T := jw 521 (by decide +kernel) rfl
theorem ml_JL_95 : Cond.methodLink "java/lang/StringLatin1" 95 ⟨"java/lang/StringLatin1", "indexOfChar", "([BIII)I"⟩ ∈ jj_T := jw 522 (by decide +kernel) rfl
theorem ml_JS_640 : Cond.methodLink "java/lang/String" 640 ⟨"java/lang/StringUTF16", "indexOf", "([BIII)I"⟩ ∈ jj_T := jw 525 (by decide +kernel) rfl
theorem ml_JS_1062 : Cond.methodLink "java/lang/String" 1062 ⟨"jdk/internal/util/Preconditions", "checkFromToIndex", "(IIILjava/util/function/BiFunction;)I"⟩ ∈ jj_T := jw 540 (by decide +kernel) rfl
theorem ml_SC_76 : Cond.methodLink "SourceTree$Scanner" 76 ⟨"SourceTree$Scanner", "scanMark", "(I)I"⟩ ∈ jj_T := jw 560 (by decide +kernel) rfl
theorem ml_SC_108 : Cond.methodLink "SourceTree$Scanner" 108 ⟨"SourceTree$Scanner", "pairOf", "(II)I"⟩ ∈ jj_T := jw 564 (by decide +kernel) rfl
theorem ml_SC_113 : Cond.methodLink "SourceTree$Scanner" 113 ⟨"java/lang/String", "indexOf", "(I)I"⟩ ∈ jj_T := jw 568 (by decide +kernel) rfl
theorem ml_GR_26 : Cond.methodLink "SourceTree$Grammar" 26 ⟨"SourceTree$Grammar", "wholeFile", "()V"⟩ ∈ jj_T := jw 573 (by decide +kernel) rfl
theorem ml_GR_87 : Cond.methodLink "SourceTree$Grammar" 87 ⟨"SourceTree$IntRow", "cutTo", "(I)V"⟩ ∈ jj_T := jw 577 (by decide +kernel) rfl
theorem ml_GR_90 : Cond.methodLink "SourceTree$Grammar" 90 ⟨"SourceTree$Grammar", "begin", "()V"⟩ ∈ jj_T := jw 578 (by decide +kernel) rfl
theorem ml_CU_40 : Cond.methodLink "SourceTree$Cursor" 40 ⟨"SourceTree$Cursor", "take", "()V"⟩ ∈ jj_T := jw 584 (by decide +kernel) rfl
theorem ml_CU_43 : Cond.methodLink "SourceTree$Cursor" 43 ⟨"SourceTree$Table", "at", "(II)I"⟩ ∈ jj_T := jw 589 (by decide +kernel) rfl
theorem ml_CU_49 : Cond.methodLink "SourceTree$Cursor" 49 ⟨"SourceTree$Cursor", "raise", "(I)V"⟩ ∈ jj_T := jw 593 (by decide +kernel) rfl
theorem ml_CU_68 : Cond.methodLink "SourceTree$Cursor" 68 ⟨"java/lang/IllegalStateException", "<init>", "(Ljava/lang/String;)V"⟩ ∈ jj_T := jw 640 (by decide +kernel) rfl
theorem ml_GR_76 : Cond.methodLink "SourceTree$Grammar" 76 ⟨"SourceTree$Grammar", "one", "(I)I"⟩ ∈ jj_T := jw 665 (by decide +kernel) rfl
theorem ml_GR_72 : Cond.methodLink "SourceTree$Grammar" 72 ⟨"SourceTree$Grammar", "canBegin", "(I)Z"⟩ ∈ jj_T := jw 666 (by decide +kernel) rfl
theorem ml_GR_64 : Cond.methodLink "SourceTree$Grammar" 64 ⟨"SourceTree$Grammar", "tell", "(III)V"⟩ ∈ jj_T := jw 670 (by decide +kernel) rfl
theorem ml_CU_53 : Cond.methodLink "SourceTree$Cursor" 53 ⟨"SourceTree$Table", "size", "()I"⟩ ∈ jj_T := jw 676 (by decide +kernel) rfl
theorem ml_CU_57 : Cond.methodLink "SourceTree$Cursor" 57 ⟨"SourceTree$Table", "add", "(III)V"⟩ ∈ jj_T := jw 680 (by decide +kernel) rfl
theorem ml_GR_93 : Cond.methodLink "SourceTree$Grammar" 93 ⟨"SourceTree$Grammar", "raise", "(I)V"⟩ ∈ jj_T := jw 681 (by decide +kernel) rfl
theorem ml_GR_30 : Cond.methodLink "SourceTree$Grammar" 30 ⟨"SourceTree$Grammar", "unitOrBody", "()V"⟩ ∈ jj_T := jw 685 (by decide +kernel) rfl
theorem ml_GR_96 : Cond.methodLink "SourceTree$Grammar" 96 ⟨"SourceTree$Grammar", "body", "()V"⟩ ∈ jj_T := jw 689 (by decide +kernel) rfl
theorem ml_GR_102 : Cond.methodLink "SourceTree$Grammar" 102 ⟨"SourceTree$Grammar", "expect", "(I)V"⟩ ∈ jj_T := jw 693 (by decide +kernel) rfl
theorem ml_GR_61 : Cond.methodLink "SourceTree$Grammar" 61 ⟨"SourceTree$Grammar", "takeName", "()I"⟩ ∈ jj_T := jw 699 (by decide +kernel) rfl
theorem ml_GR_159 : Cond.methodLink "SourceTree$Grammar" 159 ⟨"SourceTree$Grammar", "listOfAny", "(I)V"⟩ ∈ jj_T := jw 705 (by decide +kernel) rfl
theorem ml_GR_80 : Cond.methodLink "SourceTree$Grammar" 80 ⟨"SourceTree$Grammar", "accept", "(I)Z"⟩ ∈ jj_T := jw 709 (by decide +kernel) rfl
theorem ml_GR_109 : Cond.methodLink "SourceTree$Grammar" 109 ⟨"SourceTree$Grammar", "nameBehindEnd", "(I)V"⟩ ∈ jj_T := jw 715 (by decide +kernel) rfl
theorem ml_GR_134 : Cond.methodLink "SourceTree$Grammar" 134 ⟨"SourceTree$Grammar", "take", "()V"⟩ ∈ jj_T := jw 719 (by decide +kernel) rfl
theorem ml_GR_99 : Cond.methodLink "SourceTree$Grammar" 99 ⟨"SourceTree$Grammar", "unit", "()V"⟩ ∈ jj_T := jw 723 (by decide +kernel) rfl
theorem ml_GR_105 : Cond.methodLink "SourceTree$Grammar" 105 ⟨"SourceTree$Grammar", "interfaceList", "(II)V"⟩ ∈ jj_T := jw 727 (by decide +kernel) rfl
theorem ml_GR_112 : Cond.methodLink "SourceTree$Grammar" 112 ⟨"SourceTree$Grammar", "listOfSome", "(II)V"⟩ ∈ jj_T := jw 731 (by decide +kernel) rfl
theorem ml_GR_83 : Cond.methodLink "SourceTree$Grammar" 83 ⟨"SourceTree$Grammar", "oneOrMore", "(II)I"⟩ ∈ jj_T := jw 735 (by decide +kernel) rfl
theorem ml_GR_115 : Cond.methodLink "SourceTree$Grammar" 115 ⟨"SourceTree$Grammar", "emptyList", "()V"⟩ ∈ jj_T := jw 739 (by decide +kernel) rfl
theorem ml_GR_33 : Cond.methodLink "SourceTree$Grammar" 33 ⟨"SourceTree$Grammar", "generic", "()I"⟩ ∈ jj_T := jw 743 (by decide +kernel) rfl
theorem ml_GR_118 : Cond.methodLink "SourceTree$Grammar" 118 ⟨"SourceTree$Grammar", "declaredNames", "()V"⟩ ∈ jj_T := jw 747 (by decide +kernel) rfl
theorem ml_GR_137 : Cond.methodLink "SourceTree$Grammar" 137 ⟨"SourceTree$IntRow", "add", "(I)V"⟩ ∈ jj_T := jw 751 (by decide +kernel) rfl
theorem ml_GR_121 : Cond.methodLink "SourceTree$Grammar" 121 ⟨"SourceTree$Grammar", "told", "()I"⟩ ∈ jj_T := jw 752 (by decide +kernel) rfl
theorem ml_GR_124 : Cond.methodLink "SourceTree$Grammar" 124 ⟨"SourceTree$Grammar", "type", "()V"⟩ ∈ jj_T := jw 758 (by decide +kernel) rfl
theorem ml_GR_149 : Cond.methodLink "SourceTree$Grammar" 149 ⟨"SourceTree$Grammar", "expression", "()V"⟩ ∈ jj_T := jw 762 (by decide +kernel) rfl
theorem ml_GR_143 : Cond.methodLink "SourceTree$Grammar" 143 ⟨"SourceTree$IntRow", "size", "()I"⟩ ∈ jj_T := jw 766 (by decide +kernel) rfl
theorem ml_GR_229 : Cond.methodLink "SourceTree$Grammar" 229 ⟨"SourceTree$Grammar", "signInFront", "()V"⟩ ∈ jj_T := jw 767 (by decide +kernel) rfl
theorem ml_GR_232 : Cond.methodLink "SourceTree$Grammar" 232 ⟨"SourceTree$Grammar", "factor", "()V"⟩ ∈ jj_T := jw 771 (by decide +kernel) rfl
theorem ml_GR_196 : Cond.methodLink "SourceTree$Grammar" 196 ⟨"SourceTree$Grammar", "primary", "()V"⟩ ∈ jj_T := jw 775 (by decide +kernel) rfl
theorem ml_GR_202 : Cond.methodLink "SourceTree$Grammar" 202 ⟨"SourceTree$Grammar", "enter", "()V"⟩ ∈ jj_T := jw 779 (by decide +kernel) rfl
theorem ml_GR_205 : Cond.methodLink "SourceTree$Grammar" 205 ⟨"SourceTree$Grammar", "leave", "()V"⟩ ∈ jj_T := jw 785 (by decide +kernel) rfl
theorem ml_GR_244 : Cond.methodLink "SourceTree$Grammar" 244 ⟨"SourceTree$Grammar", "rowOfSigns", "()V"⟩ ∈ jj_T := jw 791 (by decide +kernel) rfl
theorem ml_GR_140 : Cond.methodLink "SourceTree$Grammar" 140 ⟨"SourceTree$IntRow", "at", "(I)I"⟩ ∈ jj_T := jw 795 (by decide +kernel) rfl
theorem ml_GR_186 : Cond.methodLink "SourceTree$Grammar" 186 ⟨"SourceTree$Grammar", "behindName", "(IZ)V"⟩ ∈ jj_T := jw 797 (by decide +kernel) rfl
theorem ml_GR_235 : Cond.methodLink "SourceTree$Grammar" 235 ⟨"SourceTree$Grammar", "operatorThatJoins", "(I)I"⟩ ∈ jj_T := jw 801 (by decide +kernel) rfl
theorem ml_GR_253 : Cond.methodLink "SourceTree$Grammar" 253 ⟨"SourceTree$Grammar", "operatorOf", "(I)I"⟩ ∈ jj_T := jw 805 (by decide +kernel) rfl
theorem ml_GR_238 : Cond.methodLink "SourceTree$Grammar" 238 ⟨"SourceTree$Grammar", "levelOf", "(I)I"⟩ ∈ jj_T := jw 808 (by decide +kernel) rfl
theorem ml_GR_256 : Cond.methodLink "SourceTree$Grammar" 256 ⟨"SourceTree$Grammar", "mayFollow", "(III)Z"⟩ ∈ jj_T := jw 811 (by decide +kernel) rfl
theorem ml_GR_241 : Cond.methodLink "SourceTree$Grammar" 241 ⟨"SourceTree$Grammar", "tellPending", "(II)V"⟩ ∈ jj_T := jw 814 (by decide +kernel) rfl
theorem ml_GR_155 : Cond.methodLink "SourceTree$Grammar" 155 ⟨"SourceTree$Grammar", "takeDirection", "()Z"⟩ ∈ jj_T := jw 818 (by decide +kernel) rfl
theorem ml_GR_127 : Cond.methodLink "SourceTree$Grammar" 127 ⟨"SourceTree$Grammar", "expressionBehind", "(I)V"⟩ ∈ jj_T := jw 822 (by decide +kernel) rfl
theorem ml_GR_152 : Cond.methodLink "SourceTree$Grammar" 152 ⟨"SourceTree$Grammar", "tellNothing", "()V"⟩ ∈ jj_T := jw 826 (by decide +kernel) rfl
theorem ml_CU_61 : Cond.methodLink "SourceTree$Cursor" 61 ⟨"SourceTree$Cursor", "tell", "(III)V"⟩ ∈ jj_T := jw 832 (by decide +kernel) rfl
theorem ml_GR_130 : Cond.methodLink "SourceTree$Grammar" 130 ⟨"SourceTree$Grammar", "tellDeclared", "(III)I"⟩ ∈ jj_T := jw 833 (by decide +kernel) rfl
theorem ml_GR_146 : Cond.methodLink "SourceTree$Grammar" 146 ⟨"SourceTree$Grammar", "tellAgain", "(II)V"⟩ ∈ jj_T := jw 837 (by decide +kernel) rfl
theorem ml_GR_37 : Cond.methodLink "SourceTree$Grammar" 37 ⟨"SourceTree$Grammar", "port", "()I"⟩ ∈ jj_T := jw 843 (by decide +kernel) rfl
theorem ml_GR_40 : Cond.methodLink "SourceTree$Grammar" 40 ⟨"SourceTree$Grammar", "declaration", "()I"⟩ ∈ jj_T := jw 847 (by decide +kernel) rfl
theorem ml_GR_165 : Cond.methodLink "SourceTree$Grammar" 165 ⟨"SourceTree$Grammar", "objects", "(I)I"⟩ ∈ jj_T := jw 851 (by decide +kernel) rfl
theorem ml_GR_168 : Cond.methodLink "SourceTree$Grammar" 168 ⟨"SourceTree$Grammar", "typeDeclaration", "()V"⟩ ∈ jj_T := jw 855 (by decide +kernel) rfl
theorem ml_GR_171 : Cond.methodLink "SourceTree$Grammar" 171 ⟨"SourceTree$Grammar", "subtypeDeclaration", "()V"⟩ ∈ jj_T := jw 859 (by decide +kernel) rfl
theorem ml_GR_43 : Cond.methodLink "SourceTree$Grammar" 43 ⟨"SourceTree$Grammar", "concurrent", "()V"⟩ ∈ jj_T := jw 863 (by decide +kernel) rfl
theorem ml_GR_174 : Cond.methodLink "SourceTree$Grammar" 174 ⟨"SourceTree$Grammar", "process", "(I)V"⟩ ∈ jj_T := jw 867 (by decide +kernel) rfl
theorem ml_GR_177 : Cond.methodLink "SourceTree$Grammar" 177 ⟨"SourceTree$Grammar", "concurrentAssignment", "(I)V"⟩ ∈ jj_T := jw 871 (by decide +kernel) rfl
theorem ml_GR_190 : Cond.methodLink "SourceTree$Grammar" 190 ⟨"SourceTree$Grammar", "mode", "()I"⟩ ∈ jj_T := jw 875 (by decide +kernel) rfl
theorem ml_GR_180 : Cond.methodLink "SourceTree$Grammar" 180 ⟨"SourceTree$Grammar", "instance", "(I)V"⟩ ∈ jj_T := jw 879 (by decide +kernel) rfl
theorem ml_GR_199 : Cond.methodLink "SourceTree$Grammar" 199 ⟨"SourceTree$Grammar", "mapList", "(I)V"⟩ ∈ jj_T := jw 883 (by decide +kernel) rfl
theorem ml_GR_183 : Cond.methodLink "SourceTree$Grammar" 183 ⟨"SourceTree$Grammar", "generate", "(I)V"⟩ ∈ jj_T := jw 887 (by decide +kernel) rfl
theorem ml_GR_46 : Cond.methodLink "SourceTree$Grammar" 46 ⟨"SourceTree$Grammar", "map", "()V"⟩ ∈ jj_T := jw 891 (by decide +kernel) rfl
theorem ml_GR_49 : Cond.methodLink "SourceTree$Grammar" 49 ⟨"SourceTree$Grammar", "statement", "()V"⟩ ∈ jj_T := jw 895 (by decide +kernel) rfl
theorem ml_GR_208 : Cond.methodLink "SourceTree$Grammar" 208 ⟨"SourceTree$Grammar", "ifStatement", "()V"⟩ ∈ jj_T := jw 899 (by decide +kernel) rfl
theorem ml_GR_211 : Cond.methodLink "SourceTree$Grammar" 211 ⟨"SourceTree$Grammar", "caseStatement", "()V"⟩ ∈ jj_T := jw 903 (by decide +kernel) rfl
theorem ml_GR_214 : Cond.methodLink "SourceTree$Grammar" 214 ⟨"SourceTree$Grammar", "loopStatement", "()V"⟩ ∈ jj_T := jw 907 (by decide +kernel) rfl
theorem ml_GR_217 : Cond.methodLink "SourceTree$Grammar" 217 ⟨"SourceTree$Grammar", "leaveOrRepeat", "(I)V"⟩ ∈ jj_T := jw 911 (by decide +kernel) rfl
theorem ml_GR_220 : Cond.methodLink "SourceTree$Grammar" 220 ⟨"SourceTree$Grammar", "waitStatement", "()V"⟩ ∈ jj_T := jw 915 (by decide +kernel) rfl
theorem ml_GR_193 : Cond.methodLink "SourceTree$Grammar" 193 ⟨"SourceTree$Grammar", "timeBehind", "(I)V"⟩ ∈ jj_T := jw 919 (by decide +kernel) rfl
theorem ml_GR_223 : Cond.methodLink "SourceTree$Grammar" 223 ⟨"SourceTree$Grammar", "reportStatement", "()V"⟩ ∈ jj_T := jw 923 (by decide +kernel) rfl
theorem ml_GR_226 : Cond.methodLink "SourceTree$Grammar" 226 ⟨"SourceTree$Grammar", "assignment", "()V"⟩ ∈ jj_T := jw 927 (by decide +kernel) rfl
theorem ml_GR_52 : Cond.methodLink "SourceTree$Grammar" 52 ⟨"SourceTree$Grammar", "element", "()V"⟩ ∈ jj_T := jw 931 (by decide +kernel) rfl
theorem ml_GR_55 : Cond.methodLink "SourceTree$Grammar" 55 ⟨"SourceTree$Grammar", "time", "()V"⟩ ∈ jj_T := jw 935 (by decide +kernel) rfl
theorem ml_GR_58 : Cond.methodLink "SourceTree$Grammar" 58 ⟨"SourceTree$Grammar", "choice", "()V"⟩ ∈ jj_T := jw 939 (by decide +kernel) rfl
theorem ml_ST_86 : Cond.methodLink "SourceTree" 86 ⟨"SourceTree$Spellings", "reset", "()V"⟩ ∈ jj_T := jw 943 (by decide +kernel) rfl
theorem ml_LW_53 : Cond.methodLink "SourceTreeLaw" 53 ⟨"SourceTree", "place", "()I"⟩ ∈ jj_T := jw 944 (by decide +kernel) rfl
theorem ml_LW_57 : Cond.methodLink "SourceTreeLaw" 57 ⟨"SourceTree", "nodes", "()I"⟩ ∈ jj_T := jw 948 (by decide +kernel) rfl
theorem ml_ST_93 : Cond.methodLink "SourceTree" 93 ⟨"SourceTree$Table", "size", "()I"⟩ ∈ jj_T := jw 952 (by decide +kernel) rfl
theorem ml_LW_65 : Cond.methodLink "SourceTreeLaw" 65 ⟨"SourceTree", "names", "()I"⟩ ∈ jj_T := jw 953 (by decide +kernel) rfl
theorem ml_ST_105 : Cond.methodLink "SourceTree" 105 ⟨"SourceTree$Spellings", "size", "()I"⟩ ∈ jj_T := jw 957 (by decide +kernel) rfl
theorem ml_LW_34 : Cond.methodLink "SourceTreeLaw" 34 ⟨"SourceTreeLaw", "text", "(LSourceTree;IIII)I"⟩ ∈ jj_T := jw 958 (by decide +kernel) rfl
theorem ml_LW_7 : Cond.methodLink "SourceTreeLaw" 7 ⟨"SourceTree", "text", "(IIII)V"⟩ ∈ jj_T := jw 962 (by decide +kernel) rfl
theorem ml_ST_62 : Cond.methodLink "SourceTree" 62 ⟨"java/lang/IllegalStateException", "<init>", "(Ljava/lang/String;)V"⟩ ∈ jj_T := jw 967 (by decide +kernel) rfl
theorem ml_ST_65 : Cond.methodLink "SourceTree" 65 ⟨"SourceTree", "addFour", "(I)V"⟩ ∈ jj_T := jw 968 (by decide +kernel) rfl
theorem ml_ST_111 : Cond.methodLink "SourceTree" 111 ⟨"SourceTree$IntRow", "add", "(I)V"⟩ ∈ jj_T := jw 972 (by decide +kernel) rfl
theorem ml_LW_40 : Cond.methodLink "SourceTreeLaw" 40 ⟨"SourceTreeLaw", "cut", "(LSourceTree;I)I"⟩ ∈ jj_T := jw 973 (by decide +kernel) rfl
theorem ml_LW_15 : Cond.methodLink "SourceTreeLaw" 15 ⟨"SourceTree", "cut", "(I)V"⟩ ∈ jj_T := jw 977 (by decide +kernel) rfl
theorem ml_ST_72 : Cond.methodLink "SourceTree" 72 ⟨"java/lang/IllegalArgumentException", "<init>", "(Ljava/lang/String;)V"⟩ ∈ jj_T := jw 991 (by decide +kernel) rfl
theorem ml_ST_73 : Cond.methodLink "SourceTree" 73 ⟨"SourceTree$IntRow", "cutTo", "(I)V"⟩ ∈ jj_T := jw 997 (by decide +kernel) rfl
theorem ml_LW_61 : Cond.methodLink "SourceTreeLaw" 61 ⟨"SourceTreeLaw", "node", "(LSourceTree;II[J)I"⟩ ∈ jj_T := jw 998 (by decide +kernel) rfl
theorem ml_LW_21 : Cond.methodLink "SourceTreeLaw" 21 ⟨"SourceTree", "node", "(II)I"⟩ ∈ jj_T := jw 1002 (by decide +kernel) rfl
theorem ml_ST_98 : Cond.methodLink "SourceTree" 98 ⟨"java/lang/IndexOutOfBoundsException", "<init>", "(Ljava/lang/String;)V"⟩ ∈ jj_T := jw 1016 (by decide +kernel) rfl
theorem ml_ST_101 : Cond.methodLink "SourceTree" 101 ⟨"SourceTree$Table", "at", "(II)I"⟩ ∈ jj_T := jw 1023 (by decide +kernel) rfl
theorem ml_LW_69 : Cond.methodLink "SourceTreeLaw" 69 ⟨"SourceTreeLaw", "name", "(LSourceTree;II[J)I"⟩ ∈ jj_T := jw 1024 (by decide +kernel) rfl
theorem ml_LW_27 : Cond.methodLink "SourceTreeLaw" 27 ⟨"SourceTree", "name", "(II)I"⟩ ∈ jj_T := jw 1027 (by decide +kernel) rfl
theorem ml_ST_108 : Cond.methodLink "SourceTree" 108 ⟨"SourceTree$Spellings", "letterOf", "(II)I"⟩ ∈ jj_T := jw 1032 (by decide +kernel) rfl
theorem ml_LW_33 : Cond.methodLink "SourceTreeLaw" 33 ⟨"SourceTreeModel", "<init>", "()V"⟩ ∈ jj_T := jw 1038 (by decide +kernel) rfl
theorem ml_LW_39 : Cond.methodLink "SourceTreeLaw" 39 ⟨"SourceTreeModel", "text", "(IIII)V"⟩ ∈ jj_T := jw 1110 (by decide +kernel) rfl
theorem ml_LW_43 : Cond.methodLink "SourceTreeLaw" 43 ⟨"SourceTreeModel", "cut", "(I)V"⟩ ∈ jj_T := jw 1114 (by decide +kernel) rfl
theorem ml_LW_48 : Cond.methodLink "SourceTreeLaw" 48 ⟨"SourceTreeModel", "length", "()I"⟩ ∈ jj_T := jw 1118 (by decide +kernel) rfl
theorem ml_LW_52 : Cond.methodLink "SourceTreeLaw" 52 ⟨"SourceTreeModel", "read", "()I"⟩ ∈ jj_T := jw 1122 (by decide +kernel) rfl
theorem ml_LW_56 : Cond.methodLink "SourceTreeLaw" 56 ⟨"SourceTreeModel", "place", "()I"⟩ ∈ jj_T := jw 1485 (by decide +kernel) rfl
theorem ml_LW_60 : Cond.methodLink "SourceTreeLaw" 60 ⟨"SourceTreeModel", "nodes", "()I"⟩ ∈ jj_T := jw 1489 (by decide +kernel) rfl
theorem ml_LW_64 : Cond.methodLink "SourceTreeLaw" 64 ⟨"SourceTreeModel", "node", "(II)I"⟩ ∈ jj_T := jw 1493 (by decide +kernel) rfl
theorem ml_LW_68 : Cond.methodLink "SourceTreeLaw" 68 ⟨"SourceTreeModel", "names", "()I"⟩ ∈ jj_T := jw 1497 (by decide +kernel) rfl
theorem ml_LW_71 : Cond.methodLink "SourceTreeLaw" 71 ⟨"SourceTreeModel", "name", "(II)I"⟩ ∈ jj_T := jw 1501 (by decide +kernel) rfl
theorem sm_GR_CU_begin : Cond.sameMethod "SourceTree$Grammar" "SourceTree$Cursor" "begin" "()V" ∈ jj_T := jw 579 (by decide +kernel) rfl
theorem sm_CU_CU_take : Cond.sameMethod "SourceTree$Cursor" "SourceTree$Cursor" "take" "()V" ∈ jj_T := jw 586 (by decide +kernel) rfl
theorem sm_CU_CU_raise : Cond.sameMethod "SourceTree$Cursor" "SourceTree$Cursor" "raise" "(I)V" ∈ jj_T := jw 595 (by decide +kernel) rfl
theorem sm_GR_CU_tell : Cond.sameMethod "SourceTree$Grammar" "SourceTree$Cursor" "tell" "(III)V" ∈ jj_T := jw 671 (by decide +kernel) rfl
theorem sm_GR_CU_raise : Cond.sameMethod "SourceTree$Grammar" "SourceTree$Cursor" "raise" "(I)V" ∈ jj_T := jw 682 (by decide +kernel) rfl
theorem sm_GR_CU_expect : Cond.sameMethod "SourceTree$Grammar" "SourceTree$Cursor" "expect" "(I)V" ∈ jj_T := jw 694 (by decide +kernel) rfl
theorem sm_GR_CU_takeName : Cond.sameMethod "SourceTree$Grammar" "SourceTree$Cursor" "takeName" "()I" ∈ jj_T := jw 700 (by decide +kernel) rfl
theorem sm_GR_CU_accept : Cond.sameMethod "SourceTree$Grammar" "SourceTree$Cursor" "accept" "(I)Z" ∈ jj_T := jw 710 (by decide +kernel) rfl
theorem sm_GR_CU_take : Cond.sameMethod "SourceTree$Grammar" "SourceTree$Cursor" "take" "()V" ∈ jj_T := jw 720 (by decide +kernel) rfl
theorem sm_GR_CU_told : Cond.sameMethod "SourceTree$Grammar" "SourceTree$Cursor" "told" "()I" ∈ jj_T := jw 753 (by decide +kernel) rfl
theorem sm_GR_CU_enter : Cond.sameMethod "SourceTree$Grammar" "SourceTree$Cursor" "enter" "()V" ∈ jj_T := jw 780 (by decide +kernel) rfl
theorem sm_GR_CU_leave : Cond.sameMethod "SourceTree$Grammar" "SourceTree$Cursor" "leave" "()V" ∈ jj_T := jw 786 (by decide +kernel) rfl
theorem sm_GR_CU_tellNothing : Cond.sameMethod "SourceTree$Grammar" "SourceTree$Cursor" "tellNothing" "()V" ∈ jj_T := jw 827 (by decide +kernel) rfl
theorem sm_GR_CU_tellAgain : Cond.sameMethod "SourceTree$Grammar" "SourceTree$Cursor" "tellAgain" "(II)V" ∈ jj_T := jw 838 (by decide +kernel) rfl
theorem sm_CU_CU_tell : Cond.sameMethod "SourceTree$Cursor" "SourceTree$Cursor" "tell" "(III)V" ∈ jj_T := jw 1507 (by decide +kernel) rfl
theorem cl_LW_8 : Cond.classLink "SourceTreeLaw" 8 "SourceTree" ∈ jj_T := jw 157 (by decide +kernel) rfl
theorem cl_ST_9 : Cond.classLink "SourceTree" 9 "SourceTree$IntRow" ∈ jj_T := jw 165 (by decide +kernel) rfl
theorem cl_ST_18 : Cond.classLink "SourceTree" 18 "SourceTree$Spellings" ∈ jj_T := jw 179 (by decide +kernel) rfl
theorem cl_SP_9 : Cond.classLink "SourceTree$Spellings" 9 "SourceTree$IntRow" ∈ jj_T := jw 185 (by decide +kernel) rfl
theorem cl_JA_317 : Cond.classLink "java/util/Arrays" 317 "[I" ∈ jj_T := jw 201 (by decide +kernel) rfl
theorem cl_ST_25 : Cond.classLink "SourceTree" 25 "SourceTree$Table" ∈ jj_T := jw 317 (by decide +kernel) rfl
theorem cl_ST_32 : Cond.classLink "SourceTree" 32 "SourceTree$Scanner" ∈ jj_T := jw 330 (by decide +kernel) rfl
theorem cl_ST_41 : Cond.classLink "SourceTree" 41 "SourceTree$Grammar" ∈ jj_T := jw 349 (by decide +kernel) rfl
theorem cl_GR_15 : Cond.classLink "SourceTree$Grammar" 15 "SourceTree$IntRow" ∈ jj_T := jw 358 (by decide +kernel) rfl
theorem cl_ST_58 : Cond.classLink "SourceTree" 58 "java/lang/IllegalStateException" ∈ jj_T := jw 435 (by decide +kernel) rfl
theorem cl_CU_64 : Cond.classLink "SourceTree$Cursor" 64 "java/lang/IllegalStateException" ∈ jj_T := jw 598 (by decide +kernel) rfl
theorem cl_LW_13 : Cond.classLink "SourceTreeLaw" 13 "java/lang/IllegalStateException" ∈ jj_T := jw 961 (by decide +kernel) rfl
theorem cl_LW_19 : Cond.classLink "SourceTreeLaw" 19 "java/lang/IllegalArgumentException" ∈ jj_T := jw 976 (by decide +kernel) rfl
theorem cl_ST_68 : Cond.classLink "SourceTree" 68 "java/lang/IllegalArgumentException" ∈ jj_T := jw 981 (by decide +kernel) rfl
theorem cl_LW_25 : Cond.classLink "SourceTreeLaw" 25 "java/lang/IndexOutOfBoundsException" ∈ jj_T := jw 1001 (by decide +kernel) rfl
theorem cl_ST_94 : Cond.classLink "SourceTree" 94 "java/lang/IndexOutOfBoundsException" ∈ jj_T := jw 1006 (by decide +kernel) rfl
theorem cl_LW_31 : Cond.classLink "SourceTreeLaw" 31 "SourceTreeModel" ∈ jj_T := jw 1036 (by decide +kernel) rfl
theorem it_LW : Cond.initialized "SourceTreeLaw" ∈ jj_T := jw 134 (by decide +kernel) rfl
theorem it_ST : Cond.initialized "SourceTree" ∈ jj_T := jw 135 (by decide +kernel) rfl
theorem it_IR : Cond.initialized "SourceTree$IntRow" ∈ jj_T := jw 136 (by decide +kernel) rfl
theorem it_SP : Cond.initialized "SourceTree$Spellings" ∈ jj_T := jw 137 (by decide +kernel) rfl
theorem it_JA : Cond.initialized "java/util/Arrays" ∈ jj_T := jw 138 (by decide +kernel) rfl
theorem it_JM : Cond.initialized "java/lang/Math" ∈ jj_T := jw 139 (by decide +kernel) rfl
theorem it_JY : Cond.initialized "java/lang/System" ∈ jj_T := jw 140 (by decide +kernel) rfl
theorem it_JS : Cond.initialized "java/lang/String" ∈ jj_T := jw 141 (by decide +kernel) rfl
theorem it_JL : Cond.initialized "java/lang/StringLatin1" ∈ jj_T := jw 142 (by decide +kernel) rfl
theorem it_JP : Cond.initialized "jdk/internal/util/Preconditions" ∈ jj_T := jw 143 (by decide +kernel) rfl
theorem it_JU : Cond.initialized "java/lang/StringUTF16" ∈ jj_T := jw 144 (by decide +kernel) rfl
theorem it_TB : Cond.initialized "SourceTree$Table" ∈ jj_T := jw 145 (by decide +kernel) rfl
theorem it_SC : Cond.initialized "SourceTree$Scanner" ∈ jj_T := jw 146 (by decide +kernel) rfl
theorem it_CU : Cond.initialized "SourceTree$Cursor" ∈ jj_T := jw 147 (by decide +kernel) rfl
theorem it_GR : Cond.initialized "SourceTree$Grammar" ∈ jj_T := jw 148 (by decide +kernel) rfl
theorem it_MO : Cond.initialized "SourceTreeModel" ∈ jj_T := jw 149 (by decide +kernel) rfl
theorem it_JT : Cond.initialized "java/lang/Throwable" ∈ jj_T := jw 150 (by decide +kernel) rfl
theorem it_JE : Cond.initialized "java/lang/Exception" ∈ jj_T := jw 151 (by decide +kernel) rfl
theorem it_JR : Cond.initialized "java/lang/RuntimeException" ∈ jj_T := jw 152 (by decide +kernel) rfl
theorem it_JI : Cond.initialized "java/lang/IllegalStateException" ∈ jj_T := jw 153 (by decide +kernel) rfl
theorem it_JG : Cond.initialized "java/lang/IllegalArgumentException" ∈ jj_T := jw 154 (by decide +kernel) rfl
theorem it_JC : Cond.initialized "java/lang/Character" ∈ jj_T := jw 155 (by decide +kernel) rfl
theorem it_JX : Cond.initialized "java/lang/IndexOutOfBoundsException" ∈ jj_T := jw 156 (by decide +kernel) rfl
theorem kc_IR_19 : Jvm.Cond.constant "SourceTree$IntRow" 19 (32768 : Int32) ∈ jj_T := jw 191 (by decide +kernel) rfl
theorem kl_SC_96 : Jvm.Cond.constantLong "SourceTree$Scanner" 96 (10 : Int64) ∈ jj_T := jw 488 (by decide +kernel) rfl
theorem kl_SC_98 : Jvm.Cond.constantLong "SourceTree$Scanner" 98 (2147483648 : Int64) ∈ jj_T := jw 489 (by decide +kernel) rfl
theorem kl_SC_106 : Jvm.Cond.constantLong "SourceTree$Scanner" 106 (2147483647 : Int64) ∈ jj_T := jw 493 (by decide +kernel) rfl
theorem ac_int : Cond.arrayClass .int ∈ jj_T := jw 178 (by decide +kernel) rfl
theorem ac_byte : Cond.arrayClass .byte ∈ jj_T := jw 316 (by decide +kernel) rfl
theorem ac_long : Cond.arrayClass .long ∈ jj_T := jw 1505 (by decide +kernel) rfl
theorem cs_JI_JI : Cond.castable "java/lang/IllegalStateException" "java/lang/IllegalStateException" ∈ jj_hw := jhw 600 (by decide +kernel) rfl
theorem cs_JG_JG : Cond.castable "java/lang/IllegalArgumentException" "java/lang/IllegalArgumentException" ∈ jj_hw := jhw 983 (by decide +kernel) rfl
theorem cs_JX_JX : Cond.castable "java/lang/IndexOutOfBoundsException" "java/lang/IndexOutOfBoundsException" ∈ jj_hw := jhw 1008 (by decide +kernel) rfl
theorem sr_SP_46 : Cond.stringRef "SourceTree$Spellings" 46 "abs after and assert begin body case constant downto else elsif end exit for generate generic " ∈ jj_hw := jhw 220 (by decide +kernel) rfl
theorem sr_SP_52 : Cond.stringRef "SourceTree$Spellings" 52 "if in inertial inout is loop map mod nand next nor not null of on open or others out port process " ∈ jj_hw := jhw 297 (by decide +kernel) rfl
theorem sr_SP_54 : Cond.stringRef "SourceTree$Spellings" 54 "range reject rem report signal sll srl subtype then to transport type unit until variable wait when while xnor xor " ∈ jj_hw := jhw 298 (by decide +kernel) rfl
theorem sr_SP_56 : Cond.stringRef "SourceTree$Spellings" 56 "integer natural positive boolean logic row true false rising falling number bits ps ns us event active last length left right high low " ∈ jj_hw := jhw 299 (by decide +kernel) rfl
theorem sr_ST_114 : Cond.stringRef "SourceTree" 114 "ux01zwlh-" ∈ jj_hw := jhw 501 (by decide +kernel) rfl
theorem sr_SC_111 : Cond.stringRef "SourceTree$Scanner" 111 "(),;:=<>+-*/&'|" ∈ jj_hw := jhw 567 (by decide +kernel) rfl
theorem sr_CU_66 : Cond.stringRef "SourceTree$Cursor" 66 "a fault of the source" ∈ jj_hw := jhw 639 (by decide +kernel) rfl
theorem sr_ST_60 : Cond.stringRef "SourceTree" 60 "the text would be too long" ∈ jj_hw := jhw 966 (by decide +kernel) rfl
theorem sr_ST_70 : Cond.stringRef "SourceTree" 70 "the text has not so many characters" ∈ jj_hw := jhw 990 (by decide +kernel) rfl
theorem sr_ST_96 : Cond.stringRef "SourceTree" 96 "there is no such node" ∈ jj_hw := jhw 1015 (by decide +kernel) rfl
theorem sr_ST_99 : Cond.stringRef "SourceTree" 99 "a node has a kind, a value and children alone" ∈ jj_hw := jhw 1022 (by decide +kernel) rfl
theorem sr_ST_106 : Cond.stringRef "SourceTree" 106 "there is no such name" ∈ jj_hw := jhw 1031 (by decide +kernel) rfl
theorem ta_CU_68 : ∀ w ∈ Bundle.ownAtoms "SourceTree$Cursor" 68 "java/lang/IllegalStateException" ["java/lang/RuntimeException", "java/lang/Exception"], w ∈ jj_T ∨ w ∈ jj_hw := by decide +kernel
theorem ta_ST_62 : ∀ w ∈ Bundle.ownAtoms "SourceTree" 62 "java/lang/IllegalStateException" ["java/lang/RuntimeException", "java/lang/Exception"], w ∈ jj_T ∨ w ∈ jj_hw := by decide +kernel
theorem ta_ST_72 : ∀ w ∈ Bundle.ownAtoms "SourceTree" 72 "java/lang/IllegalArgumentException" ["java/lang/RuntimeException", "java/lang/Exception"], w ∈ jj_T ∨ w ∈ jj_hw := by decide +kernel
theorem ta_ST_98 : ∀ w ∈ Bundle.ownAtoms "SourceTree" 98 "java/lang/IndexOutOfBoundsException" ["java/lang/RuntimeException", "java/lang/Exception"], w ∈ jj_T ∨ w ∈ jj_hw := by decide +kernel
end
section
/-! rows and tables: leaves of the class -/
def jj_cI (G : jj_G) : ClassId := (G.2.2.1.getD 0 (0, .int)).1
def jj_cB (G : jj_G) : ClassId := (G.2.2.1.getD 1 (0, .int)).1
def jj_cL (G : jj_G) : ClassId := (G.2.2.1.getD 2 (0, .int)).1
/-- the array classes of the run -/
def jj_tyG (G : jj_G) : Prop := G.2.2.1 = [(jj_cI G, .int), (jj_cB G, .byte), (jj_cL G, .long)]
theorem jj_tI {G : jj_G} (hG : jj_tyG G) : G.2.2.1[0]? = some (jj_cI G, .int) := by rw [hG]; rfl
theorem jj_tB {G : jj_G} (hG : jj_tyG G) : G.2.2.1[1]? = some (jj_cB G, .byte) := by rw [hG]; rfl
theorem jj_tL {G : jj_G} (hG : jj_tyG G) : G.2.2.1[2]? = some (jj_cL G, .long) := by rw [hG]; rfl
/-- an object of class number ci, of an array's address and a count, over its array -/
def rw_is (ci : Nat) (G : jj_G) (h : jj_H) (r a cap : Nat) (f : Nat → Int32) (n : Nat) : Prop := h.1 r = some (.inr (ci, [.ref a, .int (nI n)])) ∧ h.1 a = some (.inl (jj_cI G, cap, .inl f)) ∧ n ≤ cap ∧ 0 < cap ∧ cap ≤ 200000 ∧ r ≠ a
set_option maxRecDepth 100000 in
set_option maxHeartbeats 4000000 in
theorem c_IR_size {l : Launch} {G : jj_G} {d : Nat} {h : jj_H} {r a cap n : Nat} {f : Nat → Int32} (hr : rw_is 1 G h r a cap f n) : jj_Q l G y_IR_size d [.ref r] h (fun o h' => o = .inl (some (.int (nI n))) ∧ h' = h) := by
  obtain ⟨hrr, hra, hn, hc0, hc1, hne⟩ := hr
  refine jj_Q.of (by decide +kernel) (Nat.le_of_ble_eq_true rfl) ?_
  refine jj_aload_n (j := 0) (by decide +kernel) rfl ?_
  refine jj_getfield 1 ck_IR fl_IR_15 (by decide) (by decide +kernel) (by assumption) rfl ?_
  refine jj_iret .int (by decide +kernel) rfl rfl ?_
  exact ⟨rfl, rfl⟩
/-- what a row answers at a place -/
def rw_get (f : Nat → Int32) (n : Nat) (i : Int32) : Int32 := if i < 0 ∨ nI n ≤ i then -1 else f i.toNatClampNeg
set_option maxRecDepth 100000 in
set_option maxHeartbeats 4000000 in
theorem c_IR_at {l : Launch} {G : jj_G} {d : Nat} {h : jj_H} {r a cap n : Nat} {f : Nat → Int32} {i : Int32} (hG : jj_tyG G) (hr : rw_is 1 G h r a cap f n) : jj_Q l G y_IR_at d [.ref r, .int i] h (fun o h' => o = .inl (some (.int (rw_get f n i))) ∧ h' = h) := by
  obtain ⟨hrr, hra, hn, hc0, hc1, hne⟩ := hr
  refine jj_Q.of (by decide +kernel) (Nat.le_of_ble_eq_true rfl) ?_
  refine jj_iload_n (j := 1) (by decide +kernel) rfl ?_
  refine jj_if_lt (off := 20) (tgt := 21) (by decide +kernel) (by decide) (fun c1 => ?_) (fun c1 => ?_)
  · skip
    refine jj_iconst (n := (-1)) (v := (-1)) (by decide +kernel) (by decide) ?_
    refine jj_goto (off := 9) (tgt := 31) (by decide +kernel) (by decide) ?_
    refine jj_iret .int (by decide +kernel) rfl rfl ?_
    exact ⟨by rw [rw_get, if_pos (Or.inl c1)], rfl⟩
  · skip
    refine jj_iload_n (j := 1) (by decide +kernel) rfl ?_
    refine jj_aload_n (j := 0) (by decide +kernel) rfl ?_
    refine jj_getfield 1 ck_IR fl_IR_15 (by decide) (by decide +kernel) (by assumption) rfl ?_
    refine jj_icmp_ge (off := 12) (tgt := 21) (by decide +kernel) (by decide) (fun c2 => ?_) (fun c2 => ?_)
    · skip
      refine jj_iconst (n := (-1)) (v := (-1)) (by decide +kernel) (by decide) ?_
      refine jj_goto (off := 9) (tgt := 31) (by decide +kernel) (by decide) ?_
      refine jj_iret .int (by decide +kernel) rfl rfl ?_
      exact ⟨by rw [rw_get, if_pos (Or.inr c2)], rfl⟩
    · skip
      refine jj_iload_n (j := 1) (by decide +kernel) rfl ?_
      refine jj_aload_n (j := 0) (by decide +kernel) rfl ?_
      refine jj_getfield 0 ck_IR fl_IR_9 (by decide) (by decide +kernel) (by assumption) rfl ?_
      refine jj_arraylength (jj_tI hG) (by decide +kernel) hra rfl ?_
      refine jj_icmp_lt (off := 7) (tgt := 25) (by decide +kernel) (by decide) (fun c3 => ?_) (fun c3 => ?_)
      · skip
        refine jj_aload_n (j := 0) (by decide +kernel) rfl ?_
        refine jj_getfield 0 ck_IR fl_IR_9 (by decide) (by decide +kernel) (by assumption) rfl ?_
        refine jj_iload_n (j := 1) (by decide +kernel) rfl ?_
        obtain ⟨j, hj, rfl⟩ : ∃ j : Nat, j < n ∧ i = nI j := by
          rcases pk_ix i (n := n) (by omega) with q | q | q
          · exact absurd q c1
          · exact absurd q c2
          · exact q
        refine jj_iaload (jj_tI hG) (by decide +kernel) hra (vp_in_nI (by omega) (by omega)) ?_
        refine jj_iret .int (by decide +kernel) rfl rfl ?_
        exact ⟨by rw [rw_get, if_neg (by rintro (q | q); exact c1 q; exact c2 q)], rfl⟩
      · skip
        refine jj_iconst (n := (-1)) (v := (-1)) (by decide +kernel) (by decide) ?_
        refine jj_goto (off := 9) (tgt := 31) (by decide +kernel) (by decide) ?_
        refine jj_iret .int (by decide +kernel) rfl rfl ?_
        exact absurd (Int32.lt_of_lt_of_le (Int32.not_le.mp c2) (nI_le hn (by omega))) c3
theorem jj_up_up {f : Nat → Option va_E} {a : Nat} {e e' : va_E} : jj_up (jj_up f a e) a e' = jj_up f a e' := by
  funext x
  by_cases hx : x = a
  · subst hx; rw [jj_up_self, jj_up_self]
  · rw [jj_up_ne hx, jj_up_ne hx, jj_up_ne hx]
theorem ml_copy : Cond.methodLink "java/util/Arrays" 150 arraycopyName ∈ jj_T := ml_JA_150
set_option maxRecDepth 100000 in
set_option maxHeartbeats 4000000 in
theorem c_JM_min {l : Launch} {G : jj_G} {d : Nat} {h : jj_H} {x y : Int32} : jj_Q l G y_JM_min d [.int x, .int y] h (fun o h' => o = .inl (some (.int (if y < x then y else x))) ∧ h' = h) := by
  refine jj_Q.of (by decide +kernel) (Nat.le_of_ble_eq_true rfl) ?_
  refine jj_iload_n (j := 0) (by decide +kernel) rfl ?_
  refine jj_iload_n (j := 1) (by decide +kernel) rfl ?_
  refine jj_icmp_gt (off := 7) (tgt := 9) (by decide +kernel) (by decide) (fun c1 => ?_) (fun c1 => ?_)
  · skip
    refine jj_iload_n (j := 1) (by decide +kernel) rfl ?_
    refine jj_iret .int (by decide +kernel) rfl rfl ?_
    exact ⟨by rw [if_pos c1], rfl⟩
  · skip
    refine jj_iload_n (j := 0) (by decide +kernel) rfl ?_
    refine jj_goto (off := 4) (tgt := 10) (by decide +kernel) (by decide) ?_
    refine jj_iret .int (by decide +kernel) rfl rfl ?_
    exact ⟨by rw [if_neg c1], rfl⟩
set_option maxRecDepth 100000 in
set_option maxHeartbeats 4000000 in
theorem c_JA_copyOf {l : Launch} {G : jj_G} {d : Nat} {h : jj_H} {a cap m : Nat} {f : Nat → Int32} (hG : jj_tyG G) (hra : h.1 a = some (.inl (jj_cI G, cap, .inl f))) (hal : a < h.2.1) (h0 : cap < m) (h1 : m ≤ 400000) (hdd : 3 ≤ d) : jj_Q l G y_JA_copyOf d [.ref a, .int (nI m)] h (fun o h' => o = .inl (some (.ref h.2.1)) ∧ h' = (jj_up h.1 h.2.1 (.inl (jj_cI G, m, .inl (va_cpy f (fun _ => 0) 0 0 cap))), h.2.1 + 1, h.2.2 + m)) := by
  refine jj_Q.of (by decide +kernel) (Nat.le_of_ble_eq_true rfl) ?_
  refine jj_iload_n (j := 1) (by decide +kernel) rfl ?_
  refine jj_aload_n (j := 0) (by decide +kernel) rfl ?_
  refine jj_arraylength (jj_tI hG) (by decide +kernel) hra rfl ?_
  refine jj_icmp_ne (off := 11) (tgt := 14) (by decide +kernel) (by decide) (fun c1 => ?_) (fun c1 => ?_)
  · skip
    refine jj_iload_n (j := 1) (by decide +kernel) rfl ?_
    refine jj_newarray (atype := .int) (fty := .int) (N' := m) (a0 := (m, .inl (fun _ => 0))) rfl (jj_tI hG) (fun _ q => q) ac_int (fun _ => rfl) (nI_pos (by omega)) (nI_clamp (by omega)) (by show m * 4 ≤ _; omega) (by decide +kernel) ?_
    have hra2 : (jj_up h.1 h.2.1 (.inl (jj_cI G, m, .inl (fun _ => 0)))) a = some (.inl (jj_cI G, cap, .inl f)) := (jj_up_ne (by omega)).trans hra
    refine jj_astore_n (j := 2) (by decide +kernel) (by decide) rfl ?_
    refine jj_aload_n (j := 0) (by decide +kernel) rfl ?_
    refine jj_iconst (n := 0) (v := 0) (by decide +kernel) (by decide) ?_
    refine jj_aload_n (j := 2) (by decide +kernel) rfl ?_
    refine jj_iconst (n := 0) (v := 0) (by decide +kernel) (by decide) ?_
    refine jj_aload_n (j := 0) (by decide +kernel) rfl ?_
    refine jj_arraylength (jj_tI hG) (by decide +kernel) hra2 rfl ?_
    refine jj_iload_n (j := 1) (by decide +kernel) rfl ?_
    refine jj_callr (c_JM_min (d := 0)) (fun o1 h1 hC => jj_callS ok_JM_min ml_JA_304 st_JM_min (by decide +kernel) rfl (by omega) (Nat.le_of_ble_eq_true rfl) hC) (by intro E h1 hp; cases hp.1) ?_
    rintro v h1 ⟨hv, rfl⟩
    cases hv
    rw [if_neg (show ¬ nI m < Int32.ofNat cap from nI_nlt (by omega) (by omega))]
    refine jj_arraycopy (jj_tI hG) ml_copy (jw 207 (by decide +kernel) rfl) (jw 206 (by decide +kernel) rfl) it_JY (by decide +kernel) hra2 jj_up_self (by omega) (by decide) (by decide) (nI_pos (by omega)) ?_ ?_ (by omega) (by have := na_ok; show 0 + _ ≤ 80; omega) ?_
    · show 0 + (nI cap).toNatClampNeg ≤ cap
      rw [nI_clamp (by omega)]; omega
    · show 0 + (nI cap).toNatClampNeg ≤ m
      rw [nI_clamp (by omega)]; omega
    refine jj_aload_n (j := 2) (by decide +kernel) rfl ?_
    refine jj_aret (by decide +kernel) rfl (Or.inr ⟨_, rfl⟩) ⟨rfl, ?_⟩
    rw [jj_up_up, show (Int32.ofNat cap).toNatClampNeg = cap from nI_clamp (by omega)]
    rfl
  · skip
    exact absurd ((nI_eq (by omega) (by omega)).mp c1) (by omega)
set_option maxRecDepth 100000 in
set_option maxHeartbeats 4000000 in
theorem p_IR_add_47 {l : Launch} {G : jj_G} {d : Nat} {F : jj_O → jj_H → Prop} {h : jj_H} {r a cap n : Nat} {f : Nat → Int32} {v : Int32} (hG : jj_tyG G) (hrr : h.1 r = some (.inr (1, [.ref a, .int (nI n)]))) (hra : h.1 a = some (.inl (jj_cI G, cap, .inl f))) (hne : r ≠ a) (hn : n < cap) (hc : cap ≤ 200000) (hF : F (.inl none) (jj_up (jj_up h.1 a (.inl (jj_cI G, cap, .inl (upd f n v)))) r (.inr (1, [.ref a, .int (nI (n + 1))])), h.2)) : jj_P l G y_IR_add d F 47 [some (.ref r), some (.int v)] [] h := by
  refine jj_aload_n (j := 0) (by decide +kernel) rfl ?_
  refine jj_getfield 1 ck_IR fl_IR_15 (by decide) (by decide +kernel) (by assumption) rfl ?_
  refine jj_aload_n (j := 0) (by decide +kernel) rfl ?_
  refine jj_getfield 0 ck_IR fl_IR_9 (by decide) (by decide +kernel) (by assumption) rfl ?_
  refine jj_arraylength (jj_tI hG) (by decide +kernel) hra rfl ?_
  refine jj_icmp_ge (off := 23) (tgt := 79) (by decide +kernel) (by decide) (fun c1 => ?_) (fun c1 => ?_)
  · skip
    refine jj_vret (by decide +kernel) rfl ?_
    exact absurd c1 (nI_ge hn (by omega))
  · skip
    refine jj_aload_n (j := 0) (by decide +kernel) rfl ?_
    refine jj_getfield 0 ck_IR fl_IR_9 (by decide) (by decide +kernel) (by assumption) rfl ?_
    refine jj_aload_n (j := 0) (by decide +kernel) rfl ?_
    refine jj_getfield 1 ck_IR fl_IR_15 (by decide) (by decide +kernel) (by assumption) rfl ?_
    refine jj_iload_n (j := 1) (by decide +kernel) rfl ?_
    refine jj_iastore (jj_tI hG) (by decide +kernel) hra (vp_in_nI hn (by omega)) ?_
    rw [nI_clamp (show n < 2 ^ 31 by omega)]
    have hrr2 : (jj_up h.1 a (.inl (jj_cI G, cap, .inl (upd f n v)))) r = some (.inr (1, [.ref a, .int (nI n)])) := (jj_up_ne hne).trans hrr
    refine jj_aload_n (j := 0) (by decide +kernel) rfl ?_
    refine jj_dup (by decide +kernel) rfl ?_
    refine jj_getfield 1 ck_IR fl_IR_15 (by decide) (by decide +kernel) (by assumption) rfl ?_
    refine jj_iconst (n := 1) (v := 1) (by decide +kernel) (by decide) ?_
    refine jj_iadd (by decide +kernel) ?_
    refine jj_putfield 1 ck_IR fl_IR_15 (by decide) rfl (by decide +kernel) hrr2 rfl rfl (Nat.lt_of_sub_eq_succ rfl) ?_
    refine jj_vret (by decide +kernel) rfl ?_
    exact (nI_succ n) ▸ hF
set_option maxRecDepth 100000 in
set_option maxHeartbeats 4000000 in
theorem c_IR_add {l : Launch} {G : jj_G} {d : Nat} {h : jj_H} {r a cap n : Nat} {f : Nat → Int32} {v : Int32} (hG : jj_tyG G) (hr : rw_is 1 G h r a cap f n) (hrl : r < h.2.1) (hal : a < h.2.1) (hn32 : n < 32768) (hdd : 5 ≤ d) : jj_Q l G y_IR_add d [.ref r, .int v] h (fun o h' => o = .inl none ∧ (n < cap → h' = (jj_up (jj_up h.1 a (.inl (jj_cI G, cap, .inl (upd f n v)))) r (.inr (1, [.ref a, .int (nI (n + 1))])), h.2)) ∧ (cap ≤ n → h' = (jj_up (jj_up (jj_up (jj_up h.1 h.2.1 (.inl (jj_cI G, 2 * cap, .inl (va_cpy f (fun _ => 0) 0 0 cap)))) r (.inr (1, [.ref h.2.1, .int (nI n)]))) h.2.1 (.inl (jj_cI G, 2 * cap, .inl (upd (va_cpy f (fun _ => 0) 0 0 cap) n v)))) r (.inr (1, [.ref h.2.1, .int (nI (n + 1))])), h.2.1 + 1, h.2.2 + 2 * cap))) := by
  obtain ⟨hrr, hra, hn, hc0, hc1, hne⟩ := hr
  refine jj_Q.of (by decide +kernel) (Nat.le_of_ble_eq_true rfl) ?_
  refine jj_aload_n (j := 0) (by decide +kernel) rfl ?_
  refine jj_getfield 1 ck_IR fl_IR_15 (by decide) (by decide +kernel) (by assumption) rfl ?_
  refine jj_if_lt (off := 12) (tgt := 16) (by decide +kernel) (by decide) (fun c1 => ?_) (fun c1 => ?_)
  · skip
    refine jj_vret (by decide +kernel) rfl ?_
    exact absurd c1 (nI_pos (by omega))
  · skip
    refine jj_aload_n (j := 0) (by decide +kernel) rfl ?_
    refine jj_getfield 1 ck_IR fl_IR_15 (by decide) (by decide +kernel) (by assumption) rfl ?_
    refine jj_ldc (by decide +kernel) kc_IR_19 ?_
    refine jj_icmp_lt (off := 4) (tgt := 17) (by decide +kernel) (by decide) (fun c2 => ?_) (fun c2 => ?_)
    · skip
      refine jj_aload_n (j := 0) (by decide +kernel) rfl ?_
      refine jj_getfield 1 ck_IR fl_IR_15 (by decide) (by decide +kernel) (by assumption) rfl ?_
      refine jj_aload_n (j := 0) (by decide +kernel) rfl ?_
      refine jj_getfield 0 ck_IR fl_IR_9 (by decide) (by decide +kernel) (by assumption) rfl ?_
      refine jj_arraylength (jj_tI hG) (by decide +kernel) hra rfl ?_
      refine jj_icmp_lt (off := 21) (tgt := 47) (by decide +kernel) (by decide) (fun c3 => ?_) (fun c3 => ?_)
      · skip
        exact p_IR_add_47 hG hrr hra hne ((nI_ltI (by omega) (by omega)).mp c3) hc1 ⟨rfl, fun _ => rfl, fun q => absurd q (by have := (nI_ltI (by omega) (by omega)).mp c3; omega)⟩
      · skip
        refine jj_aload_n (j := 0) (by decide +kernel) rfl ?_
        refine jj_aload_n (j := 0) (by decide +kernel) rfl ?_
        refine jj_getfield 0 ck_IR fl_IR_9 (by decide) (by decide +kernel) (by assumption) rfl ?_
        refine jj_aload_n (j := 0) (by decide +kernel) rfl ?_
        refine jj_getfield 0 ck_IR fl_IR_9 (by decide) (by decide +kernel) (by assumption) rfl ?_
        refine jj_arraylength (jj_tI hG) (by decide +kernel) hra rfl ?_
        refine jj_iconst (n := 2) (v := 2) (by decide +kernel) (by decide) ?_
        refine jj_imul (by decide +kernel) ?_
        have hcap : cap ≤ n := Nat.not_lt.mp (fun q => c3 (nI_lt q (by omega)))
        rw [show Int32.ofNat cap * 2 = nI (2 * cap) from (pk_mul cap 2).trans (by rw [Nat.mul_comm])]
        refine jj_callr (c_JA_copyOf (d := 3) hG hra hal (m := 2 * cap) (by omega) (by omega) (Nat.le_refl _)) (fun o1 h1 hC => jj_callS ok_JA_copyOf ml_IR_20 st_JA_copyOf (by decide +kernel) rfl (by omega) (Nat.le_of_ble_eq_true rfl) hC) (by intro E h1 hp; cases hp.1) ?_
        rintro v1 h1 ⟨hv, rfl⟩
        cases hv
        have hrr2 : (jj_up h.1 h.2.1 (.inl (jj_cI G, 2 * cap, .inl (va_cpy f (fun _ => 0) 0 0 cap)))) r = some (.inr (1, [.ref a, .int (nI n)])) := (jj_up_ne (by omega)).trans hrr
        refine jj_putfield 0 ck_IR fl_IR_9 (by decide) rfl (by decide +kernel) hrr2 rfl rfl (Nat.lt_of_sub_eq_succ rfl) ?_
        exact p_IR_add_47 hG jj_up_self ((jj_up_ne (by omega)).trans jj_up_self) (by omega) (by omega) (by omega) ⟨rfl, fun q => absurd q (by omega), fun _ => rfl⟩
    · skip
      refine jj_vret (by decide +kernel) rfl ?_
      exact absurd (show nI n < 32768 from nI_lt (b := 32768) hn32 (by omega)) c2
set_option maxRecDepth 100000 in
set_option maxHeartbeats 4000000 in
theorem c_IR_cutTo {l : Launch} {G : jj_G} {d : Nat} {h : jj_H} {r a cap n : Nat} {f : Nat → Int32} {j : Nat} (hr : rw_is 1 G h r a cap f n) (hj : j ≤ n) : jj_Q l G y_IR_cutTo d [.ref r, .int (nI j)] h (fun o h' => o = .inl none ∧ h' = (jj_up h.1 r (.inr (1, [.ref a, .int (nI j)])), h.2)) := by
  obtain ⟨hrr, hra, hn, hc0, hc1, hne⟩ := hr
  refine jj_Q.of (by decide +kernel) (Nat.le_of_ble_eq_true rfl) ?_
  refine jj_iload_n (j := 1) (by decide +kernel) rfl ?_
  refine jj_if_lt (off := 16) (tgt := 17) (by decide +kernel) (by decide) (fun c1 => ?_) (fun c1 => ?_)
  · skip
    refine jj_vret (by decide +kernel) rfl ?_
    exact absurd c1 (nI_pos (by omega))
  · skip
    refine jj_iload_n (j := 1) (by decide +kernel) rfl ?_
    refine jj_aload_n (j := 0) (by decide +kernel) rfl ?_
    refine jj_getfield 1 ck_IR fl_IR_15 (by decide) (by decide +kernel) (by assumption) rfl ?_
    refine jj_icmp_gt (off := 8) (tgt := 17) (by decide +kernel) (by decide) (fun c2 => ?_) (fun c2 => ?_)
    · skip
      refine jj_vret (by decide +kernel) rfl ?_
      exact absurd c2 (nI_nlt hj (by omega))
    · skip
      refine jj_aload_n (j := 0) (by decide +kernel) rfl ?_
      refine jj_iload_n (j := 1) (by decide +kernel) rfl ?_
      refine jj_putfield 1 ck_IR fl_IR_15 (by decide) rfl (by decide +kernel) hrr rfl rfl (Nat.lt_of_sub_eq_succ rfl) ?_
      refine jj_vret (by decide +kernel) rfl ?_
      exact ⟨rfl, rfl⟩
set_option maxRecDepth 100000 in
set_option maxHeartbeats 4000000 in
theorem c_IR_put {l : Launch} {G : jj_G} {d : Nat} {h : jj_H} {r a cap n : Nat} {f : Nat → Int32} {j : Nat} {v : Int32} (hG : jj_tyG G) (hr : rw_is 1 G h r a cap f n) (hj : j < n) : jj_Q l G y_IR_put d [.ref r, .int (nI j), .int v] h (fun o h' => o = .inl none ∧ h' = (jj_up h.1 a (.inl (jj_cI G, cap, .inl (upd f j v))), h.2)) := by
  obtain ⟨hrr, hra, hn, hc0, hc1, hne⟩ := hr
  refine jj_Q.of (by decide +kernel) (Nat.le_of_ble_eq_true rfl) ?_
  refine jj_iload_n (j := 1) (by decide +kernel) rfl ?_
  refine jj_if_lt (off := 27) (tgt := 28) (by decide +kernel) (by decide) (fun c1 => ?_) (fun c1 => ?_)
  · skip
    refine jj_vret (by decide +kernel) rfl ?_
    exact absurd c1 (nI_pos (by omega))
  · skip
    refine jj_iload_n (j := 1) (by decide +kernel) rfl ?_
    refine jj_aload_n (j := 0) (by decide +kernel) rfl ?_
    refine jj_getfield 1 ck_IR fl_IR_15 (by decide) (by decide +kernel) (by assumption) rfl ?_
    refine jj_icmp_ge (off := 19) (tgt := 28) (by decide +kernel) (by decide) (fun c2 => ?_) (fun c2 => ?_)
    · skip
      refine jj_vret (by decide +kernel) rfl ?_
      exact absurd c2 (nI_ge hj (by omega))
    · skip
      refine jj_iload_n (j := 1) (by decide +kernel) rfl ?_
      refine jj_aload_n (j := 0) (by decide +kernel) rfl ?_
      refine jj_getfield 0 ck_IR fl_IR_9 (by decide) (by decide +kernel) (by assumption) rfl ?_
      refine jj_arraylength (jj_tI hG) (by decide +kernel) hra rfl ?_
      refine jj_icmp_ge (off := 10) (tgt := 28) (by decide +kernel) (by decide) (fun c3 => ?_) (fun c3 => ?_)
      · skip
        refine jj_vret (by decide +kernel) rfl ?_
        exact absurd c3 (nI_ge (show j < cap by omega) (by omega))
      · skip
        refine jj_aload_n (j := 0) (by decide +kernel) rfl ?_
        refine jj_getfield 0 ck_IR fl_IR_9 (by decide) (by decide +kernel) (by assumption) rfl ?_
        refine jj_iload_n (j := 1) (by decide +kernel) rfl ?_
        refine jj_iload_n (j := 2) (by decide +kernel) rfl ?_
        refine jj_iastore (jj_tI hG) (by decide +kernel) hra (vp_in_nI (by omega) (by omega)) ?_
        rw [nI_clamp (show j < 2 ^ 31 by omega)]
        refine jj_vret (by decide +kernel) rfl ?_
        exact ⟨rfl, rfl⟩
end
section
/-! tables, and the class's own questions of a character -/
def tb_is (G : jj_G) (h : jj_H) (r a cap : Nat) (f : Nat → Int32) (n : Nat) : Prop := h.1 r = some (.inr (2, [.ref a, .int (nI n)])) ∧ h.1 a = some (.inl (jj_cI G, cap, .inl f)) ∧ 3 * n ≤ cap ∧ 0 < cap ∧ cap ≤ 200000 ∧ r ≠ a
def tb_get (f : Nat → Int32) (n : Nat) (i k : Int32) : Int32 := if i < 0 ∨ nI n ≤ i ∨ k < 0 ∨ ¬ k < 3 then -1 else f (3 * i.toNatClampNeg + k.toNatClampNeg)
abbrev tk_L (x : Int32) : Prop := (97 ≤ x.toInt ∧ x.toInt ≤ 122) ∨ (65 ≤ x.toInt ∧ x.toInt ≤ 90)
abbrev tk_D (x : Int32) : Prop := 48 ≤ x.toInt ∧ x.toInt ≤ 57
abbrev tk_U (x : Int32) : Prop := 65 ≤ x.toInt ∧ x.toInt ≤ 90
set_option maxRecDepth 100000 in
set_option maxHeartbeats 4000000 in
theorem c_TB_size {l : Launch} {G : jj_G} {d : Nat} {h : jj_H} {r a cap n : Nat} {f : Nat → Int32} (hr : tb_is G h r a cap f n) : jj_Q l G y_TB_size d [.ref r] h (fun o h' => o = .inl (some (.int (nI n))) ∧ h' = h) := by
  obtain ⟨hrr, hra, hn, hc0, hc1, hne⟩ := hr
  refine jj_Q.of (by decide +kernel) (Nat.le_of_ble_eq_true rfl) ?_
  refine jj_aload_n (j := 0) (by decide +kernel) rfl ?_
  refine jj_getfield 1 ck_TB fl_TB_15 (by decide) (by decide +kernel) (by assumption) rfl ?_
  refine jj_iret .int (by decide +kernel) rfl rfl ?_
  exact ⟨rfl, rfl⟩
set_option maxRecDepth 100000 in
set_option maxHeartbeats 4000000 in
theorem c_TB_clear {l : Launch} {G : jj_G} {d : Nat} {h : jj_H} {r a cap n : Nat} {f : Nat → Int32} (hr : tb_is G h r a cap f n) : jj_Q l G y_TB_clear d [.ref r] h (fun o h' => o = .inl none ∧ h' = (jj_up h.1 r (.inr (2, [.ref a, .int (nI 0)])), h.2)) := by
  obtain ⟨hrr, hra, hn, hc0, hc1, hne⟩ := hr
  refine jj_Q.of (by decide +kernel) (Nat.le_of_ble_eq_true rfl) ?_
  refine jj_aload_n (j := 0) (by decide +kernel) rfl ?_
  refine jj_iconst (n := 0) (v := 0) (by decide +kernel) (by decide) ?_
  refine jj_putfield 1 ck_TB fl_TB_15 (by decide) rfl (by decide +kernel) hrr rfl rfl (Nat.lt_of_sub_eq_succ rfl) ?_
  refine jj_vret (by decide +kernel) rfl ?_
  exact ⟨rfl, rfl⟩
set_option maxRecDepth 100000 in
set_option maxHeartbeats 4000000 in
theorem c_TB_at {l : Launch} {G : jj_G} {d : Nat} {h : jj_H} {r a cap n : Nat} {f : Nat → Int32} {i k : Int32} (hG : jj_tyG G) (hr : tb_is G h r a cap f n) : jj_Q l G y_TB_at d [.ref r, .int i, .int k] h (fun o h' => o = .inl (some (.int (tb_get f n i k))) ∧ h' = h) := by
  obtain ⟨hrr, hra, hn, hc0, hc1, hne⟩ := hr
  refine jj_Q.of (by decide +kernel) (Nat.le_of_ble_eq_true rfl) ?_
  refine jj_iload_n (j := 1) (by decide +kernel) rfl ?_
  refine jj_if_lt (off := 20) (tgt := 21) (by decide +kernel) (by decide) (fun c1 => ?_) (fun c1 => ?_)
  · skip
    refine jj_iconst (n := (-1)) (v := (-1)) (by decide +kernel) (by decide) ?_
    refine jj_iret .int (by decide +kernel) rfl rfl ?_
    exact ⟨by rw [tb_get, if_pos (by first | exact Or.inl c1 | exact Or.inr (Or.inl c2) | exact Or.inr (Or.inr (Or.inl c3)) | exact Or.inr (Or.inr (Or.inr c4)))], rfl⟩
  · skip
    refine jj_iload_n (j := 1) (by decide +kernel) rfl ?_
    refine jj_aload_n (j := 0) (by decide +kernel) rfl ?_
    refine jj_getfield 1 ck_TB fl_TB_15 (by decide) (by decide +kernel) (by assumption) rfl ?_
    refine jj_icmp_ge (off := 12) (tgt := 21) (by decide +kernel) (by decide) (fun c2 => ?_) (fun c2 => ?_)
    · skip
      refine jj_iconst (n := (-1)) (v := (-1)) (by decide +kernel) (by decide) ?_
      refine jj_iret .int (by decide +kernel) rfl rfl ?_
      exact ⟨by rw [tb_get, if_pos (by first | exact Or.inl c1 | exact Or.inr (Or.inl c2) | exact Or.inr (Or.inr (Or.inl c3)) | exact Or.inr (Or.inr (Or.inr c4)))], rfl⟩
    · skip
      refine jj_iload_n (j := 2) (by decide +kernel) rfl ?_
      refine jj_if_lt (off := 8) (tgt := 21) (by decide +kernel) (by decide) (fun c3 => ?_) (fun c3 => ?_)
      · skip
        refine jj_iconst (n := (-1)) (v := (-1)) (by decide +kernel) (by decide) ?_
        refine jj_iret .int (by decide +kernel) rfl rfl ?_
        exact ⟨by rw [tb_get, if_pos (by first | exact Or.inl c1 | exact Or.inr (Or.inl c2) | exact Or.inr (Or.inr (Or.inl c3)) | exact Or.inr (Or.inr (Or.inr c4)))], rfl⟩
      · skip
        refine jj_iload_n (j := 2) (by decide +kernel) rfl ?_
        refine jj_iconst (n := 3) (v := 3) (by decide +kernel) (by decide) ?_
        refine jj_icmp_lt (off := 5) (tgt := 23) (by decide +kernel) (by decide) (fun c4 => ?_) (fun c4 => ?_)
        · skip
          obtain ⟨i0, hi0, rfl⟩ : ∃ i0 : Nat, i0 < n ∧ i = nI i0 := by
            rcases pk_ix i (n := n) (by omega) with q | q | q
            · exact absurd q c1
            · exact absurd q c2
            · exact q
          obtain ⟨k0, hk0, rfl⟩ : ∃ k0 : Nat, k0 < 3 ∧ k = nI k0 := by
            rcases pk_ix k (n := 3) (by omega) with q | q | q
            · exact absurd q c3
            · exact absurd c4 (Int32.not_lt.mpr q)
            · exact q
          have e0 : nI i0 * 3 + nI k0 = nI (3 * i0 + k0) := by rw [show (3 : Int32) = nI 3 from rfl, pk_mul, nI_add, Nat.mul_comm]
          refine jj_iload_n (j := 1) (by decide +kernel) rfl ?_
          refine jj_iconst (n := 3) (v := 3) (by decide +kernel) (by decide) ?_
          refine jj_imul (by decide +kernel) ?_
          refine jj_iload_n (j := 2) (by decide +kernel) rfl ?_
          refine jj_iadd (by decide +kernel) ?_
          rw [e0]
          refine jj_istore_n (j := 3) (by decide +kernel) (by decide) rfl ?_
          refine jj_iload_n (j := 3) (by decide +kernel) rfl ?_
          refine jj_if_lt (off := 12) (tgt := 42) (by decide +kernel) (by decide) (fun c5 => ?_) (fun c5 => ?_)
          · skip
            refine jj_iconst (n := (-1)) (v := (-1)) (by decide +kernel) (by decide) ?_
            refine jj_goto (off := 9) (tgt := 52) (by decide +kernel) (by decide) ?_
            refine jj_iret .int (by decide +kernel) rfl rfl ?_
            exact absurd c5 (nI_pos (by omega))
          · skip
            refine jj_iload_n (j := 3) (by decide +kernel) rfl ?_
            refine jj_aload_n (j := 0) (by decide +kernel) rfl ?_
            refine jj_getfield 0 ck_TB fl_TB_9 (by decide) (by decide +kernel) (by assumption) rfl ?_
            refine jj_arraylength (jj_tI hG) (by decide +kernel) hra rfl ?_
            refine jj_icmp_lt (off := 7) (tgt := 46) (by decide +kernel) (by decide) (fun c6 => ?_) (fun c6 => ?_)
            · skip
              refine jj_aload_n (j := 0) (by decide +kernel) rfl ?_
              refine jj_getfield 0 ck_TB fl_TB_9 (by decide) (by decide +kernel) (by assumption) rfl ?_
              refine jj_iload_n (j := 3) (by decide +kernel) rfl ?_
              refine jj_iaload (jj_tI hG) (by decide +kernel) hra (vp_in_nI (by omega) (by omega)) ?_
              rw [nI_clamp (show 3 * i0 + k0 < 2 ^ 31 by omega)]
              refine jj_iret .int (by decide +kernel) rfl rfl ?_
              exact ⟨by rw [tb_get, if_neg (by rintro (q | q | q | q); exact c1 q; exact c2 q; exact c3 q; exact q c4), nI_clamp (show i0 < 2 ^ 31 by omega), nI_clamp (show k0 < 2 ^ 31 by omega)], rfl⟩
            · skip
              refine jj_iconst (n := (-1)) (v := (-1)) (by decide +kernel) (by decide) ?_
              refine jj_goto (off := 9) (tgt := 52) (by decide +kernel) (by decide) ?_
              refine jj_iret .int (by decide +kernel) rfl rfl ?_
              exact absurd (nI_lt (show 3 * i0 + k0 < cap by omega) (by omega)) c6
        · skip
          refine jj_iconst (n := (-1)) (v := (-1)) (by decide +kernel) (by decide) ?_
          refine jj_iret .int (by decide +kernel) rfl rfl ?_
          exact ⟨by rw [tb_get, if_pos (by first | exact Or.inl c1 | exact Or.inr (Or.inl c2) | exact Or.inr (Or.inr (Or.inl c3)) | exact Or.inr (Or.inr (Or.inr c4)))], rfl⟩
set_option maxRecDepth 100000 in
set_option maxHeartbeats 4000000 in
theorem c_ST_isLetter {l : Launch} {G : jj_G} {d : Nat} {h : jj_H} {x : Int32} : jj_Q l G y_ST_isLetter d [.int x] h (fun o h' => o = .inl (some (.int (if tk_L x then 1 else 0))) ∧ h' = h) := by
  refine jj_Q.of (by decide +kernel) (Nat.le_of_ble_eq_true rfl) ?_
  refine jj_iload_n (j := 0) (by decide +kernel) rfl ?_
  refine jj_bipush (n := 97) (v := 97) (by decide +kernel) (by decide) ?_
  refine jj_icmp_lt (off := 9) (tgt := 12) (by decide +kernel) (by decide) (fun c1 => ?_) (fun c1 => ?_)
  · skip
    refine jj_iload_n (j := 0) (by decide +kernel) rfl ?_
    refine jj_bipush (n := 65) (v := 65) (by decide +kernel) (by decide) ?_
    refine jj_icmp_lt (off := 13) (tgt := 28) (by decide +kernel) (by decide) (fun c2 => ?_) (fun c2 => ?_)
    · skip
      refine jj_iconst (n := 0) (v := 0) (by decide +kernel) (by decide) ?_
      refine jj_iret .boolean (by decide +kernel) rfl rfl ?_
      refine ⟨?_, rfl⟩
      simp only [Int32.lt_iff_toInt_lt, Int32.le_iff_toInt_le, Int32.reduceToInt] at *
      first
      | (exfalso; omega)
      | rw [if_pos (by omega)]
      | rw [if_neg (by omega)]
    · skip
      refine jj_iload_n (j := 0) (by decide +kernel) rfl ?_
      refine jj_bipush (n := 90) (v := 90) (by decide +kernel) (by decide) ?_
      refine jj_icmp_gt (off := 7) (tgt := 28) (by decide +kernel) (by decide) (fun c3 => ?_) (fun c3 => ?_)
      · skip
        refine jj_iconst (n := 0) (v := 0) (by decide +kernel) (by decide) ?_
        refine jj_iret .boolean (by decide +kernel) rfl rfl ?_
        refine ⟨?_, rfl⟩
        simp only [Int32.lt_iff_toInt_lt, Int32.le_iff_toInt_le, Int32.reduceToInt] at *
        first
        | (exfalso; omega)
        | rw [if_pos (by omega)]
        | rw [if_neg (by omega)]
      · skip
        refine jj_iconst (n := 1) (v := 1) (by decide +kernel) (by decide) ?_
        refine jj_goto (off := 4) (tgt := 29) (by decide +kernel) (by decide) ?_
        refine jj_iret .boolean (by decide +kernel) rfl rfl ?_
        refine ⟨?_, rfl⟩
        simp only [Int32.lt_iff_toInt_lt, Int32.le_iff_toInt_le, Int32.reduceToInt] at *
        first
        | (exfalso; omega)
        | rw [if_pos (by omega)]
        | rw [if_neg (by omega)]
  · skip
    refine jj_iload_n (j := 0) (by decide +kernel) rfl ?_
    refine jj_bipush (n := 122) (v := 122) (by decide +kernel) (by decide) ?_
    refine jj_icmp_le (off := 15) (tgt := 24) (by decide +kernel) (by decide) (fun c4 => ?_) (fun c4 => ?_)
    · skip
      refine jj_iconst (n := 1) (v := 1) (by decide +kernel) (by decide) ?_
      refine jj_goto (off := 4) (tgt := 29) (by decide +kernel) (by decide) ?_
      refine jj_iret .boolean (by decide +kernel) rfl rfl ?_
      refine ⟨?_, rfl⟩
      simp only [Int32.lt_iff_toInt_lt, Int32.le_iff_toInt_le, Int32.reduceToInt] at *
      first
      | (exfalso; omega)
      | rw [if_pos (by omega)]
      | rw [if_neg (by omega)]
    · skip
      refine jj_iload_n (j := 0) (by decide +kernel) rfl ?_
      refine jj_bipush (n := 65) (v := 65) (by decide +kernel) (by decide) ?_
      refine jj_icmp_lt (off := 13) (tgt := 28) (by decide +kernel) (by decide) (fun c5 => ?_) (fun c5 => ?_)
      · skip
        refine jj_iconst (n := 0) (v := 0) (by decide +kernel) (by decide) ?_
        refine jj_iret .boolean (by decide +kernel) rfl rfl ?_
        refine ⟨?_, rfl⟩
        simp only [Int32.lt_iff_toInt_lt, Int32.le_iff_toInt_le, Int32.reduceToInt] at *
        first
        | (exfalso; omega)
        | rw [if_pos (by omega)]
        | rw [if_neg (by omega)]
      · skip
        refine jj_iload_n (j := 0) (by decide +kernel) rfl ?_
        refine jj_bipush (n := 90) (v := 90) (by decide +kernel) (by decide) ?_
        refine jj_icmp_gt (off := 7) (tgt := 28) (by decide +kernel) (by decide) (fun c6 => ?_) (fun c6 => ?_)
        · skip
          refine jj_iconst (n := 0) (v := 0) (by decide +kernel) (by decide) ?_
          refine jj_iret .boolean (by decide +kernel) rfl rfl ?_
          refine ⟨?_, rfl⟩
          simp only [Int32.lt_iff_toInt_lt, Int32.le_iff_toInt_le, Int32.reduceToInt] at *
          first
          | (exfalso; omega)
          | rw [if_pos (by omega)]
          | rw [if_neg (by omega)]
        · skip
          refine jj_iconst (n := 1) (v := 1) (by decide +kernel) (by decide) ?_
          refine jj_goto (off := 4) (tgt := 29) (by decide +kernel) (by decide) ?_
          refine jj_iret .boolean (by decide +kernel) rfl rfl ?_
          refine ⟨?_, rfl⟩
          simp only [Int32.lt_iff_toInt_lt, Int32.le_iff_toInt_le, Int32.reduceToInt] at *
          first
          | (exfalso; omega)
          | rw [if_pos (by omega)]
          | rw [if_neg (by omega)]
set_option maxRecDepth 100000 in
set_option maxHeartbeats 4000000 in
theorem c_ST_isDigit {l : Launch} {G : jj_G} {d : Nat} {h : jj_H} {x : Int32} : jj_Q l G y_ST_isDigit d [.int x] h (fun o h' => o = .inl (some (.int (if tk_D x then 1 else 0))) ∧ h' = h) := by
  refine jj_Q.of (by decide +kernel) (Nat.le_of_ble_eq_true rfl) ?_
  refine jj_iload_n (j := 0) (by decide +kernel) rfl ?_
  refine jj_bipush (n := 48) (v := 48) (by decide +kernel) (by decide) ?_
  refine jj_icmp_lt (off := 13) (tgt := 16) (by decide +kernel) (by decide) (fun c1 => ?_) (fun c1 => ?_)
  · skip
    refine jj_iconst (n := 0) (v := 0) (by decide +kernel) (by decide) ?_
    refine jj_iret .boolean (by decide +kernel) rfl rfl ?_
    refine ⟨?_, rfl⟩
    simp only [Int32.lt_iff_toInt_lt, Int32.le_iff_toInt_le, Int32.reduceToInt] at *
    first
    | (exfalso; omega)
    | rw [if_pos (by omega)]
    | rw [if_neg (by omega)]
  · skip
    refine jj_iload_n (j := 0) (by decide +kernel) rfl ?_
    refine jj_bipush (n := 57) (v := 57) (by decide +kernel) (by decide) ?_
    refine jj_icmp_gt (off := 7) (tgt := 16) (by decide +kernel) (by decide) (fun c2 => ?_) (fun c2 => ?_)
    · skip
      refine jj_iconst (n := 0) (v := 0) (by decide +kernel) (by decide) ?_
      refine jj_iret .boolean (by decide +kernel) rfl rfl ?_
      refine ⟨?_, rfl⟩
      simp only [Int32.lt_iff_toInt_lt, Int32.le_iff_toInt_le, Int32.reduceToInt] at *
      first
      | (exfalso; omega)
      | rw [if_pos (by omega)]
      | rw [if_neg (by omega)]
    · skip
      refine jj_iconst (n := 1) (v := 1) (by decide +kernel) (by decide) ?_
      refine jj_goto (off := 4) (tgt := 17) (by decide +kernel) (by decide) ?_
      refine jj_iret .boolean (by decide +kernel) rfl rfl ?_
      refine ⟨?_, rfl⟩
      simp only [Int32.lt_iff_toInt_lt, Int32.le_iff_toInt_le, Int32.reduceToInt] at *
      first
      | (exfalso; omega)
      | rw [if_pos (by omega)]
      | rw [if_neg (by omega)]
set_option maxRecDepth 100000 in
set_option maxHeartbeats 4000000 in
theorem c_ST_small {l : Launch} {G : jj_G} {d : Nat} {h : jj_H} {x : Int32} : jj_Q l G y_ST_small d [.int x] h (fun o h' => o = .inl (some (.int (if tk_U x then x + 32 else x))) ∧ h' = h) := by
  refine jj_Q.of (by decide +kernel) (Nat.le_of_ble_eq_true rfl) ?_
  refine jj_iload_n (j := 0) (by decide +kernel) rfl ?_
  refine jj_bipush (n := 65) (v := 65) (by decide +kernel) (by decide) ?_
  refine jj_icmp_lt (off := 16) (tgt := 19) (by decide +kernel) (by decide) (fun c1 => ?_) (fun c1 => ?_)
  · skip
    refine jj_iload_n (j := 0) (by decide +kernel) rfl ?_
    refine jj_iret .int (by decide +kernel) rfl rfl ?_
    refine ⟨?_, rfl⟩
    simp only [Int32.lt_iff_toInt_lt, Int32.le_iff_toInt_le, Int32.reduceToInt] at *
    first
    | (exfalso; omega)
    | rw [if_pos (by omega)]
    | rw [if_neg (by omega)]
  · skip
    refine jj_iload_n (j := 0) (by decide +kernel) rfl ?_
    refine jj_bipush (n := 90) (v := 90) (by decide +kernel) (by decide) ?_
    refine jj_icmp_gt (off := 10) (tgt := 19) (by decide +kernel) (by decide) (fun c2 => ?_) (fun c2 => ?_)
    · skip
      refine jj_iload_n (j := 0) (by decide +kernel) rfl ?_
      refine jj_iret .int (by decide +kernel) rfl rfl ?_
      refine ⟨?_, rfl⟩
      simp only [Int32.lt_iff_toInt_lt, Int32.le_iff_toInt_le, Int32.reduceToInt] at *
      first
      | (exfalso; omega)
      | rw [if_pos (by omega)]
      | rw [if_neg (by omega)]
    · skip
      refine jj_iload_n (j := 0) (by decide +kernel) rfl ?_
      refine jj_bipush (n := 32) (v := 32) (by decide +kernel) (by decide) ?_
      refine jj_iadd (by decide +kernel) ?_
      refine jj_goto (off := 4) (tgt := 20) (by decide +kernel) (by decide) ?_
      refine jj_iret .int (by decide +kernel) rfl rfl ?_
      refine ⟨?_, rfl⟩
      simp only [Int32.lt_iff_toInt_lt, Int32.le_iff_toInt_le, Int32.reduceToInt] at *
      first
      | (exfalso; omega)
      | rw [if_pos (by omega)]
      | rw [if_neg (by omega)]
end
section
/-! the cursor: its object's twelve fields as a list of ints and references -/
/-- kind, value, place, fault, faultPlace, next, open of the grammar's object g, and where its rows stand -/
def gr_is (h : jj_H) (g tok tre cha dec pen : Nat) (ki va pl fa fp ne op : Int32) : Prop := h.1 g = some (.inr (5, [.ref cha, .ref dec, .ref pen, .int ki, .int va, .int pl, .int fa, .int fp, .ref tok, .ref tre, .int ne, .int op]))
theorem ise_ok : Bundle.fit "java/lang/IllegalStateException" = true ∧ (∀ n ∈ ["java/lang/RuntimeException", "java/lang/Exception"], Bundle.fit n = true) := by decide +kernel
set_option maxRecDepth 100000 in
set_option maxHeartbeats 4000000 in
theorem c_CU_raise {l : Launch} {G : jj_G} {d : Nat} {h : jj_H} {g tok tre cha dec pen : Nat} {ki va pl fa fp ne op : Int32} {w : Int32} (hg : gr_is h g tok tre cha dec pen ki va pl fa fp ne op) (hdd : 7 ≤ d) : jj_Q l G y_CU_raise d [.ref g, .int w] h (fun o h' => o = .inr "java/lang/IllegalStateException" ∧ gr_is h' g tok tre cha dec pen ki va pl w pl ne op ∧ (∀ x, x ≠ g → h'.1 x = h.1 x) ∧ h'.2 = (h.2.1 + 1, h.2.2 + 6)) := by
  unfold gr_is at hg
  refine jj_Q.of (by decide +kernel) (Nat.le_of_ble_eq_true rfl) ?_
  refine jj_aload_n (j := 0) (by decide +kernel) rfl ?_
  refine jj_iload_n (j := 1) (by decide +kernel) rfl ?_
  refine jj_putfield 6 ck_GR fl_CU_28 (by decide) rfl (by decide +kernel) hg rfl rfl (Nat.lt_of_sub_eq_succ rfl) ?_
  refine jj_aload_n (j := 0) (by decide +kernel) rfl ?_
  refine jj_aload_n (j := 0) (by decide +kernel) rfl ?_
  refine jj_getfield 5 ck_GR fl_CU_25 (by decide) (by decide +kernel) jj_up_self rfl ?_
  refine jj_putfield 7 ck_GR fl_CU_31 (by decide) rfl (by decide +kernel) jj_up_self rfl rfl (Nat.lt_of_sub_eq_succ rfl) ?_
  rw [jj_up_up]
  refine jj_throwS (is := 66) (text := _) ise_ok.1 ise_ok.2 (by decide) cl_CU_64 it_JI sr_CU_66 ta_CU_68 (by decide +kernel) (by decide +kernel) (by decide +kernel) (by decide +kernel) (by decide +kernel) rfl (by omega) (by decide) ?_
  exact ⟨rfl, jj_up_self, fun x hx => jj_up_ne hx, rfl⟩
end
section
/-! THE CLASS'S OBJECT AS A SYSTEM. Its thirteen addresses by number: rows 0 characters, 1 letters, 2 starts, 3 newest, 4 before, 5 declared, 6 pending; tables 7 tree, 8 tokens; 9 the object itself, 10 spellings, 11 scanner, 12 grammar.
X: the heap at the beginning, what of it is the system's, the addresses, the bases of cells and slots, and whether the spellings alone are made yet. K: how many were thrown; o: how many are open; N: how many characters. -/
abbrev sy_X : Type := jj_H × (Nat → Prop) × (Nat → Nat) × Nat × Nat × Bool
def sy_on (X : sy_X) (i : Nat) : Prop := X.2.2.2.2.2 = true → i = 1 ∨ i = 2 ∨ i = 3 ∨ i = 4 ∨ i = 10
theorem sy_p {X : sy_X} {i : Nat} (h : i = 1 ∨ i = 2 ∨ i = 3 ∨ i = 4 ∨ i = 10) : sy_on X i := fun _ => h
theorem sy_o {X : sy_X} {i : Nat} (h : X.2.2.2.2.2 = false) : sy_on X i := fun q => by rw [h] at q; cases q
def sy_G (G : jj_G) (X : sy_X) : Prop := jj_tyG G ∧ X.2.2.2.2.2 = false
def sy_row (G : jj_G) (A w c : Nat → Nat) (h : jj_H) (ci k b N t : Nat) : Prop :=
  ∃ (a : Nat) (f : Nat → Int32) (n : Nat), h.1 (A t) = some (.inr (ci, [.ref a, .int (nI n)])) ∧ h.1 a = some (.inl (jj_cI G, c t, .inl f)) ∧ k * n ≤ c t ∧ n ≤ b ∧ 64 ≤ c t ∧ c t ≤ 200000 ∧ w a = t ∧ a < h.2.1 ∧ A t ≠ a ∧ (t = 0 → n = N)
def sy_sum (c : Nat → Nat) : Nat := c 0 + c 1 + c 2 + c 3 + c 4 + c 5 + c 6 + c 7 + c 8
def sy_ST (A : Nat → Nat) (h : jj_H) : Prop := ∃ x : Int32, h.1 (A 9) = some (.inr (0, [.ref (A 0), .ref (A 10), .ref (A 7), .ref (A 11), .ref (A 12), .int x]))
def sy_SP (A : Nat → Nat) (h : jj_H) : Prop := ∃ x : Int32, h.1 (A 10) = some (.inr (3, [.ref (A 1), .ref (A 2), .ref (A 3), .ref (A 4), .int x]))
def sy_SC (A : Nat → Nat) (h : jj_H) : Prop := ∃ x : Int32, h.1 (A 11) = some (.inr (4, [.ref (A 0), .ref (A 10), .ref (A 8), .int x]))
def sy_GR (A : Nat → Nat) (h : jj_H) (o : Nat) : Prop := ∃ ki va pl fa fp ne : Int32, h.1 (A 12) = some (.inr (5, [.ref (A 0), .ref (A 5), .ref (A 6), .int ki, .int va, .int pl, .int fa, .int fp, .ref (A 8), .ref (A 7), .int ne, .int (nI o)]))
def sy_obs (X : sy_X) (h : jj_H) (o : Nat) : Prop := (sy_on X 9 → sy_ST X.2.2.1 h) ∧ sy_SP X.2.2.1 h ∧ (sy_on X 11 → sy_SC X.2.2.1 h) ∧ (sy_on X 12 → sy_GR X.2.2.1 h o)
def sy_in (G : jj_G) (X : sy_X) (K o N : Nat) (h : jj_H) (w c : Nat → Nat) : Prop :=
  (∀ t, t < 7 → sy_on X t → sy_row G X.2.2.1 w c h 1 1 32768 N t) ∧ (∀ t, 7 ≤ t → t < 9 → sy_on X t → sy_row G X.2.2.1 w c h 2 3 16385 N t) ∧ sy_obs X h o ∧
  (∀ i, i < 13 → sy_on X i → w (X.2.2.1 i) = i ∧ X.2.2.1 i < h.2.1) ∧ (∀ q, w q < 13 → q < X.1.2.1 → X.2.1 q) ∧ (∀ q, q < X.1.2.1 → ¬ X.2.1 q → h.1 q = X.1.1 q) ∧
  X.1.2.1 ≤ h.2.1 ∧ 64 * h.2.1 ≤ 64 * (X.2.2.2.1 + K) + sy_sum c ∧ h.2.2 ≤ X.2.2.2.2.1 + 6 * K + 2 * sy_sum c ∧ ∀ t, t < 9 → ¬ sy_on X t → c t = 0
def Sy (G : jj_G) (X : sy_X) (K o N : Nat) (h : jj_H) : Prop := ∃ w c : Nat → Nat, sy_in G X K o N h w c
theorem sy_row.keep {G : jj_G} {A w w' c c' : Nat → Nat} {h h' : jj_H} {ci k b N N' t : Nat} (hr : sy_row G A w c h ci k b N t) (hA : w (A t) = t ∧ A t < h.2.1) (hk : ∀ q, q < h.2.1 → w q = t → h'.1 q = h.1 q) (hz : h.2.1 ≤ h'.2.1) (hw : ∀ q, q < h.2.1 → w' q = w q) (hc : c' t = c t) (hN : t = 0 → N' = N) : sy_row G A w' c' h' ci k b N' t := by
  obtain ⟨a, f, n, r1, r2, r3, r4, r5, r6, r7, r8, r9, r10⟩ := hr
  refine ⟨a, f, n, (hk _ hA.2 hA.1).trans r1, ?_, by rw [hc]; exact r3, r4, by rw [hc]; exact r5, by rw [hc]; exact r6, (hw _ r8).trans r7, Nat.lt_of_lt_of_le r8 hz, r9, fun q => (r10 q).trans (hN q).symm⟩
  rw [hc]
  exact (hk _ r8 r7).trans r2
theorem sy_obs.keep {X : sy_X} {h h' : jj_H} {o : Nat} (ho : sy_obs X h o) (hk : ∀ i, 9 ≤ i → i < 13 → sy_on X i → h'.1 (X.2.2.1 i) = h.1 (X.2.2.1 i)) : sy_obs X h' o := by
  obtain ⟨o1, ⟨x2, e2⟩, o3, o4⟩ := ho
  refine ⟨fun q => ?_, ⟨x2, (hk 10 (by decide) (by decide) (sy_p (by decide))).trans e2⟩, fun q => ?_, fun q => ?_⟩
  · obtain ⟨x1, e1⟩ := o1 q
    exact ⟨x1, (hk 9 (by decide) (by decide) q).trans e1⟩
  · obtain ⟨x3, e3⟩ := o3 q
    exact ⟨x3, (hk 11 (by decide) (by decide) q).trans e3⟩
  · obtain ⟨a, b, c, d, e, f, e4⟩ := o4 q
    exact ⟨a, b, c, d, e, f, (hk 12 (by decide) (by decide) q).trans e4⟩
theorem sy_in.row_upd {G : jj_G} {X : sy_X} {K o N N' : Nat} {h h' : jj_H} {w c w' c' : Nat → Nat} {t : Nat} (hs : sy_in G X K o N h w c) (ht : t < 9) (hon : sy_on X t)
    (hn : (t < 7 → sy_row G X.2.2.1 w' c' h' 1 1 32768 N' t) ∧ (7 ≤ t → sy_row G X.2.2.1 w' c' h' 2 3 16385 N' t)) (hk : ∀ q, q < h.2.1 → w q ≠ t → h'.1 q = h.1 q) (hw : ∀ q, q < h.2.1 → w' q = w q) (hc : ∀ i, i ≠ t → c' i = c i) (hN : t ≠ 0 → N' = N)
    (hz : h.2.1 ≤ h'.2.1) (h1 : 64 * h'.2.1 + c t ≤ 64 * h.2.1 + c' t) (h2 : h'.2.2 + 2 * c t ≤ h.2.2 + 2 * c' t) : sy_in G X K o N' h' w' c' := by
  obtain ⟨a1, a2, a3, a4, a5, a6, a7, a8, a9, a10⟩ := hs
  have hsum : sy_sum c' + c t = sy_sum c + c' t := by
    have e0 := hc 0
    have e1 := hc 1
    have e2 := hc 2
    have e3 := hc 3
    have e4 := hc 4
    have e5 := hc 5
    have e6 := hc 6
    have e7 := hc 7
    have e8 := hc 8
    unfold sy_sum
    rcases (show t = 0 ∨ t = 1 ∨ t = 2 ∨ t = 3 ∨ t = 4 ∨ t = 5 ∨ t = 6 ∨ t = 7 ∨ t = 8 by omega) with rfl | rfl | rfl | rfl | rfl | rfl | rfl | rfl | rfl <;> omega
  refine ⟨fun i hi hio => ?_, fun i hi1 hi2 hio => ?_, a3.keep (fun i g1 g2 g3 => ?_), fun i hi hio => ⟨(hw _ (a4 i hi hio).2).trans (a4 i hi hio).1, Nat.lt_of_lt_of_le (a4 i hi hio).2 hz⟩, fun q hq hlt => ?_, fun q hq hno => ?_, by omega, by omega, by omega, fun i hi hno => (hc i (fun e => hno (e ▸ hon))).trans (a10 i hi hno)⟩
  · by_cases e : i = t
    · subst e
      exact hn.1 hi
    · exact (a1 i hi hio).keep (a4 i (by omega) hio) (fun q hq hw9 => hk q hq (by rw [hw9]; exact e)) hz hw (hc i e) (fun q => hN (fun z => e (q.trans z.symm)))
  · by_cases e : i = t
    · subst e
      exact hn.2 hi1
    · exact (a2 i hi1 hi2 hio).keep (a4 i (by omega) hio) (fun q hq hw9 => hk q hq (by rw [hw9]; exact e)) hz hw (hc i e) (fun q => hN (fun z => e (q.trans z.symm)))
  · exact hk _ (a4 i g2 g3).2 (by rw [(a4 i g2 g3).1]; omega)
  · exact a5 q (by rw [← hw q (Nat.lt_of_lt_of_le hlt a7)]; exact hq) hlt
  · exact (hk q (Nat.lt_of_lt_of_le hq a7) (fun e => hno (a5 q (by rw [e]; omega) hq))).trans (a6 q hq hno)
theorem sy_in.ob_upd {G : jj_G} {X : sy_X} {K o o' N i j : Nat} {h h' : jj_H} {w c : Nat → Nat} (hs : sy_in G X K o N h w c) (hi : 9 ≤ i) (hi2 : i < 13) (hio : sy_on X i) (hn : sy_obs X h' o') (hk : ∀ q, q ≠ X.2.2.1 i → h'.1 q = h.1 q)
    (hz : h.2.1 ≤ h'.2.1) (h1 : h'.2.1 ≤ h.2.1 + j) (h2 : h'.2.2 ≤ h.2.2 + 6 * j) : sy_in G X (K + j) o' N h' w c := by
  obtain ⟨a1, a2, a3, a4, a5, a6, a7, a8, a9, a10⟩ := hs
  have hne : ∀ q, w q < 9 → q ≠ X.2.2.1 i := by
    rintro q hq rfl
    rw [(a4 i hi2 hio).1] at hq
    omega
  refine ⟨fun t ht hto => ?_, fun t ht1 ht2 hto => ?_, hn, fun t ht hto => ⟨(a4 t ht hto).1, Nat.lt_of_lt_of_le (a4 t ht hto).2 hz⟩, a5, fun q hq hno => ?_, by omega, by omega, by omega, a10⟩
  · exact (a1 t ht hto).keep (a4 t (by omega) hto) (fun q _ hw9 => hk q (hne q (by omega))) hz (fun _ _ => rfl) rfl (fun _ => rfl)
  · exact (a2 t ht1 ht2 hto).keep (a4 t (by omega) hto) (fun q _ hw9 => hk q (hne q (by omega))) hz (fun _ _ => rfl) rfl (fun _ => rfl)
  · refine (hk q ?_).trans (a6 q hq hno)
    rintro rfl
    exact hno (a5 _ (by rw [(a4 i hi2 hio).1]; exact hi2) hq)
theorem sy_in.ne {G : jj_G} {X : sy_X} {K o N : Nat} {h : jj_H} {w c : Nat → Nat} (hs : sy_in G X K o N h w c) {i j : Nat} (hi : i < 13) (hj : j < 13) (hij : i ≠ j) (ai : sy_on X i) (aj : sy_on X j) : X.2.2.1 i ≠ X.2.2.1 j := by
  intro e
  have h1 := (hs.2.2.2.1 i hi ai).1
  rw [e, (hs.2.2.2.1 j hj aj).1] at h1
  exact hij h1.symm
section SYP
variable {G : jj_G} {X : sy_X} {K o N : Nat} {h : jj_H}
theorem Sy.st (hs : Sy G X K o N h) (hX : X.2.2.2.2.2 = false) : sy_ST X.2.2.1 h := by
  obtain ⟨w, c, hs⟩ := hs
  exact hs.2.2.1.1 (sy_o hX)
theorem Sy.sp (hs : Sy G X K o N h) : sy_SP X.2.2.1 h := by
  obtain ⟨w, c, hs⟩ := hs
  exact hs.2.2.1.2.1
theorem Sy.sc (hs : Sy G X K o N h) (hX : X.2.2.2.2.2 = false) : sy_SC X.2.2.1 h := by
  obtain ⟨w, c, hs⟩ := hs
  exact hs.2.2.1.2.2.1 (sy_o hX)
theorem Sy.gr (hs : Sy G X K o N h) (hX : X.2.2.2.2.2 = false) : sy_GR X.2.2.1 h o := by
  obtain ⟨w, c, hs⟩ := hs
  exact hs.2.2.1.2.2.2 (sy_o hX)
theorem Sy.putST (hs : Sy G X K o N h) (hX : X.2.2.2.2.2 = false) (x : Int32) : Sy G X K o N (jj_up h.1 (X.2.2.1 9) (.inr (0, [.ref (X.2.2.1 0), .ref (X.2.2.1 10), .ref (X.2.2.1 7), .ref (X.2.2.1 11), .ref (X.2.2.1 12), .int x])), h.2) := by
  obtain ⟨w, c, hs⟩ := hs
  obtain ⟨o1, o2, o3, o4⟩ := id hs.2.2.1
  refine ⟨w, c, hs.ob_upd (i := 9) (j := 0) (by decide) (by decide) (sy_o hX) ⟨fun _ => ⟨x, jj_up_self⟩, ?_, fun q => ?_, fun q => ?_⟩ (fun q hq => jj_up_ne hq) (Nat.le_refl _) (Nat.le_refl _) (Nat.le_refl _)⟩
  · obtain ⟨y, e⟩ := o2
    exact ⟨y, (jj_up_ne (hs.ne (by decide) (by decide) (by decide) (sy_p (by decide)) (sy_o hX))).trans e⟩
  · obtain ⟨y, e⟩ := o3 q
    exact ⟨y, (jj_up_ne (hs.ne (by decide) (by decide) (by decide) q (sy_o hX))).trans e⟩
  · obtain ⟨a, b, c, d, e, f, e4⟩ := o4 q
    exact ⟨a, b, c, d, e, f, (jj_up_ne (hs.ne (by decide) (by decide) (by decide) q (sy_o hX))).trans e4⟩
theorem Sy.putSP (hs : Sy G X K o N h) (x : Int32) : Sy G X K o N (jj_up h.1 (X.2.2.1 10) (.inr (3, [.ref (X.2.2.1 1), .ref (X.2.2.1 2), .ref (X.2.2.1 3), .ref (X.2.2.1 4), .int x])), h.2) := by
  obtain ⟨w, c, hs⟩ := hs
  obtain ⟨o1, o2, o3, o4⟩ := id hs.2.2.1
  refine ⟨w, c, hs.ob_upd (i := 10) (j := 0) (by decide) (by decide) (sy_p (by decide)) ⟨fun q => ?_, ⟨x, jj_up_self⟩, fun q => ?_, fun q => ?_⟩ (fun q hq => jj_up_ne hq) (Nat.le_refl _) (Nat.le_refl _) (Nat.le_refl _)⟩
  · obtain ⟨y, e⟩ := o1 q
    exact ⟨y, (jj_up_ne (hs.ne (by decide) (by decide) (by decide) q (sy_p (by decide)))).trans e⟩
  · obtain ⟨y, e⟩ := o3 q
    exact ⟨y, (jj_up_ne (hs.ne (by decide) (by decide) (by decide) q (sy_p (by decide)))).trans e⟩
  · obtain ⟨a, b, c, d, e, f, e4⟩ := o4 q
    exact ⟨a, b, c, d, e, f, (jj_up_ne (hs.ne (by decide) (by decide) (by decide) q (sy_p (by decide)))).trans e4⟩
theorem Sy.putSC (hs : Sy G X K o N h) (hX : X.2.2.2.2.2 = false) (x : Int32) : Sy G X K o N (jj_up h.1 (X.2.2.1 11) (.inr (4, [.ref (X.2.2.1 0), .ref (X.2.2.1 10), .ref (X.2.2.1 8), .int x])), h.2) := by
  obtain ⟨w, c, hs⟩ := hs
  obtain ⟨o1, o2, o3, o4⟩ := id hs.2.2.1
  refine ⟨w, c, hs.ob_upd (i := 11) (j := 0) (by decide) (by decide) (sy_o hX) ⟨fun q => ?_, ?_, fun _ => ⟨x, jj_up_self⟩, fun q => ?_⟩ (fun q hq => jj_up_ne hq) (Nat.le_refl _) (Nat.le_refl _) (Nat.le_refl _)⟩
  · obtain ⟨y, e⟩ := o1 q
    exact ⟨y, (jj_up_ne (hs.ne (by decide) (by decide) (by decide) q (sy_o hX))).trans e⟩
  · obtain ⟨y, e⟩ := o2
    exact ⟨y, (jj_up_ne (hs.ne (by decide) (by decide) (by decide) (sy_p (by decide)) (sy_o hX))).trans e⟩
  · obtain ⟨a, b, c, d, e, f, e4⟩ := o4 q
    exact ⟨a, b, c, d, e, f, (jj_up_ne (hs.ne (by decide) (by decide) (by decide) q (sy_o hX))).trans e4⟩
/-- the grammar's own fields anew, and perhaps a throw -/
theorem Sy.newGR (hs : Sy G X K o N h) (hX : X.2.2.2.2.2 = false) {h' : jj_H} {o' j : Nat} (hg : sy_GR X.2.2.1 h' o') (hk : ∀ q, q ≠ X.2.2.1 12 → h'.1 q = h.1 q) (hz : h.2.1 ≤ h'.2.1) (h1 : h'.2.1 ≤ h.2.1 + j) (h2 : h'.2.2 ≤ h.2.2 + 6 * j) : Sy G X (K + j) o' N h' := by
  obtain ⟨w, c, hs⟩ := hs
  obtain ⟨o1, o2, o3, -⟩ := id hs.2.2.1
  refine ⟨w, c, hs.ob_upd (i := 12) (j := j) (by decide) (by decide) (sy_o hX) ⟨fun q => ?_, ?_, fun q => ?_, fun _ => hg⟩ hk hz h1 h2⟩
  · obtain ⟨y, e⟩ := o1 q
    exact ⟨y, (hk _ (hs.ne (by decide) (by decide) (by decide) q (sy_o hX))).trans e⟩
  · obtain ⟨y, e⟩ := o2
    exact ⟨y, (hk _ (hs.ne (by decide) (by decide) (by decide) (sy_p (by decide)) (sy_o hX))).trans e⟩
  · obtain ⟨y, e⟩ := o3 q
    exact ⟨y, (hk _ (hs.ne (by decide) (by decide) (by decide) q (sy_o hX))).trans e⟩
theorem Sy.putGR (hs : Sy G X K o N h) (hX : X.2.2.2.2.2 = false) (ki va pl fa fp ne : Int32) (o' : Nat) : Sy G X K o' N (jj_up h.1 (X.2.2.1 12) (.inr (5, [.ref (X.2.2.1 0), .ref (X.2.2.1 5), .ref (X.2.2.1 6), .int ki, .int va, .int pl, .int fa, .int fp, .ref (X.2.2.1 8), .ref (X.2.2.1 7), .int ne, .int (nI o')])), h.2) :=
  hs.newGR hX (j := 0) ⟨ki, va, pl, fa, fp, ne, jj_up_self⟩ (fun q hq => jj_up_ne hq) (Nat.le_refl _) (Nat.le_refl _) (Nat.le_refl _)
/-! receivers -/
theorem Sy.rcR (hs : Sy G X K o N h) {t : Nat} (ht : t < 7) (hon : sy_on X t) : jj_rcv G h (X.2.2.1 t) "SourceTree$IntRow" := by
  obtain ⟨w, c, hs⟩ := hs
  obtain ⟨a, f, n, r1, -⟩ := hs.1 t ht hon
  exact jj_rcv.ob ck_IR.1 r1
theorem Sy.rcT (hs : Sy G X K o N h) {t : Nat} (h7 : 7 ≤ t) (ht : t < 9) (hon : sy_on X t) : jj_rcv G h (X.2.2.1 t) "SourceTree$Table" := by
  obtain ⟨w, c, hs⟩ := hs
  obtain ⟨a, f, n, r1, -⟩ := hs.2.1 t h7 ht hon
  exact jj_rcv.ob ck_TB.1 r1
theorem Sy.rcST (hs : Sy G X K o N h) (hX : X.2.2.2.2.2 = false) : jj_rcv G h (X.2.2.1 9) "SourceTree" := by
  obtain ⟨x, e⟩ := hs.st hX
  exact jj_rcv.ob ck_ST.1 e
theorem Sy.rcSP (hs : Sy G X K o N h) : jj_rcv G h (X.2.2.1 10) "SourceTree$Spellings" := by
  obtain ⟨x, e⟩ := hs.sp
  exact jj_rcv.ob ck_SP.1 e
theorem Sy.rcSC (hs : Sy G X K o N h) (hX : X.2.2.2.2.2 = false) : jj_rcv G h (X.2.2.1 11) "SourceTree$Scanner" := by
  obtain ⟨x, e⟩ := hs.sc hX
  exact jj_rcv.ob ck_SC.1 e
theorem Sy.rcGR (hs : Sy G X K o N h) (hX : X.2.2.2.2.2 = false) : jj_rcv G h (X.2.2.1 12) "SourceTree$Grammar" := by
  obtain ⟨_, _, _, _, _, _, e⟩ := hs.gr hX
  exact jj_rcv.ob ck_GR.1 e
end SYP
/-- how a call of the system's ends: ty 0 nothing, 1 an int, 2 a boolean, 3 an int that is not below 0, 9 never; thr whether it may throw -/
def sy_F (ty : Nat) (thr : Bool) (G : jj_G) (X : sy_X) (K o N : Nat) : jj_O → jj_H → Prop := fun out h' => match out with
  | .inl none => ty = 0 ∧ Sy G X K o N h'
  | .inl (some (.int v)) => (ty = 1 ∨ (ty = 2 ∧ (v = 0 ∨ v = 1)) ∨ (ty = 3 ∧ 0 ≤ v)) ∧ Sy G X K o N h'
  | .inl (some _) => False
  | .inr E => thr = true ∧ E = "java/lang/IllegalStateException" ∧ ∃ o', Sy G X (K + 1) o' N h'
section SYC
variable {l : Launch} {G : jj_G} {Y Y' : jj_Y} {d d' : Nat} {F : jj_O → jj_H → Prop} {pc : Nat} {L : List (Option Value)} {st as rest : List Value} {h : jj_H} {X : sy_X} {K o N ty : Nat} {thr : Bool}
theorem sy_cv (hQ : jj_Q l G Y' d' as h (sy_F 0 thr G X K o N)) (hR : ∀ o1 h1, jj_C l G Y' d' as h o1 h1 → jj_R l G Y d as h o1 h1 pc st rest) (hcov : (tableOf Y.2.2.2.2).all (fun x => !covers x pc) = true)
    (hx : thr = true → ∀ o' h1, Sy G X (K + 1) o' N h1 → F (.inr "java/lang/IllegalStateException") h1) (k : ∀ h1, Sy G X K o N h1 → jj_P l G Y d F (pc + 3) L rest h1) : jj_P l G Y d F pc L st h := by
  refine jj_call hQ hR hcov (fun v h1 hP => ?_) (fun E h1 hP => ?_)
  · cases v with
    | none => exact k h1 hP.2
    | some v =>
      cases v with
      | int v =>
        obtain ⟨q | ⟨q, -⟩ | ⟨q, -⟩, -⟩ := hP <;> exact absurd q (by decide)
      | _ => exact hP.elim
  · obtain ⟨q, rfl, o', hS⟩ := hP
    exact hx q o' h1 hS
theorem sy_ci (hQ : jj_Q l G Y' d' as h (sy_F ty thr G X K o N)) (hR : ∀ o1 h1, jj_C l G Y' d' as h o1 h1 → jj_R l G Y d as h o1 h1 pc st rest) (hty : ty ≠ 0) (hcov : (tableOf Y.2.2.2.2).all (fun x => !covers x pc) = true)
    (hx : thr = true → ∀ o' h1, Sy G X (K + 1) o' N h1 → F (.inr "java/lang/IllegalStateException") h1) (k : ∀ (v : Int32) (h1 : jj_H), (ty = 3 → 0 ≤ v) → Sy G X K o N h1 → jj_P l G Y d F (pc + 3) L (.int v :: rest) h1) : jj_P l G Y d F pc L st h := by
  refine jj_call hQ hR hcov (fun v h1 hP => ?_) (fun E h1 hP => ?_)
  · cases v with
    | none => exact absurd hP.1 hty
    | some v =>
      cases v with
      | int v =>
        refine k v h1 (fun q => ?_) hP.2
        obtain ⟨z | ⟨z, -⟩ | ⟨-, z⟩, -⟩ := hP
        · exact absurd (z.symm.trans q) (by decide)
        · exact absurd (z.symm.trans q) (by decide)
        · exact z
      | _ => exact hP.elim
  · obtain ⟨q, rfl, o', hS⟩ := hP
    exact hx q o' h1 hS
/-- a callee that never returns -/
theorem sy_cx (hQ : jj_Q l G Y' d' as h (sy_F 9 thr G X K o N)) (hR : ∀ o1 h1, jj_C l G Y' d' as h o1 h1 → jj_R l G Y d as h o1 h1 pc st rest) (hcov : (tableOf Y.2.2.2.2).all (fun x => !covers x pc) = true)
    (hx : ∀ o' h1, Sy G X (K + 1) o' N h1 → F (.inr "java/lang/IllegalStateException") h1) : jj_P l G Y d F pc L st h := by
  refine jj_call hQ hR hcov (fun v h1 hP => ?_) (fun E h1 hP => ?_)
  · cases v with
    | none => exact absurd hP.1 (by decide)
    | some v =>
      cases v with
      | int v =>
        obtain ⟨q | ⟨q, -⟩ | ⟨q, -⟩, -⟩ := hP <;> exact absurd q (by decide)
      | _ => exact hP.elim
  · obtain ⟨q, rfl, o', hS⟩ := hP
    exact hx o' h1 hS
/-- one more is open, or it threw -/
def sy_En (G : jj_G) (X : sy_X) (K o N m : Nat) : jj_O → jj_H → Prop := fun out h' => (out = .inl none ∧ 0 < m ∧ Sy G X K (o + 1) N h') ∨ (out = .inr "java/lang/IllegalStateException" ∧ ∃ o', Sy G X (K + 1) o' N h')
theorem sy_ce {m : Nat} (hQ : jj_Q l G Y' d' as h (sy_En G X K o N m)) (hR : ∀ o1 h1, jj_C l G Y' d' as h o1 h1 → jj_R l G Y d as h o1 h1 pc st rest) (hcov : (tableOf Y.2.2.2.2).all (fun x => !covers x pc) = true)
    (hx : ∀ o' h1, Sy G X (K + 1) o' N h1 → F (.inr "java/lang/IllegalStateException") h1) (k : ∀ h1, 0 < m → Sy G X K (o + 1) N h1 → jj_P l G Y d F (pc + 3) L rest h1) : jj_P l G Y d F pc L st h := by
  refine jj_call hQ hR hcov (fun v h1 hP => ?_) (fun E h1 hP => ?_)
  · rcases hP with ⟨q, hm, hS⟩ | ⟨q, -⟩
    · cases q
      exact k h1 hm hS
    · cases q
  · rcases hP with ⟨q, -⟩ | ⟨q, o', hS⟩
    · cases q
    · cases q
      exact hx o' h1 hS
theorem sy_pure {v : Int32} (hs : Sy G X K o N h) (hQ : jj_Q l G Y d as h (fun o1 h' => o1 = .inl (some (.int v)) ∧ h' = h)) : jj_Q l G Y d as h (sy_F 1 thr G X K o N) := by
  refine hQ.imp ?_
  rintro o1 h1 ⟨rfl, rfl⟩
  exact ⟨Or.inl rfl, hs⟩
theorem sy_putGR {index k : Nat} {v : Int32} (hs : Sy G X K o N h) (hX : X.2.2.2.2.2 = false) (hk : k = 3 ∨ k = 4 ∨ k = 5 ∨ k = 6 ∨ k = 7 ∨ k = 10) (hl : jj_fl Y.1.cls index T_GR k) (hd : decode Y.2.1 pc = .ok (.putfield index, 3)) (kk : ∀ h1, Sy G X K o N h1 → jj_P l G Y d F (pc + 3) L st h1) : jj_P l G Y d F pc L (.int v :: .ref (X.2.2.1 12) :: st) h := by
  obtain ⟨ki, va, pl, fa, fp, ne, hg⟩ := hs.gr hX
  rcases hk with rfl | rfl | rfl | rfl | rfl | rfl
  · exact jj_putfield 3 ck_GR hl (by decide) rfl hd hg rfl rfl (Nat.lt_of_sub_eq_succ rfl) (kk _ (hs.putGR hX v va pl fa fp ne o))
  · exact jj_putfield 4 ck_GR hl (by decide) rfl hd hg rfl rfl (Nat.lt_of_sub_eq_succ rfl) (kk _ (hs.putGR hX ki v pl fa fp ne o))
  · exact jj_putfield 5 ck_GR hl (by decide) rfl hd hg rfl rfl (Nat.lt_of_sub_eq_succ rfl) (kk _ (hs.putGR hX ki va v fa fp ne o))
  · exact jj_putfield 6 ck_GR hl (by decide) rfl hd hg rfl rfl (Nat.lt_of_sub_eq_succ rfl) (kk _ (hs.putGR hX ki va pl v fp ne o))
  · exact jj_putfield 7 ck_GR hl (by decide) rfl hd hg rfl rfl (Nat.lt_of_sub_eq_succ rfl) (kk _ (hs.putGR hX ki va pl fa v ne o))
  · exact jj_putfield 10 ck_GR hl (by decide) rfl hd hg rfl rfl (Nat.lt_of_sub_eq_succ rfl) (kk _ (hs.putGR hX ki va pl fa fp v o))
theorem sy_putO {index o' : Nat} {v : Int32} (hs : Sy G X K o N h) (hX : X.2.2.2.2.2 = false) (hv : v = nI o') (hl : jj_fl Y.1.cls index T_GR 11) (hd : decode Y.2.1 pc = .ok (.putfield index, 3)) (kk : ∀ h1, Sy G X K o' N h1 → jj_P l G Y d F (pc + 3) L st h1) : jj_P l G Y d F pc L (.int v :: .ref (X.2.2.1 12) :: st) h := by
  subst hv
  obtain ⟨ki, va, pl, fa, fp, ne, hg⟩ := hs.gr hX
  exact jj_putfield 11 ck_GR hl (by decide) rfl hd hg rfl rfl (Nat.lt_of_sub_eq_succ rfl) (kk _ (hs.putGR hX ki va pl fa fp ne o'))
theorem sy_putSP {index : Nat} {v : Int32} (hs : Sy G X K o N h) (hl : jj_fl Y.1.cls index T_SP 4) (hd : decode Y.2.1 pc = .ok (.putfield index, 3)) (kk : ∀ h1, Sy G X K o N h1 → jj_P l G Y d F (pc + 3) L st h1) : jj_P l G Y d F pc L (.int v :: .ref (X.2.2.1 10) :: st) h := by
  obtain ⟨x, hg⟩ := hs.sp
  exact jj_putfield 4 ck_SP hl (by decide) rfl hd hg rfl rfl (Nat.lt_of_sub_eq_succ rfl) (kk _ (hs.putSP v))
theorem sy_putSC {index : Nat} {v : Int32} (hs : Sy G X K o N h) (hX : X.2.2.2.2.2 = false) (hl : jj_fl Y.1.cls index T_SC 3) (hd : decode Y.2.1 pc = .ok (.putfield index, 3)) (kk : ∀ h1, Sy G X K o N h1 → jj_P l G Y d F (pc + 3) L st h1) : jj_P l G Y d F pc L (.int v :: .ref (X.2.2.1 11) :: st) h := by
  obtain ⟨x, hg⟩ := hs.sc hX
  exact jj_putfield 3 ck_SC hl (by decide) rfl hd hg rfl rfl (Nat.lt_of_sub_eq_succ rfl) (kk _ (hs.putSC hX v))
theorem sy_putST {index : Nat} {v : Int32} (hs : Sy G X K o N h) (hX : X.2.2.2.2.2 = false) (hl : jj_fl Y.1.cls index T_ST 5) (hd : decode Y.2.1 pc = .ok (.putfield index, 3)) (kk : ∀ h1, Sy G X K o N h1 → jj_P l G Y d F (pc + 3) L st h1) : jj_P l G Y d F pc L (.int v :: .ref (X.2.2.1 9) :: st) h := by
  obtain ⟨x, hg⟩ := hs.st hX
  exact jj_putfield 5 ck_ST hl (by decide) rfl hd hg rfl rfl (Nat.lt_of_sub_eq_succ rfl) (kk _ (hs.putST hX v))
/-! fewer locals known -/
def jj_sub : List (Option Value) → List (Option Value) → Prop
  | [], _ => True
  | none :: r, _ :: q => jj_sub r q
  | some v :: r, w :: q => w = some v ∧ jj_sub r q
  | _ :: _, [] => False
theorem js_0 {q : List (Option Value)} : jj_sub [] q := by unfold jj_sub; trivial
theorem js_n {r q : List (Option Value)} {w : Option Value} (h : jj_sub r q) : jj_sub (none :: r) (w :: q) := h
theorem js_s {r q : List (Option Value)} {v : Value} (h : jj_sub r q) : jj_sub (some v :: r) (some v :: q) := ⟨rfl, h⟩
theorem jj_sub_get : ∀ (L' L : List (Option Value)), jj_sub L' L → ∀ (i : Nat) (v : Value), L'[i]? = some (some v) → L[i]? = some (some v) := by
  intro L'
  induction L' with
  | nil => intro L _ i v h; simp at h
  | cons a r ih =>
    intro L hs i v h
    cases L with
    | nil => cases a <;> exact hs.elim
    | cons w q =>
      cases a with
      | none =>
        cases i with
        | zero => simp at h
        | succ i => simpa using ih q hs i v (by simpa using h)
      | some x =>
        cases i with
        | zero =>
          simp at h
          subst h
          simp [hs.1]
        | succ i => simpa using ih q hs.2 i v (by simpa using h)
theorem jj_wk {L' : List (Option Value)} (hs : jj_sub L' L) (k : jj_P l G Y d F pc L' st h) : jj_P l G Y d F pc L st h := by
  obtain ⟨o, h', hF, hm, hE⟩ := k
  refine ⟨o, h', hF, hm, fun p e R s m args below meth c H locs cells slots Q ls hx hw hr hS hH hL hK => ?_⟩
  exact hE p e R s m args below meth c H locs cells slots Q ls hx hw hr hS hH ⟨hL.1, hL.2.1, fun i v hv => hL.2.2 i v (jj_sub_get L' L hs i v hv)⟩ hK
/-! switches over any int -/
theorem jt_0 {P : Nat → Prop} : ∀ t ∈ ([] : List Nat), P t := by intro t ht; cases ht
theorem jt_c {P : Nat → Prop} {a : Nat} {r : List Nat} (h1 : P a) (h2 : ∀ t ∈ r, P t) : ∀ t ∈ a :: r, P t := by
  intro t ht
  rcases List.mem_cons.mp ht with rfl | q
  · exact h1
  · exact h2 t q
theorem jj_tableAny {dflt lo hi : Int} {offs : Array Int} {len : Nat} {x : Int32} {ts : List Nat} (hd : decode Y.2.1 pc = .ok (.tableswitch dflt lo hi offs, len)) (hn : (hi - lo).toNat < offs.size) (ht : ∀ off ∈ dflt :: offs.toList, ∃ t ∈ ts, (pc : Int) + off = (t : Int)) (k : ∀ t ∈ ts, jj_P l G Y d F t L st h) : jj_P l G Y d F pc L (.int x :: st) h := by
  by_cases h1 : x.toInt < lo ∨ hi < x.toInt
  · obtain ⟨t, t1, t2⟩ := ht dflt List.mem_cons_self
    exact jj_tableOut hd h1 t2 (k t t1)
  · have h2 : ¬ x.toInt < lo := fun q => h1 (Or.inl q)
    have h3 : ¬ hi < x.toInt := fun q => h1 (Or.inr q)
    have h4 : (x.toInt - lo).toNat < offs.size := by omega
    obtain ⟨t, t1, t2⟩ := ht offs[(x.toInt - lo).toNat] (List.mem_cons_of_mem _ (Array.getElem_mem_toList h4))
    exact jj_tableIn hd h2 h3 (Array.getElem?_eq_getElem h4) t2 (k t t1)
theorem jj_lookupIn : ∀ (ps : List (Int × Int)) (dflt x : Int), Op.lookupswitch.offset ps dflt x ∈ dflt :: ps.map (fun q => q.2) := by
  intro ps
  induction ps with
  | nil => intro dflt x; rw [Op.lookupswitch.offset_nil]; exact List.mem_cons_self
  | cons p r ih =>
    intro dflt x
    obtain ⟨a, o⟩ := p
    rw [Op.lookupswitch.offset_cons]
    by_cases hk : a = x
    · rw [if_pos hk]; exact List.mem_cons_of_mem _ List.mem_cons_self
    · rw [if_neg hk]
      rcases List.mem_cons.mp (ih dflt x) with q | q
      · rw [q]; exact List.mem_cons_self
      · exact List.mem_cons_of_mem _ (List.mem_cons_of_mem _ q)
theorem jj_lookupAny {dflt : Int} {ps : Array (Int × Int)} {len : Nat} {x : Int32} {ts : List Nat} (hd : decode Y.2.1 pc = .ok (.lookupswitch dflt ps, len)) (hp : (ps.toList.zip (ps.toList.drop 1)).all (fun (a, next) => a.1 < next.1) = true) (ht : ∀ off ∈ dflt :: ps.toList.map (fun q => q.2), ∃ t ∈ ts, (pc : Int) + off = (t : Int)) (k : ∀ t ∈ ts, jj_P l G Y d F t L st h) : jj_P l G Y d F pc L (.int x :: st) h := by
  obtain ⟨t, t1, t2⟩ := ht _ (jj_lookupIn ps.toList dflt x.toInt)
  exact jj_lookup hd hp rfl t2 (k t t1)
end SYC
/-- an int below another can go up -/
theorem up_lt {i b : Int32} {n : Nat} (hlt : i < b) (hn : (2147483647 - i.toInt).toNat < n + 1) : (2147483647 - (i + Int32.ofInt 1).toInt).toNat < n := by
  have h1 := Int32.lt_iff_toInt_lt.mp hlt
  have h2 := b.toInt_lt
  have h3 := i.le_toInt
  have h4 : (i + Int32.ofInt 1).toInt = i.toInt + 1 := by
    rw [Int32.toInt_add, show (Int32.ofInt 1).toInt = 1 from rfl]
    exact Int.bmod_eq_of_le (by omega) (by omega)
  omega
theorem dn_lt {i b : Int32} {n : Nat} (hb : 0 ≤ b) (hle : b ≤ i) (hn : (i.toInt + 1).toNat < n + 1) : ((i + Int32.ofInt (-1)).toInt + 1).toNat < n := by
  have h0 := Int32.le_iff_toInt_le.mp hb
  rw [show (0 : Int32).toInt = 0 from rfl] at h0
  have h1 := Int32.le_iff_toInt_le.mp hle
  have h2 := i.toInt_lt
  have h4 : (i + Int32.ofInt (-1)).toInt = i.toInt - 1 := by
    rw [Int32.toInt_add, show (Int32.ofInt (-1)).toInt = -1 from rfl]
    exact Int.bmod_eq_of_le (by omega) (by omega)
  omega
end
section
/-! rows and tables under any int: what a call may change of them -/
/-- row r of array a and room cap, with n in it, is one with n' in it: in its array, or in a new one of twice the room -/
def rw_ch (ci k b : Nat) (G : jj_G) (h : jj_H) (r a cap n n' : Nat) (h' : jj_H) : Prop := ∃ (a' cap' : Nat) (f' : Nat → Int32), ((a' = a ∧ cap' = cap ∧ h'.2 = h.2) ∨ (a' = h.2.1 ∧ cap' = 2 * cap ∧ cap < k * n + k ∧ n < b ∧ h'.2 = (h.2.1 + 1, h.2.2 + 2 * cap))) ∧ h'.1 r = some (.inr (ci, [.ref a', .int (nI n')])) ∧ h'.1 a' = some (.inl (jj_cI G, cap', .inl f')) ∧ k * n' ≤ cap' ∧ n' ≤ b ∧ ∀ q, q ≠ r → q ≠ a' → h'.1 q = h.1 q
theorem rw_ch.same {ci k b : Nat} {G : jj_G} {h : jj_H} {r a cap n : Nat} {f : Nat → Int32} (h1 : h.1 r = some (.inr (ci, [.ref a, .int (nI n)]))) (h2 : h.1 a = some (.inl (jj_cI G, cap, .inl f))) (h3 : k * n ≤ cap) (h4 : n ≤ b) : rw_ch ci k b G h r a cap n n h := ⟨a, cap, f, Or.inl ⟨rfl, rfl, rfl⟩, h1, h2, h3, h4, fun _ _ _ => rfl⟩
set_option maxRecDepth 100000 in
set_option maxHeartbeats 4000000 in
theorem d_IR_cutTo {l : Launch} {G : jj_G} {d : Nat} {h : jj_H} {r a cap n : Nat} {f : Nat → Int32} {j : Int32} (hr : rw_is 1 G h r a cap f n) : jj_Q l G y_IR_cutTo d [.ref r, .int j] h (fun o h' => o = .inl none ∧ (h' = h ∨ ∃ m : Nat, m ≤ n ∧ h' = (jj_up h.1 r (.inr (1, [.ref a, .int (nI m)])), h.2))) := by
  obtain ⟨hrr, hra, hn, hc0, hc1, hne⟩ := hr
  refine jj_Q.of (by decide +kernel) (Nat.le_of_ble_eq_true rfl) ?_
  refine jj_iload_n (j := 1) (by decide +kernel) rfl ?_
  refine jj_if_lt (off := 16) (tgt := 17) (by decide +kernel) (by decide) (fun c1 => ?_) (fun c1 => ?_)
  · skip
    refine jj_vret (by decide +kernel) rfl ?_
    exact ⟨rfl, Or.inl rfl⟩
  · skip
    refine jj_iload_n (j := 1) (by decide +kernel) rfl ?_
    refine jj_aload_n (j := 0) (by decide +kernel) rfl ?_
    refine jj_getfield 1 ck_IR fl_IR_15 (by decide) (by decide +kernel) (by assumption) rfl ?_
    refine jj_icmp_gt (off := 8) (tgt := 17) (by decide +kernel) (by decide) (fun c2 => ?_) (fun c2 => ?_)
    · skip
      refine jj_vret (by decide +kernel) rfl ?_
      exact ⟨rfl, Or.inl rfl⟩
    · skip
      obtain ⟨m, hm, rfl⟩ := nI_of2 (nI_toInt (by omega)) c1 (Int32.not_lt.mp c2)
      refine jj_aload_n (j := 0) (by decide +kernel) rfl ?_
      refine jj_iload_n (j := 1) (by decide +kernel) rfl ?_
      refine jj_putfield 1 ck_IR fl_IR_15 (by decide) rfl (by decide +kernel) hrr rfl rfl (Nat.lt_of_sub_eq_succ rfl) ?_
      refine jj_vret (by decide +kernel) rfl ?_
      exact ⟨rfl, Or.inr ⟨m, hm, rfl⟩⟩
set_option maxRecDepth 100000 in
set_option maxHeartbeats 4000000 in
theorem d_IR_put {l : Launch} {G : jj_G} {d : Nat} {h : jj_H} {r a cap n : Nat} {f : Nat → Int32} {j v : Int32} (hG : jj_tyG G) (hr : rw_is 1 G h r a cap f n) : jj_Q l G y_IR_put d [.ref r, .int j, .int v] h (fun o h' => o = .inl none ∧ (h' = h ∨ ∃ f' : Nat → Int32, h' = (jj_up h.1 a (.inl (jj_cI G, cap, .inl f')), h.2))) := by
  obtain ⟨hrr, hra, hn, hc0, hc1, hne⟩ := hr
  refine jj_Q.of (by decide +kernel) (Nat.le_of_ble_eq_true rfl) ?_
  refine jj_iload_n (j := 1) (by decide +kernel) rfl ?_
  refine jj_if_lt (off := 27) (tgt := 28) (by decide +kernel) (by decide) (fun c1 => ?_) (fun c1 => ?_)
  · skip
    refine jj_vret (by decide +kernel) rfl ?_
    exact ⟨rfl, Or.inl rfl⟩
  · skip
    refine jj_iload_n (j := 1) (by decide +kernel) rfl ?_
    refine jj_aload_n (j := 0) (by decide +kernel) rfl ?_
    refine jj_getfield 1 ck_IR fl_IR_15 (by decide) (by decide +kernel) (by assumption) rfl ?_
    refine jj_icmp_ge (off := 19) (tgt := 28) (by decide +kernel) (by decide) (fun c2 => ?_) (fun c2 => ?_)
    · skip
      refine jj_vret (by decide +kernel) rfl ?_
      exact ⟨rfl, Or.inl rfl⟩
    · skip
      refine jj_iload_n (j := 1) (by decide +kernel) rfl ?_
      refine jj_aload_n (j := 0) (by decide +kernel) rfl ?_
      refine jj_getfield 0 ck_IR fl_IR_9 (by decide) (by decide +kernel) (by assumption) rfl ?_
      refine jj_arraylength (jj_tI hG) (by decide +kernel) hra rfl ?_
      refine jj_icmp_ge (off := 10) (tgt := 28) (by decide +kernel) (by decide) (fun c3 => ?_) (fun c3 => ?_)
      · skip
        refine jj_vret (by decide +kernel) rfl ?_
        exact ⟨rfl, Or.inl rfl⟩
      · skip
        refine jj_aload_n (j := 0) (by decide +kernel) rfl ?_
        refine jj_getfield 0 ck_IR fl_IR_9 (by decide) (by decide +kernel) (by assumption) rfl ?_
        refine jj_iload_n (j := 1) (by decide +kernel) rfl ?_
        refine jj_iload_n (j := 2) (by decide +kernel) rfl ?_
        obtain ⟨j0, hj, rfl⟩ : ∃ j0 : Nat, j0 < n ∧ j = nI j0 := by
          rcases pk_ix j (n := n) (by omega) with q | q | q
          · exact absurd q c1
          · exact absurd q c2
          · exact q
        refine jj_iastore (jj_tI hG) (by decide +kernel) hra (vp_in_nI (by omega) (by omega)) ?_
        refine jj_vret (by decide +kernel) rfl ?_
        exact ⟨rfl, Or.inr ⟨_, rfl⟩⟩
set_option maxRecDepth 100000 in
set_option maxHeartbeats 4000000 in
theorem d_IR_full {l : Launch} {G : jj_G} {d : Nat} {h : jj_H} {r a cap n : Nat} {f : Nat → Int32} {v : Int32} (hr : rw_is 1 G h r a cap f n) (hf : 32768 ≤ n) : jj_Q l G y_IR_add d [.ref r, .int v] h (fun o h' => o = .inl none ∧ h' = h) := by
  obtain ⟨hrr, hra, hn, hc0, hc1, hne⟩ := hr
  refine jj_Q.of (by decide +kernel) (Nat.le_of_ble_eq_true rfl) ?_
  refine jj_aload_n (j := 0) (by decide +kernel) rfl ?_
  refine jj_getfield 1 ck_IR fl_IR_15 (by decide) (by decide +kernel) (by assumption) rfl ?_
  refine jj_if_lt (off := 12) (tgt := 16) (by decide +kernel) (by decide) (fun c1 => ?_) (fun c1 => ?_)
  · skip
    refine jj_vret (by decide +kernel) rfl ?_
    exact absurd c1 (nI_pos (by omega))
  · skip
    refine jj_aload_n (j := 0) (by decide +kernel) rfl ?_
    refine jj_getfield 1 ck_IR fl_IR_15 (by decide) (by decide +kernel) (by assumption) rfl ?_
    refine jj_ldc (by decide +kernel) kc_IR_19 ?_
    refine jj_icmp_lt (off := 4) (tgt := 17) (by decide +kernel) (by decide) (fun c2 => ?_) (fun c2 => ?_)
    · skip
      exact absurd (show nI n < nI 32768 from c2) (nI_nlt hf (by omega))
    · skip
      refine jj_vret (by decide +kernel) rfl ?_
      exact ⟨rfl, rfl⟩
set_option maxRecDepth 100000 in
set_option maxHeartbeats 4000000 in
theorem p_TB_add_56 {l : Launch} {G : jj_G} {d : Nat} {F : jj_O → jj_H → Prop} {h : jj_H} {r a cap n : Nat} {f : Nat → Int32} {x y z : Int32} (hG : jj_tyG G) (hrr : h.1 r = some (.inr (2, [.ref a, .int (nI n)]))) (hra : h.1 a = some (.inl (jj_cI G, cap, .inl f))) (hne : r ≠ a) (hn : n ≤ 16385) (hc : cap ≤ 200000) (hF1 : cap < 3 * n + 3 → F (.inl none) h) (hF2 : 3 * n + 3 ≤ cap → ∀ f' : Nat → Int32, F (.inl none) (jj_up (jj_up h.1 a (.inl (jj_cI G, cap, .inl f'))) r (.inr (2, [.ref a, .int (nI n + 1)])), h.2)) : jj_P l G y_TB_add d F 56 [some (.ref r), some (.int x), some (.int y), some (.int z), some (.int (nI (3 * n)))] [] h := by
  refine jj_iload (i := 4) (by decide +kernel) rfl ?_
  refine jj_if_lt (off := 53) (tgt := 111) (by decide +kernel) (by decide) (fun c1 => ?_) (fun c1 => ?_)
  · skip
    refine jj_vret (by decide +kernel) rfl ?_
    exact absurd c1 (nI_pos (by omega))
  · skip
    refine jj_iload (i := 4) (by decide +kernel) rfl ?_
    refine jj_iconst (n := 3) (v := 3) (by decide +kernel) (by decide) ?_
    refine jj_iadd (by decide +kernel) ?_
    rw [show nI (3 * n) + 3 = nI (3 * n + 3) from nI_add _ 3]
    refine jj_aload_n (j := 0) (by decide +kernel) rfl ?_
    refine jj_getfield 0 ck_TB fl_TB_9 (by decide) (by decide +kernel) (by assumption) rfl ?_
    refine jj_arraylength (jj_tI hG) (by decide +kernel) hra rfl ?_
    refine jj_icmp_gt (off := 41) (tgt := 111) (by decide +kernel) (by decide) (fun c2 => ?_) (fun c2 => ?_)
    · skip
      refine jj_vret (by decide +kernel) rfl ?_
      exact hF1 ((nI_ltI (by omega) (by omega)).mp c2)
    · skip
      have hcap : 3 * n + 3 ≤ cap := Nat.not_lt.mp (fun q => c2 (nI_lt q (by omega)))
      refine jj_aload_n (j := 0) (by decide +kernel) rfl ?_
      refine jj_getfield 0 ck_TB fl_TB_9 (by decide) (by decide +kernel) (by assumption) rfl ?_
      refine jj_iload (i := 4) (by decide +kernel) rfl ?_
      refine jj_iload_n (j := 1) (by decide +kernel) rfl ?_
      refine jj_iastore (jj_tI hG) (by decide +kernel) hra (vp_in_nI (show 3 * n < cap by omega) (by omega)) ?_
      have hrr2 : ∀ e, (jj_up h.1 a e) r = some (.inr (2, [.ref a, .int (nI n)])) := fun e => (jj_up_ne hne).trans hrr
      refine jj_aload_n (j := 0) (by decide +kernel) rfl ?_
      refine jj_getfield 0 ck_TB fl_TB_9 (by decide) (by decide +kernel) (hrr2 _) rfl ?_
      refine jj_iload (i := 4) (by decide +kernel) rfl ?_
      refine jj_iconst (n := 1) (v := 1) (by decide +kernel) (by decide) ?_
      refine jj_iadd (by decide +kernel) ?_
      rw [show nI (3 * n) + 1 = nI (3 * n + 1) from nI_add _ 1]
      refine jj_iload_n (j := 2) (by decide +kernel) rfl ?_
      refine jj_iastore (jj_tI hG) (by decide +kernel) jj_up_self (vp_in_nI (show 3 * n + 1 < cap by omega) (by omega)) ?_
      rw [jj_up_up]
      refine jj_aload_n (j := 0) (by decide +kernel) rfl ?_
      refine jj_getfield 0 ck_TB fl_TB_9 (by decide) (by decide +kernel) (hrr2 _) rfl ?_
      refine jj_iload (i := 4) (by decide +kernel) rfl ?_
      refine jj_iconst (n := 2) (v := 2) (by decide +kernel) (by decide) ?_
      refine jj_iadd (by decide +kernel) ?_
      rw [show nI (3 * n) + 2 = nI (3 * n + 2) from nI_add _ 2]
      refine jj_iload_n (j := 3) (by decide +kernel) rfl ?_
      refine jj_iastore (jj_tI hG) (by decide +kernel) jj_up_self (vp_in_nI (show 3 * n + 2 < cap by omega) (by omega)) ?_
      rw [jj_up_up]
      refine jj_aload_n (j := 0) (by decide +kernel) rfl ?_
      refine jj_dup (by decide +kernel) rfl ?_
      refine jj_getfield 1 ck_TB fl_TB_15 (by decide) (by decide +kernel) (hrr2 _) rfl ?_
      refine jj_iconst (n := 1) (v := 1) (by decide +kernel) (by decide) ?_
      refine jj_iadd (by decide +kernel) ?_
      refine jj_putfield 1 ck_TB fl_TB_15 (by decide) rfl (by decide +kernel) (hrr2 _) rfl rfl (Nat.lt_of_sub_eq_succ rfl) ?_
      refine jj_vret (by decide +kernel) rfl ?_
      exact hF2 hcap _
set_option maxRecDepth 100000 in
set_option maxHeartbeats 4000000 in
theorem d_TB_add {l : Launch} {G : jj_G} {d : Nat} {h : jj_H} {r a cap n : Nat} {f : Nat → Int32} {x y z : Int32} (hG : jj_tyG G) (hr : tb_is G h r a cap f n) (hrl : r < h.2.1) (hal : a < h.2.1) (hn5 : n ≤ 16385) (hdd : 5 ≤ d) : jj_Q l G y_TB_add d [.ref r, .int x, .int y, .int z] h (fun o h' => o = .inl none ∧ ∃ n' : Nat, rw_ch 2 3 16385 G h r a cap n n' h') := by
  obtain ⟨hrr, hra, hn, hc0, hc1, hne⟩ := hr
  refine jj_Q.of (by decide +kernel) (Nat.le_of_ble_eq_true rfl) ?_
  refine jj_aload_n (j := 0) (by decide +kernel) rfl ?_
  refine jj_getfield 1 ck_TB fl_TB_15 (by decide) (by decide +kernel) (by assumption) rfl ?_
  refine jj_if_lt (off := 13) (tgt := 17) (by decide +kernel) (by decide) (fun c1 => ?_) (fun c1 => ?_)
  · skip
    refine jj_vret (by decide +kernel) rfl ?_
    exact absurd c1 (nI_pos (by omega))
  · skip
    refine jj_aload_n (j := 0) (by decide +kernel) rfl ?_
    refine jj_getfield 1 ck_TB fl_TB_15 (by decide) (by decide +kernel) (by assumption) rfl ?_
    refine jj_sipush (n := 16385) (v := 16385) (by decide +kernel) (by decide) ?_
    refine jj_icmp_lt (off := 4) (tgt := 18) (by decide +kernel) (by decide) (fun c2 => ?_) (fun c2 => ?_)
    · skip
      have hlt : n < 16385 := (nI_ltI (b := 16385) (by omega) (by omega)).mp c2
      refine jj_aload_n (j := 0) (by decide +kernel) rfl ?_
      refine jj_getfield 1 ck_TB fl_TB_15 (by decide) (by decide +kernel) (by assumption) rfl ?_
      refine jj_iconst (n := 3) (v := 3) (by decide +kernel) (by decide) ?_
      refine jj_imul (by decide +kernel) ?_
      rw [show nI n * 3 = nI (3 * n) from (pk_mul n 3).trans (by rw [Nat.mul_comm])]
      refine jj_istore (i := 4) (by decide +kernel) (by decide) rfl ?_
      refine jj_iload (i := 4) (by decide +kernel) rfl ?_
      refine jj_iconst (n := 3) (v := 3) (by decide +kernel) (by decide) ?_
      refine jj_iadd (by decide +kernel) ?_
      rw [show nI (3 * n) + 3 = nI (3 * n + 3) from nI_add _ 3]
      refine jj_aload_n (j := 0) (by decide +kernel) rfl ?_
      refine jj_getfield 0 ck_TB fl_TB_9 (by decide) (by decide +kernel) (by assumption) rfl ?_
      refine jj_arraylength (jj_tI hG) (by decide +kernel) hra rfl ?_
      refine jj_icmp_le (off := 21) (tgt := 56) (by decide +kernel) (by decide) (fun c3 => ?_) (fun c3 => ?_)
      · skip
        exact p_TB_add_56 hG hrr hra hne hn5 hc1 (fun q => absurd q (by have := (nI_leI (by omega) (by omega)).mp c3; omega)) (fun q f' => ⟨rfl, n + 1, a, cap, f', Or.inl ⟨rfl, rfl, rfl⟩, by rw [nI_succ]; exact jj_up_self, (jj_up_ne hne.symm).trans jj_up_self, by omega, by omega, fun q g1 g2 => (jj_up_ne g1).trans (jj_up_ne g2)⟩)
      · skip
        refine jj_aload_n (j := 0) (by decide +kernel) rfl ?_
        refine jj_aload_n (j := 0) (by decide +kernel) rfl ?_
        refine jj_getfield 0 ck_TB fl_TB_9 (by decide) (by decide +kernel) (by assumption) rfl ?_
        refine jj_aload_n (j := 0) (by decide +kernel) rfl ?_
        refine jj_getfield 0 ck_TB fl_TB_9 (by decide) (by decide +kernel) (by assumption) rfl ?_
        refine jj_arraylength (jj_tI hG) (by decide +kernel) hra rfl ?_
        refine jj_iconst (n := 2) (v := 2) (by decide +kernel) (by decide) ?_
        refine jj_imul (by decide +kernel) ?_
        have hcap : cap < 3 * n + 3 := Nat.not_le.mp (fun q => c3 (nI_le q (by omega)))
        rw [show Int32.ofNat cap * 2 = nI (2 * cap) from (pk_mul cap 2).trans (by rw [Nat.mul_comm])]
        refine jj_callr (c_JA_copyOf (d := 3) hG hra hal (m := 2 * cap) (by omega) (by omega) (Nat.le_refl _)) (fun o1 h1 hC => jj_callS ok_JA_copyOf ml_TB_19 st_JA_copyOf (by decide +kernel) rfl (by omega) (Nat.le_of_ble_eq_true rfl) hC) (by intro E h1 hp; cases hp.1) ?_
        rintro v1 h1 ⟨hv, rfl⟩
        cases hv
        have hrr2 : (jj_up h.1 h.2.1 (.inl (jj_cI G, 2 * cap, .inl (va_cpy f (fun _ => 0) 0 0 cap)))) r = some (.inr (2, [.ref a, .int (nI n)])) := (jj_up_ne (by omega)).trans hrr
        refine jj_putfield 0 ck_TB fl_TB_9 (by decide) rfl (by decide +kernel) hrr2 rfl rfl (Nat.lt_of_sub_eq_succ rfl) ?_
        refine p_TB_add_56 hG jj_up_self ((jj_up_ne (by omega)).trans jj_up_self) (by omega) hn5 (by omega) (fun q => ⟨rfl, n, h.2.1, 2 * cap, _, Or.inr ⟨rfl, rfl, hcap, hlt, rfl⟩, jj_up_self, (jj_up_ne (by omega)).trans jj_up_self, by omega, by omega, fun q g1 g2 => (jj_up_ne g1).trans (jj_up_ne g2)⟩) (fun q f' => ⟨rfl, n + 1, h.2.1, 2 * cap, f', Or.inr ⟨rfl, rfl, hcap, hlt, rfl⟩, by rw [nI_succ]; exact jj_up_self, (jj_up_ne (by omega)).trans jj_up_self, by omega, by omega, fun q g1 g2 => (jj_up_ne g1).trans ((jj_up_ne g2).trans ((jj_up_ne g1).trans (jj_up_ne g2)))⟩)
    · skip
      refine jj_vret (by decide +kernel) rfl ?_
      exact ⟨rfl, n, rw_ch.same hrr hra hn (by omega)⟩
theorem sy_in.ch {G : jj_G} {X : sy_X} {K o N N' : Nat} {h h' : jj_H} {w c : Nat → Nat} {t ci k b a n n' : Nat} (hs : sy_in G X K o N h w c) (hon : sy_on X t) (hc : (t < 7 ∧ ci = 1 ∧ k = 1 ∧ b = 32768) ∨ (7 ≤ t ∧ t < 9 ∧ ci = 2 ∧ k = 3 ∧ b = 16385)) (r7 : w a = t) (r8 : a < h.2.1) (r9 : X.2.2.1 t ≠ a) (r5 : 64 ≤ c t) (r6 : c t ≤ 200000) (hch : rw_ch ci k b G h (X.2.2.1 t) a (c t) n n' h') (hN : t = 0 → n' = N') (hN2 : t ≠ 0 → N' = N) : Sy G X K o N' h' := by
  obtain ⟨a', cap', f', hcase, h1, h2, h3, h4, h5⟩ := hch
  have hA := hs.2.2.2.1 t (by omega) hon
  have ht9 : t < 9 := by omega
  rcases hcase with ⟨rfl, rfl, hz⟩ | ⟨rfl, rfl, hb1, hb2, hz⟩
  · have hrow : sy_row G X.2.2.1 w c h' ci k b N' t := ⟨a', f', n', h1, h2, h3, h4, r5, r6, r7, by rw [hz]; exact r8, r9, hN⟩
    refine ⟨w, c, hs.row_upd (N' := N') ht9 hon ⟨fun q => ?_, fun q => ?_⟩ (fun q hq hw => h5 q ?_ ?_) (fun _ _ => rfl) (fun _ _ => rfl) hN2 (by rw [hz]; exact Nat.le_refl _) (by rw [hz]; exact Nat.le_refl _) (by rw [hz]; exact Nat.le_refl _)⟩
    · rcases hc with ⟨-, rfl, rfl, rfl⟩ | ⟨q1, -⟩
      · exact hrow
      · omega
    · rcases hc with ⟨q1, -⟩ | ⟨-, -, rfl, rfl, rfl⟩
      · omega
      · exact hrow
    · rintro rfl
      exact hw hA.1
    · rintro rfl
      exact hw r7
  · have hrow : sy_row G X.2.2.1 (fun q => if q = h.2.1 then t else w q) (fun i => if i = t then 2 * c t else c i) h' ci k b N' t := by
      refine ⟨h.2.1, f', n', h1, ?_, ?_, h4, ?_, ?_, ?_, ?_, ?_, hN⟩
      · dsimp only
        rw [if_pos rfl]; exact h2
      · dsimp only
        rw [if_pos rfl]; exact h3
      · dsimp only
        rw [if_pos rfl]; omega
      · dsimp only
        rw [if_pos rfl]
        rcases hc with ⟨-, -, rfl, rfl⟩ | ⟨-, -, -, rfl, rfl⟩ <;> omega
      · exact if_pos rfl
      · rw [hz]; exact Nat.lt_succ_self _
      · have := hA.2; omega
    refine ⟨(fun q => if q = h.2.1 then t else w q), (fun i => if i = t then 2 * c t else c i), hs.row_upd (N' := N') (w' := fun q => if q = h.2.1 then t else w q) (c' := fun i => if i = t then 2 * c t else c i) ht9 hon ⟨fun q => ?_, fun q => ?_⟩ (fun q hq hw => h5 q ?_ ?_) (fun q hq => if_neg (Nat.ne_of_lt hq)) (fun i hi => if_neg hi) hN2 (by rw [hz]; exact Nat.le_succ _) ?_ ?_⟩
    · rcases hc with ⟨-, rfl, rfl, rfl⟩ | ⟨q1, -⟩
      · exact hrow
      · omega
    · rcases hc with ⟨q1, -⟩ | ⟨-, -, rfl, rfl, rfl⟩
      · omega
      · exact hrow
    · rintro rfl
      exact hw hA.1
    · exact Nat.ne_of_lt hq
    · rw [hz]
      show 64 * (h.2.1 + 1) + c t ≤ 64 * h.2.1 + (if t = t then 2 * c t else c t)
      rw [if_pos rfl]
      omega
    · rw [hz]
      show h.2.2 + 2 * c t + 2 * c t ≤ h.2.2 + 2 * (if t = t then 2 * c t else c t)
      rw [if_pos rfl]
      omega
section SYR
variable {l : Launch} {G : jj_G} {X : sy_X} {K o N d t : Nat} {h : jj_H} {x y z : Int32}
theorem s_row_size (hs : Sy G X K o N h) (ht : t < 7) (hon : sy_on X t) : jj_Q l G y_IR_size d [.ref (X.2.2.1 t)] h (sy_F 3 false G X K o N) := by
  obtain ⟨w, c, hi⟩ := id hs
  obtain ⟨a, f, n, r1, r2, r3, r4, r5, r6, r7, r8, r9, r10⟩ := hi.1 t ht hon
  refine (c_IR_size ⟨r1, r2, by omega, by omega, r6, r9⟩).imp ?_
  rintro o1 h1 ⟨rfl, rfl⟩
  exact ⟨Or.inr (Or.inr ⟨rfl, nI_pos' (by omega)⟩), hs⟩
theorem s_row_at (hG : jj_tyG G) (hs : Sy G X K o N h) (ht : t < 7) (hon : sy_on X t) : jj_Q l G y_IR_at d [.ref (X.2.2.1 t), .int x] h (sy_F 1 false G X K o N) := by
  obtain ⟨w, c, hi⟩ := id hs
  obtain ⟨a, f, n, r1, r2, r3, r4, r5, r6, r7, r8, r9, r10⟩ := hi.1 t ht hon
  refine (c_IR_at hG ⟨r1, r2, by omega, by omega, r6, r9⟩).imp ?_
  rintro o1 h1 ⟨rfl, rfl⟩
  exact ⟨Or.inl rfl, hs⟩
theorem sy_add_ch {a cap n : Nat} {f : Nat → Int32} {r : Nat} {h h1 : jj_H} (r2 : h.1 a = some (.inl (jj_cI G, cap, .inl f))) (hrl : r < h.2.1) (hal : a < h.2.1) (hne : r ≠ a) (hnc : n ≤ cap) (hn : n < 32768) (e1 : n < cap → h1 = (jj_up (jj_up h.1 a (.inl (jj_cI G, cap, .inl (upd f n x)))) r (.inr (1, [.ref a, .int (nI (n + 1))])), h.2))
    (e2 : cap ≤ n → h1 = (jj_up (jj_up (jj_up (jj_up h.1 h.2.1 (.inl (jj_cI G, 2 * cap, .inl (va_cpy f (fun _ => 0) 0 0 cap)))) r (.inr (1, [.ref h.2.1, .int (nI n)]))) h.2.1 (.inl (jj_cI G, 2 * cap, .inl (upd (va_cpy f (fun _ => 0) 0 0 cap) n x)))) r (.inr (1, [.ref h.2.1, .int (nI (n + 1))])), h.2.1 + 1, h.2.2 + 2 * cap)) (hc0 : 0 < cap) : rw_ch 1 1 32768 G h r a cap n (n + 1) h1 := by
  rcases Nat.lt_or_ge n cap with q | q
  · rw [e1 q]
    exact ⟨a, cap, _, Or.inl ⟨rfl, rfl, rfl⟩, jj_up_self, (jj_up_ne hne.symm).trans jj_up_self, by omega, by omega, fun q g1 g2 => (jj_up_ne g1).trans (jj_up_ne g2)⟩
  · rw [e2 q]
    exact ⟨h.2.1, 2 * cap, _, Or.inr ⟨rfl, rfl, by omega, hn, rfl⟩, jj_up_self, (jj_up_ne (by omega)).trans jj_up_self, by omega, by omega, fun q g1 g2 => (jj_up_ne g1).trans ((jj_up_ne g2).trans ((jj_up_ne g1).trans (jj_up_ne g2)))⟩
theorem s_row_add (hG : jj_tyG G) (hs : Sy G X K o N h) (ht : t < 7) (hon : sy_on X t) (h0 : t ≠ 0) (hdd : 5 ≤ d) : jj_Q l G y_IR_add d [.ref (X.2.2.1 t), .int x] h (sy_F 0 false G X K o N) := by
  obtain ⟨w, c, hi⟩ := id hs
  obtain ⟨a, f, n, r1, r2, r3, r4, r5, r6, r7, r8, r9, r10⟩ := hi.1 t ht hon
  have hA := hi.2.2.2.1 t (by omega) hon
  by_cases hn : n < 32768
  · refine (c_IR_add hG ⟨r1, r2, by omega, by omega, r6, r9⟩ hA.2 r8 hn hdd).imp ?_
    rintro o1 h1 ⟨rfl, e1, e2⟩
    exact ⟨rfl, hi.ch hon (Or.inl ⟨ht, rfl, rfl, rfl⟩) r7 r8 r9 r5 r6 (sy_add_ch r2 hA.2 r8 r9 (by omega) hn e1 e2 (by omega)) (fun q => absurd q h0) (fun _ => rfl)⟩
  · refine (d_IR_full ⟨r1, r2, by omega, by omega, r6, r9⟩ (by omega)).imp ?_
    rintro o1 h1 ⟨rfl, rfl⟩
    exact ⟨rfl, hs⟩
/-- one more character -/
theorem s_cha_add (hG : jj_tyG G) (hon : sy_on X 0) (hs : Sy G X K o N h) (hN : N < 32768) (hdd : 5 ≤ d) : jj_Q l G y_IR_add d [.ref (X.2.2.1 0), .int x] h (sy_F 0 false G X K o (N + 1)) := by
  obtain ⟨w, c, hi⟩ := id hs
  obtain ⟨a, f, n, r1, r2, r3, r4, r5, r6, r7, r8, r9, r10⟩ := hi.1 0 (by decide) hon
  have hA := hi.2.2.2.1 0 (by decide) hon
  have hn := r10 rfl
  subst hn
  refine (c_IR_add hG ⟨r1, r2, by omega, by omega, r6, r9⟩ hA.2 r8 hN hdd).imp ?_
  rintro o1 h1 ⟨rfl, e1, e2⟩
  exact ⟨rfl, hi.ch hon (Or.inl ⟨by decide, rfl, rfl, rfl⟩) r7 r8 r9 r5 r6 (sy_add_ch r2 hA.2 r8 r9 (by omega) hN e1 e2 (by omega)) (fun _ => rfl) (fun q => absurd rfl q)⟩
theorem s_cha_size (hon : sy_on X 0) (hs : Sy G X K o N h) : N ≤ 32768 ∧ jj_Q l G y_IR_size d [.ref (X.2.2.1 0)] h (fun o1 h' => o1 = .inl (some (.int (nI N))) ∧ h' = h) := by
  obtain ⟨w, c, hi⟩ := id hs
  obtain ⟨a, f, n, r1, r2, r3, r4, r5, r6, r7, r8, r9, r10⟩ := hi.1 0 (by decide) hon
  have hn := r10 rfl
  subst hn
  exact ⟨r4, c_IR_size ⟨r1, r2, by omega, by omega, r6, r9⟩⟩
theorem s_cha_cut (hon : sy_on X 0) (hs : Sy G X K o N h) {j : Nat} (hj : j ≤ N) : jj_Q l G y_IR_cutTo d [.ref (X.2.2.1 0), .int (nI j)] h (sy_F 0 false G X K o j) := by
  obtain ⟨w, c, hi⟩ := id hs
  obtain ⟨a, f, n, r1, r2, r3, r4, r5, r6, r7, r8, r9, r10⟩ := hi.1 0 (by decide) hon
  have hn := r10 rfl
  subst hn
  refine (c_IR_cutTo ⟨r1, r2, by omega, by omega, r6, r9⟩ hj).imp ?_
  rintro o1 h1 ⟨rfl, rfl⟩
  exact ⟨rfl, hi.ch hon (n := n) (n' := j) (Or.inl ⟨by decide, rfl, rfl, rfl⟩) r7 r8 r9 r5 r6 ⟨a, c 0, f, Or.inl ⟨rfl, rfl, rfl⟩, jj_up_self, (jj_up_ne r9.symm).trans r2, by omega, by omega, fun q g1 g2 => jj_up_ne g1⟩ (fun _ => rfl) (fun q => absurd rfl q)⟩
theorem s_row_put (hG : jj_tyG G) (hs : Sy G X K o N h) (ht : t < 7) (hon : sy_on X t) : jj_Q l G y_IR_put d [.ref (X.2.2.1 t), .int x, .int y] h (sy_F 0 false G X K o N) := by
  obtain ⟨w, c, hi⟩ := id hs
  obtain ⟨a, f, n, r1, r2, r3, r4, r5, r6, r7, r8, r9, r10⟩ := hi.1 t ht hon
  refine (d_IR_put hG ⟨r1, r2, by omega, by omega, r6, r9⟩).imp ?_
  rintro o1 h1 ⟨rfl, rfl | ⟨f', rfl⟩⟩
  · exact ⟨rfl, hs⟩
  · exact ⟨rfl, hi.ch hon (n := n) (n' := n) (Or.inl ⟨ht, rfl, rfl, rfl⟩) r7 r8 r9 r5 r6 ⟨a, c t, f', Or.inl ⟨rfl, rfl, rfl⟩, (jj_up_ne r9).trans r1, jj_up_self, by omega, by omega, fun q g1 g2 => jj_up_ne g2⟩ r10 (fun _ => rfl)⟩
theorem s_row_cut (hs : Sy G X K o N h) (ht : t < 7) (hon : sy_on X t) (h0 : t ≠ 0) : jj_Q l G y_IR_cutTo d [.ref (X.2.2.1 t), .int x] h (sy_F 0 false G X K o N) := by
  obtain ⟨w, c, hi⟩ := id hs
  obtain ⟨a, f, n, r1, r2, r3, r4, r5, r6, r7, r8, r9, r10⟩ := hi.1 t ht hon
  refine (d_IR_cutTo ⟨r1, r2, by omega, by omega, r6, r9⟩).imp ?_
  rintro o1 h1 ⟨rfl, rfl | ⟨m, hm, rfl⟩⟩
  · exact ⟨rfl, hs⟩
  · exact ⟨rfl, hi.ch hon (n := n) (n' := m) (Or.inl ⟨ht, rfl, rfl, rfl⟩) r7 r8 r9 r5 r6 ⟨a, c t, f, Or.inl ⟨rfl, rfl, rfl⟩, jj_up_self, (jj_up_ne r9.symm).trans r2, by omega, by omega, fun q g1 g2 => jj_up_ne g1⟩ (fun q => absurd q h0) (fun _ => rfl)⟩
theorem s_tab_size (hs : Sy G X K o N h) (h7 : 7 ≤ t) (ht : t < 9) (hon : sy_on X t) : jj_Q l G y_TB_size d [.ref (X.2.2.1 t)] h (sy_F 3 false G X K o N) := by
  obtain ⟨w, c, hi⟩ := id hs
  obtain ⟨a, f, n, r1, r2, r3, r4, r5, r6, r7, r8, r9, r10⟩ := hi.2.1 t h7 ht hon
  refine (c_TB_size ⟨r1, r2, r3, by omega, r6, r9⟩).imp ?_
  rintro o1 h1 ⟨rfl, rfl⟩
  exact ⟨Or.inr (Or.inr ⟨rfl, nI_pos' (by omega)⟩), hs⟩
theorem s_tab_at (hG : jj_tyG G) (hs : Sy G X K o N h) (h7 : 7 ≤ t) (ht : t < 9) (hon : sy_on X t) : jj_Q l G y_TB_at d [.ref (X.2.2.1 t), .int x, .int y] h (sy_F 1 false G X K o N) := by
  obtain ⟨w, c, hi⟩ := id hs
  obtain ⟨a, f, n, r1, r2, r3, r4, r5, r6, r7, r8, r9, r10⟩ := hi.2.1 t h7 ht hon
  refine (c_TB_at hG ⟨r1, r2, r3, by omega, r6, r9⟩).imp ?_
  rintro o1 h1 ⟨rfl, rfl⟩
  exact ⟨Or.inl rfl, hs⟩
theorem s_tab_add (hG : jj_tyG G) (hs : Sy G X K o N h) (h7 : 7 ≤ t) (ht : t < 9) (hon : sy_on X t) (hdd : 5 ≤ d) : jj_Q l G y_TB_add d [.ref (X.2.2.1 t), .int x, .int y, .int z] h (sy_F 0 false G X K o N) := by
  obtain ⟨w, c, hi⟩ := id hs
  obtain ⟨a, f, n, r1, r2, r3, r4, r5, r6, r7, r8, r9, r10⟩ := hi.2.1 t h7 ht hon
  have hA := hi.2.2.2.1 t (by omega) hon
  refine (d_TB_add hG ⟨r1, r2, r3, by omega, r6, r9⟩ hA.2 r8 r4 hdd).imp ?_
  rintro o1 h1 ⟨rfl, n', hch⟩
  exact ⟨rfl, hi.ch hon (Or.inr ⟨h7, ht, rfl, rfl, rfl⟩) r7 r8 r9 r5 r6 hch (fun q => by omega) (fun _ => rfl)⟩
theorem s_tab_clear (hs : Sy G X K o N h) (h7 : 7 ≤ t) (ht : t < 9) (hon : sy_on X t) : jj_Q l G y_TB_clear d [.ref (X.2.2.1 t)] h (sy_F 0 false G X K o N) := by
  obtain ⟨w, c, hi⟩ := id hs
  obtain ⟨a, f, n, r1, r2, r3, r4, r5, r6, r7, r8, r9, r10⟩ := hi.2.1 t h7 ht hon
  refine (c_TB_clear ⟨r1, r2, r3, by omega, r6, r9⟩).imp ?_
  rintro o1 h1 ⟨rfl, rfl⟩
  exact ⟨rfl, hi.ch hon (n := n) (n' := 0) (Or.inr ⟨h7, ht, rfl, rfl, rfl⟩) r7 r8 r9 r5 r6 ⟨a, c t, f, Or.inl ⟨rfl, rfl, rfl⟩, jj_up_self, (jj_up_ne r9.symm).trans r2, by omega, by omega, fun q g1 g2 => jj_up_ne g1⟩ (fun q => by omega) (fun _ => rfl)⟩
end SYR
end
section
/-! the cursor's faults, and what is open -/
section SYU
variable {l : Launch} {G : jj_G} {X : sy_X} {K o N d m : Nat} {h : jj_H} {x : Int32}
theorem s_CU_raise (hX : X.2.2.2.2.2 = false) (hs : Sy G X K o N h) (hdd : 7 ≤ d) : jj_Q l G y_CU_raise d [.ref (X.2.2.1 12), .int x] h (sy_F 9 true G X K o N) := by
  obtain ⟨ki, va, pl, fa, fp, ne, hg⟩ := hs.gr hX
  refine (c_CU_raise (show gr_is h (X.2.2.1 12) (X.2.2.1 8) (X.2.2.1 7) (X.2.2.1 0) (X.2.2.1 5) (X.2.2.1 6) ki va pl fa fp ne (nI o) from hg) hdd).imp ?_
  rintro o1 h1 ⟨rfl, g1, g2, g3⟩
  have e1 : h1.2.1 = h.2.1 + 1 := by rw [g3]
  have e2 : h1.2.2 = h.2.2 + 6 := by rw [g3]
  exact ⟨rfl, rfl, o, hs.newGR hX (j := 1) ⟨ki, va, pl, x, pl, ne, g1⟩ g2 (by omega) (by omega) (by omega)⟩
theorem s_CU_enter (hX : X.2.2.2.2.2 = false) (ho : o + m = 40) (hs : Sy G X K o N h) (hdd : 8 ≤ d) : jj_Q l G y_CU_enter d [.ref (X.2.2.1 12)] h (sy_En G X K o N m) := by
  refine jj_Q.of (by decide +kernel) (Nat.le_of_ble_eq_true rfl) ?_
  refine jj_aload_n (j := 0) (by decide +kernel) rfl ?_
  obtain ⟨ki, va, pl, fa, fp, ne, hg⟩ := hs.gr hX
  refine jj_getfield 11 ck_GR fl_CU_37 (by decide) (by decide +kernel) hg rfl ?_
  refine jj_bipush (n := 40) (v := 40) (by decide +kernel) (by decide) ?_
  refine jj_icmp_lt (off := 8) (tgt := 14) (by decide +kernel) (by decide) (fun c1 => ?_) (fun c1 => ?_)
  · have h40 : o < 40 := (nI_ltI (a := o) (b := 40) (by omega) (by omega)).mp c1
    refine jj_aload_n (j := 0) (by decide +kernel) rfl ?_
    refine jj_dup (by decide +kernel) rfl ?_
    refine jj_getfield 11 ck_GR fl_CU_37 (by decide) (by decide +kernel) hg rfl ?_
    refine jj_iconst (n := 1) (v := 1) (by decide +kernel) (by decide) ?_
    refine jj_iadd (by decide +kernel) ?_
    refine sy_putO (o' := o + 1) hs hX (nI_1 o) fl_CU_37 (by decide +kernel) (fun h hs => ?_)
    exact jj_vret (by decide +kernel) rfl (Or.inl ⟨rfl, by omega, hs⟩)
  · refine jj_aload_n (j := 0) (by decide +kernel) rfl ?_
    refine jj_iconst (n := 5) (v := 5) (by decide +kernel) (by decide) ?_
    exact sy_cx (s_CU_raise (d := d - 1) hX hs (by omega)) (fun o1 h1 hC => jj_callV ok_CU_raise ml_CU_49 im_CU_raise se_GR_CU_raise (by decide +kernel) (hs.rcGR hX) rfl (by omega) (Nat.le_of_ble_eq_true rfl) hC) rfl (fun _ _ q => Or.inr ⟨rfl, _, q⟩)
theorem s_CU_leave (hX : X.2.2.2.2.2 = false) (hs : Sy G X K (o + 1) N h) : jj_Q l G y_CU_leave d [.ref (X.2.2.1 12)] h (sy_F 0 false G X K o N) := by
  refine jj_Q.of (by decide +kernel) (Nat.le_of_ble_eq_true rfl) ?_
  refine jj_aload_n (j := 0) (by decide +kernel) rfl ?_
  refine jj_dup (by decide +kernel) rfl ?_
  obtain ⟨ki, va, pl, fa, fp, ne, hg⟩ := hs.gr hX
  refine jj_getfield 11 ck_GR fl_CU_37 (by decide) (by decide +kernel) hg rfl ?_
  refine jj_iconst (n := 1) (v := 1) (by decide +kernel) (by decide) ?_
  refine jj_isub (by decide +kernel) ?_
  refine sy_putO (o' := o) hs hX (nI_pred o) fl_CU_37 (by decide +kernel) (fun h hs => ?_)
  exact jj_vret (by decide +kernel) rfl ⟨rfl, hs⟩
end SYU
end
section
/-! the JDK's strings: what the class reads of its constants -/
theorem wl_JS_38 : Cond.fieldLink "java/lang/String" 38 "java/lang/String" "COMPACT_STRINGS" "Z" ∈ jj_T := jw 233 (by decide +kernel) rfl
theorem wl_JS_1053 : Cond.fieldLink "java/lang/String" 1053 "jdk/internal/util/Preconditions" "SIOOBE_FORMATTER" "Ljava/util/function/BiFunction;" ∈ jj_T := jw 249 (by decide +kernel) rfl
theorem wl_JS_9 : Cond.fieldLink "java/lang/String" 9 "java/lang/String" "value" "[B" ∈ jj_T := jw 1509 (by decide +kernel) rfl
theorem wl_JS_15 : Cond.fieldLink "java/lang/String" 15 "java/lang/String" "coder" "B" ∈ jj_T := jw 1510 (by decide +kernel) rfl
theorem lS_small : ∀ i, i < jj_nS → jj_lS.getD i 0 ≤ 2000 := by decide +kernel
set_option maxRecDepth 100000 in
set_option maxHeartbeats 4000000 in
theorem c_JS_coder {l : Launch} {G : jj_G} {d : Nat} {h : jj_H} {i : Nat} (hi : i < jj_nS) : jj_Q l G y_JS_coder d [.ref (G.2.2.2.1 i)] h (fun out h' => out = .inl (some (.int 0)) ∧ h' = h) := by
  refine jj_Q.of (by decide +kernel) (Nat.le_of_ble_eq_true rfl) ?_
  refine jj_getstatic (C := "java/lang/String") (n := "COMPACT_STRINGS") (dd := "Z") (v := .int 1) (List.mem_cons_self) wl_JS_38 (by decide +kernel) ?_
  refine jj_if_eq (off := 10) (tgt := 13) (by decide +kernel) (by decide) (fun c1 => absurd c1 (by decide)) (fun _ => ?_)
  refine jj_aload_n (j := 0) (by decide +kernel) rfl ?_
  refine jj_coder hi wl_JS_15 (by decide +kernel) ?_
  refine jj_goto (off := 4) (tgt := 14) (by decide +kernel) (by decide) ?_
  exact jj_iret .byte (by decide +kernel) rfl rfl ⟨rfl, rfl⟩
set_option maxRecDepth 100000 in
set_option maxHeartbeats 4000000 in
theorem c_JS_length {l : Launch} {G : jj_G} {d : Nat} {h : jj_H} {i : Nat} (hi : i < jj_nS) (hdd : 1 ≤ d) : jj_Q l G y_JS_length d [.ref (G.2.2.2.1 i)] h (fun out h' => out = .inl (some (.int (nI (jj_lS.getD i 0)))) ∧ h' = h) := by
  have hlen := lS_small i hi
  refine jj_Q.of (by decide +kernel) (Nat.le_of_ble_eq_true rfl) ?_
  refine jj_aload_n (j := 0) (by decide +kernel) rfl ?_
  refine jj_value hi wl_JS_9 (by decide +kernel) ?_
  refine jj_strlen hi (by decide +kernel) ?_
  refine jj_aload_n (j := 0) (by decide +kernel) rfl ?_
  refine jj_callr (c_JS_coder (d := d - 1) hi) (fun o1 h1 hC => jj_callV ok_JS_coder ml_JS_335 im_JS_coder se_JS_JS_coder (by decide +kernel) (jj_rcv.str hi) rfl (by omega) (Nat.le_of_ble_eq_true rfl) hC) (by rintro E h1 ⟨q, -⟩; cases q) ?_
  rintro v h1 ⟨hv, rfl⟩
  cases hv
  refine jj_ishr (by decide +kernel) ?_
  refine jj_iret .int (by decide +kernel) rfl rfl ⟨?_, rfl⟩
  rw [pk_shrN (show jj_lS.getD i 0 < 2 ^ 31 by omega) (0 &&& 31) 0 (by decide)]
  simp
set_option maxRecDepth 100000 in
set_option maxHeartbeats 4000000 in
theorem c_JS_isLatin1 {l : Launch} {G : jj_G} {d : Nat} {h : jj_H} {i : Nat} (hi : i < jj_nS) : jj_Q l G y_JS_isLatin1 d [.ref (G.2.2.2.1 i)] h (fun out h' => out = .inl (some (.int 1)) ∧ h' = h) := by
  refine jj_Q.of (by decide +kernel) (Nat.le_of_ble_eq_true rfl) ?_
  refine jj_getstatic (C := "java/lang/String") (n := "COMPACT_STRINGS") (dd := "Z") (v := .int 1) (List.mem_cons_self) wl_JS_38 (by decide +kernel) ?_
  refine jj_if_eq (off := 14) (tgt := 17) (by decide +kernel) (by decide) (fun c1 => absurd c1 (by decide)) (fun _ => ?_)
  refine jj_aload_n (j := 0) (by decide +kernel) rfl ?_
  refine jj_coder hi wl_JS_15 (by decide +kernel) ?_
  refine jj_if_ne (off := 7) (tgt := 17) (by decide +kernel) (by decide) (fun c1 => absurd rfl c1) (fun _ => ?_)
  refine jj_iconst (n := 1) (v := 1) (by decide +kernel) (by decide) ?_
  refine jj_goto (off := 4) (tgt := 18) (by decide +kernel) (by decide) ?_
  exact jj_iret .boolean (by decide +kernel) rfl rfl ⟨rfl, rfl⟩
theorem jj_svK (G : jj_G) : jj_sv G = .null ∨ ∃ t, jj_sv G = .ref t := by
  unfold jj_sv
  split
  · exact Or.inl rfl
  · exact Or.inr ⟨_, rfl⟩
set_option maxRecDepth 100000 in
set_option maxHeartbeats 4000000 in
theorem c_JP_checkIndex {l : Launch} {G : jj_G} {d : Nat} {h : jj_H} {x n : Int32} {v : Value} (hv : v = .null ∨ ∃ t, v = .ref t) (h0 : ¬ x < 0) (h1 : x < n) : jj_Q l G y_JP_checkIndex d [.int x, .int n, v] h (fun out h' => out = .inl (some (.int x)) ∧ h' = h) := by
  rcases hv with rfl | ⟨t, rfl⟩
  · refine jj_Q.of (by decide +kernel) (Nat.le_of_ble_eq_true rfl) ?_
    refine jj_iload_n (j := 0) (by decide +kernel) rfl ?_
    refine jj_if_lt (off := 8) (tgt := 9) (by decide +kernel) (by decide) (fun c1 => absurd c1 h0) (fun _ => ?_)
    refine jj_iload_n (j := 0) (by decide +kernel) rfl ?_
    refine jj_iload_n (j := 1) (by decide +kernel) rfl ?_
    refine jj_icmp_lt (off := 10) (tgt := 16) (by decide +kernel) (by decide) (fun _ => ?_) (fun c1 => absurd h1 c1)
    refine jj_iload_n (j := 0) (by decide +kernel) rfl ?_
    exact jj_iret .int (by decide +kernel) rfl rfl ⟨rfl, rfl⟩
  · refine jj_Q.of (by decide +kernel) (Nat.le_of_ble_eq_true rfl) ?_
    refine jj_iload_n (j := 0) (by decide +kernel) rfl ?_
    refine jj_if_lt (off := 8) (tgt := 9) (by decide +kernel) (by decide) (fun c1 => absurd c1 h0) (fun _ => ?_)
    refine jj_iload_n (j := 0) (by decide +kernel) rfl ?_
    refine jj_iload_n (j := 1) (by decide +kernel) rfl ?_
    refine jj_icmp_lt (off := 10) (tgt := 16) (by decide +kernel) (by decide) (fun _ => ?_) (fun c1 => absurd h1 c1)
    refine jj_iload_n (j := 0) (by decide +kernel) rfl ?_
    exact jj_iret .int (by decide +kernel) rfl rfl ⟨rfl, rfl⟩
set_option maxRecDepth 100000 in
set_option maxHeartbeats 4000000 in
theorem c_JS_checkIndex {l : Launch} {G : jj_G} {d : Nat} {h : jj_H} {x n : Int32} (h0 : ¬ x < 0) (h1 : x < n) (hdd : 1 ≤ d) : jj_Q l G y_JS_checkIndex d [.int x, .int n] h (fun out h' => out = .inl none ∧ h' = h) := by
  refine jj_Q.of (by decide +kernel) (Nat.le_of_ble_eq_true rfl) ?_
  refine jj_iload_n (j := 0) (by decide +kernel) rfl ?_
  refine jj_iload_n (j := 1) (by decide +kernel) rfl ?_
  refine jj_getSIO wl_JS_1053 (by decide +kernel) ?_
  refine jj_callr (c_JP_checkIndex (d := d - 1) (jj_svK G) h0 h1) (fun o1 h1 hC => jj_callS ok_JP_checkIndex ml_JS_1059 st_JP_checkIndex (by decide +kernel) rfl (by omega) (Nat.le_of_ble_eq_true rfl) hC) (by rintro E h1 ⟨q, -⟩; cases q) ?_
  rintro v h1 ⟨hv, rfl⟩
  cases hv
  refine jj_pop (by decide +kernel) rfl ?_
  exact jj_vret (by decide +kernel) rfl ⟨rfl, rfl⟩
set_option maxRecDepth 100000 in
set_option maxHeartbeats 4000000 in
theorem c_JL_charAt {l : Launch} {G : jj_G} {d : Nat} {h : jj_H} {i j : Nat} (hi : i < jj_nS) (hj : j < jj_lS.getD i 0) (hdd : 2 ≤ d) : jj_Q l G y_JL_charAt d [.ref (G.2.2.2.2.1 i), .int (nI j)] h (fun out h' => ∃ v : Int32, out = .inl (some (.int v)) ∧ h' = h ∧ narrow .char (.int v) = .int v) := by
  have hlen := lS_small i hi
  refine jj_Q.of (by decide +kernel) (Nat.le_of_ble_eq_true rfl) ?_
  refine jj_iload_n (j := 1) (by decide +kernel) rfl ?_
  refine jj_aload_n (j := 0) (by decide +kernel) rfl ?_
  refine jj_strlen hi (by decide +kernel) ?_
  refine jj_callr (c_JS_checkIndex (d := d - 1) (nI_pos (by omega)) (nI_lt hj (by omega)) (by omega)) (fun o1 h1 hC => jj_callS ok_JS_checkIndex ml_JL_9 st_JS_checkIndex (by decide +kernel) rfl (by omega) (Nat.le_of_ble_eq_true rfl) hC) (by rintro E h1 ⟨q, -⟩; cases q) ?_
  rintro v h1 ⟨hv, rfl⟩
  cases hv
  refine jj_aload_n (j := 0) (by decide +kernel) rfl ?_
  refine jj_iload_n (j := 1) (by decide +kernel) rfl ?_
  refine jj_strbyte hi (vp_in_nI hj (by omega)) (by decide +kernel) ?_
  refine jj_sipush (n := 255) (v := 255) (by decide +kernel) (by decide) ?_
  refine jj_iand (by decide +kernel) ?_
  refine jj_i2c (by decide +kernel) ?_
  exact jj_iret .char (by decide +kernel) rfl (pk_nc _) ⟨_, rfl, rfl, pk_nc _⟩
set_option maxRecDepth 100000 in
set_option maxHeartbeats 4000000 in
theorem c_JS_charAt {l : Launch} {G : jj_G} {d : Nat} {h : jj_H} {i j : Nat} (hi : i < jj_nS) (hj : j < jj_lS.getD i 0) (hdd : 3 ≤ d) : jj_Q l G y_JS_charAt d [.ref (G.2.2.2.1 i), .int (nI j)] h (fun out h' => ∃ v : Int32, out = .inl (some (.int v)) ∧ h' = h) := by
  refine jj_Q.of (by decide +kernel) (Nat.le_of_ble_eq_true rfl) ?_
  refine jj_aload_n (j := 0) (by decide +kernel) rfl ?_
  refine jj_callr (c_JS_isLatin1 (d := d - 1) hi) (fun o1 h1 hC => jj_callV ok_JS_isLatin1 ml_JS_492 im_JS_isLatin1 se_JS_JS_isLatin1 (by decide +kernel) (jj_rcv.str hi) rfl (by omega) (Nat.le_of_ble_eq_true rfl) hC) (by rintro E h1 ⟨q, -⟩; cases q) ?_
  rintro v h1 ⟨hv, rfl⟩
  cases hv
  refine jj_if_eq (off := 12) (tgt := 16) (by decide +kernel) (by decide) (fun c1 => absurd c1 (by decide)) (fun _ => ?_)
  refine jj_aload_n (j := 0) (by decide +kernel) rfl ?_
  refine jj_value hi wl_JS_9 (by decide +kernel) ?_
  refine jj_iload_n (j := 1) (by decide +kernel) rfl ?_
  refine jj_callr (c_JL_charAt (d := d - 1) hi hj (by omega)) (fun o1 h1 hC => jj_callS ok_JL_charAt ml_JS_495 st_JL_charAt (by decide +kernel) rfl (by omega) (Nat.le_of_ble_eq_true rfl) hC) (by rintro E h1 ⟨v9, q, -⟩; cases q) ?_
  rintro v h1 ⟨v9, hv, rfl, hnc⟩
  cases hv
  exact jj_iret .char (by decide +kernel) rfl hnc ⟨_, rfl, rfl⟩
set_option maxRecDepth 100000 in
set_option maxHeartbeats 4000000 in
theorem c_JL_canEncode {l : Launch} {G : jj_G} {d : Nat} {h : jj_H} {x : Int32} : jj_Q l G y_JL_canEncode d [.int x] h (fun out h' => ∃ v : Int32, out = .inl (some (.int v)) ∧ h' = h) := by
  refine jj_Q.of (by decide +kernel) (Nat.le_of_ble_eq_true rfl) ?_
  refine jj_iload_n (j := 0) (by decide +kernel) rfl ?_
  refine jj_if_lt (off := 14) (tgt := 15) (by decide +kernel) (by decide) (fun _ => ?_) (fun _ => ?_)
  · refine jj_iconst (n := 0) (v := 0) (by decide +kernel) (by decide) ?_
    exact jj_iret .boolean (by decide +kernel) rfl rfl ⟨_, rfl, rfl⟩
  · refine jj_iload_n (j := 0) (by decide +kernel) rfl ?_
    refine jj_sipush (n := 255) (v := 255) (by decide +kernel) (by decide) ?_
    refine jj_icmp_gt (off := 7) (tgt := 15) (by decide +kernel) (by decide) (fun _ => ?_) (fun _ => ?_)
    · refine jj_iconst (n := 0) (v := 0) (by decide +kernel) (by decide) ?_
      exact jj_iret .boolean (by decide +kernel) rfl rfl ⟨_, rfl, rfl⟩
    · refine jj_iconst (n := 1) (v := 1) (by decide +kernel) (by decide) ?_
      refine jj_goto (off := 4) (tgt := 16) (by decide +kernel) (by decide) ?_
      exact jj_iret .boolean (by decide +kernel) rfl rfl ⟨_, rfl, rfl⟩
set_option maxRecDepth 100000 in
set_option maxHeartbeats 4000000 in
theorem c_JM_max {l : Launch} {G : jj_G} {d : Nat} {h : jj_H} {x y : Int32} : jj_Q l G y_JM_max d [.int x, .int y] h (fun out h' => out = .inl (some (.int (if x < y then y else x))) ∧ h' = h) := by
  refine jj_Q.of (by decide +kernel) (Nat.le_of_ble_eq_true rfl) ?_
  refine jj_iload_n (j := 0) (by decide +kernel) rfl ?_
  refine jj_iload_n (j := 1) (by decide +kernel) rfl ?_
  refine jj_icmp_lt (off := 7) (tgt := 9) (by decide +kernel) (by decide) (fun c1 => ?_) (fun c1 => ?_)
  · refine jj_iload_n (j := 1) (by decide +kernel) rfl ?_
    exact jj_iret .int (by decide +kernel) rfl rfl ⟨by rw [if_pos c1], rfl⟩
  · refine jj_iload_n (j := 0) (by decide +kernel) rfl ?_
    refine jj_goto (off := 4) (tgt := 10) (by decide +kernel) (by decide) ?_
    exact jj_iret .int (by decide +kernel) rfl rfl ⟨by rw [if_neg c1], rfl⟩
set_option maxRecDepth 100000 in
set_option maxHeartbeats 4000000 in
theorem c_JM_min2 {l : Launch} {G : jj_G} {d : Nat} {h : jj_H} {x y : Int64} : jj_Q l G y_JM_min2 d [.long x, .long y] h (fun out h' => ∃ z : Int64, out = .inl (some (.long z)) ∧ h' = h) := by
  refine jj_Q.of (by decide +kernel) (Nat.le_of_ble_eq_true rfl) ?_
  refine jj_lload_n (j := 0) (by decide +kernel) rfl ?_
  refine jj_lload_n (j := 2) (by decide +kernel) rfl ?_
  refine jj_lcmp (by decide +kernel) ?_
  refine jj_if_gt (off := 7) (tgt := 10) (by decide +kernel) (by decide) (fun c1 => ?_) (fun c1 => ?_)
  · refine jj_lload_n (j := 2) (by decide +kernel) rfl ?_
    exact jj_lret (by decide +kernel) rfl ⟨_, rfl, rfl⟩
  · refine jj_lload_n (j := 0) (by decide +kernel) rfl ?_
    refine jj_goto (off := 4) (tgt := 11) (by decide +kernel) (by decide) ?_
    exact jj_lret (by decide +kernel) rfl ⟨_, rfl, rfl⟩
set_option maxRecDepth 100000 in
set_option maxHeartbeats 4000000 in
theorem b_JL_indexOfChar_7 {l : Launch} {G : jj_G} {d i : Nat} {h : jj_H} {c b : Int32} (hi : i < jj_nS) : ∀ (n j : Nat), jj_lS.getD i 0 - j < n → j ≤ jj_lS.getD i 0 → jj_P l G y_JL_indexOfChar d (fun out h' => ∃ v : Int32, out = .inl (some (.int v)) ∧ h' = h) 7 [some (.ref (G.2.2.2.2.1 i)), some (.int c), some (.int 0), some (.int (nI (jj_lS.getD i 0))), some (.int b), some (.int (nI j))] [] h := by
  have hlen := lS_small i hi
  intro n
  induction n with
  | zero => intro j hn; exact absurd hn (Nat.not_lt_zero _)
  | succ n ih =>
    intro j hn hj
    refine jj_iload (i := 5) (by decide +kernel) rfl ?_
    refine jj_iload_n (j := 3) (by decide +kernel) rfl ?_
    refine jj_icmp_ge (off := 21) (tgt := 31) (by decide +kernel) (by decide) (fun c1 => ?_) (fun c1 => ?_)
    · refine jj_iconst (n := (-1)) (v := (-1)) (by decide +kernel) (by decide) ?_
      exact jj_iret .int (by decide +kernel) rfl rfl ⟨_, rfl, rfl⟩
    · have hlt : j < jj_lS.getD i 0 := Nat.not_le.mp (fun q => c1 (nI_le q (by omega)))
      refine jj_aload_n (j := 0) (by decide +kernel) rfl ?_
      refine jj_iload (i := 5) (by decide +kernel) rfl ?_
      refine jj_strbyte hi (vp_in_nI hlt (by omega)) (by decide +kernel) ?_
      refine jj_iload (i := 4) (by decide +kernel) rfl ?_
      refine jj_icmp_ne (off := 6) (tgt := 25) (by decide +kernel) (by decide) (fun _ => ?_) (fun _ => ?_)
      · refine jj_iinc (i := 5) (n := 1) (v := nI (j + 1)) (by decide +kernel) rfl (by rw [show Int32.ofInt 1 = 1 from rfl]; exact nI_1 j) (by decide) rfl ?_
        refine jj_goto (off := (-21)) (tgt := 7) (by decide +kernel) (by decide) ?_
        exact ih (j + 1) (by omega) (by omega)
      · refine jj_iload (i := 5) (by decide +kernel) rfl ?_
        exact jj_iret .int (by decide +kernel) rfl rfl ⟨_, rfl, rfl⟩
set_option maxRecDepth 100000 in
set_option maxHeartbeats 4000000 in
theorem c_JL_indexOfChar {l : Launch} {G : jj_G} {d : Nat} {h : jj_H} {i : Nat} {c : Int32} (hi : i < jj_nS) : jj_Q l G y_JL_indexOfChar d [.ref (G.2.2.2.2.1 i), .int c, .int 0, .int (nI (jj_lS.getD i 0))] h (fun out h' => ∃ v : Int32, out = .inl (some (.int v)) ∧ h' = h) := by
  refine jj_Q.of (by decide +kernel) (Nat.le_of_ble_eq_true rfl) ?_
  refine jj_iload_n (j := 1) (by decide +kernel) rfl ?_
  refine jj_i2b (by decide +kernel) ?_
  refine jj_istore (i := 4) (by decide +kernel) (by decide) rfl ?_
  refine jj_iload_n (j := 2) (by decide +kernel) rfl ?_
  refine jj_istore (i := 5) (by decide +kernel) (by decide) rfl ?_
  exact b_JL_indexOfChar_7 hi _ 0 (Nat.lt_succ_self _) (Nat.zero_le _)
set_option maxRecDepth 100000 in
set_option maxHeartbeats 4000000 in
theorem c_JL_indexOf {l : Launch} {G : jj_G} {d : Nat} {h : jj_H} {i : Nat} {c : Int32} (hi : i < jj_nS) (hdd : 1 ≤ d) : jj_Q l G y_JL_indexOf d [.ref (G.2.2.2.2.1 i), .int c, .int 0, .int (nI (jj_lS.getD i 0))] h (fun out h' => ∃ v : Int32, out = .inl (some (.int v)) ∧ h' = h) := by
  have hlen := lS_small i hi
  refine jj_Q.of (by decide +kernel) (Nat.le_of_ble_eq_true rfl) ?_
  refine jj_iload_n (j := 1) (by decide +kernel) rfl ?_
  refine jj_callr (c_JL_canEncode (d := d - 1)) (fun o1 h1 hC => jj_callS ok_JL_canEncode ml_JL_88 st_JL_canEncode (by decide +kernel) rfl (by omega) (Nat.le_of_ble_eq_true rfl) hC) (by rintro E h1 ⟨v9, q, -⟩; cases q) ?_
  rintro v h1 ⟨v9, hv, rfl⟩
  cases hv
  refine jj_if_ne (off := 5) (tgt := 9) (by decide +kernel) (by decide) (fun _ => ?_) (fun _ => ?_)
  · refine jj_iload_n (j := 2) (by decide +kernel) rfl ?_
    refine jj_iconst (n := 0) (v := 0) (by decide +kernel) (by decide) ?_
    refine jj_callr (c_JM_max (d := d - 1)) (fun o1 h1 hC => jj_callS ok_JM_max ml_JL_92 st_JM_max (by decide +kernel) rfl (by omega) (Nat.le_of_ble_eq_true rfl) hC) (by rintro E h1 ⟨q, -⟩; cases q) ?_
    rintro v h1 ⟨hv, rfl⟩
    cases hv
    rw [if_neg (show ¬ (0 : Int32) < 0 by decide)]
    refine jj_istore_n (j := 2) (by decide +kernel) (by decide) rfl ?_
    refine jj_iload_n (j := 3) (by decide +kernel) rfl ?_
    refine jj_aload_n (j := 0) (by decide +kernel) rfl ?_
    refine jj_strlen hi (by decide +kernel) ?_
    refine jj_callr (c_JM_min (d := d - 1)) (fun o1 h1 hC => jj_callS ok_JM_min ml_JL_38 st_JM_min (by decide +kernel) rfl (by omega) (Nat.le_of_ble_eq_true rfl) hC) (by rintro E h1 ⟨q, -⟩; cases q) ?_
    rintro v h1 ⟨hv, rfl⟩
    cases hv
    rw [ite_self]
    refine jj_istore_n (j := 3) (by decide +kernel) (by decide) rfl ?_
    refine jj_iload_n (j := 2) (by decide +kernel) rfl ?_
    refine jj_iload_n (j := 3) (by decide +kernel) rfl ?_
    refine jj_icmp_lt (off := 5) (tgt := 29) (by decide +kernel) (by decide) (fun _ => ?_) (fun _ => ?_)
    · refine jj_aload_n (j := 0) (by decide +kernel) rfl ?_
      refine jj_iload_n (j := 1) (by decide +kernel) rfl ?_
      refine jj_iload_n (j := 2) (by decide +kernel) rfl ?_
      refine jj_iload_n (j := 3) (by decide +kernel) rfl ?_
      refine jj_callr (c_JL_indexOfChar (d := d - 1) hi) (fun o1 h1 hC => jj_callS ok_JL_indexOfChar ml_JL_95 st_JL_indexOfChar (by decide +kernel) rfl (by omega) (Nat.le_of_ble_eq_true rfl) hC) (by rintro E h1 ⟨v9, q, -⟩; cases q) ?_
      rintro v h1 ⟨v9, hv, rfl⟩
      cases hv
      exact jj_iret .int (by decide +kernel) rfl rfl ⟨_, rfl, rfl⟩
    · refine jj_iconst (n := (-1)) (v := (-1)) (by decide +kernel) (by decide) ?_
      exact jj_iret .int (by decide +kernel) rfl rfl ⟨_, rfl, rfl⟩
  · refine jj_iconst (n := (-1)) (v := (-1)) (by decide +kernel) (by decide) ?_
    exact jj_iret .int (by decide +kernel) rfl rfl ⟨_, rfl, rfl⟩
set_option maxRecDepth 100000 in
set_option maxHeartbeats 4000000 in
theorem c_JS_indexOf2 {l : Launch} {G : jj_G} {d : Nat} {h : jj_H} {i : Nat} {c : Int32} (hi : i < jj_nS) (hdd : 2 ≤ d) : jj_Q l G y_JS_indexOf2 d [.ref (G.2.2.2.1 i), .int c, .int 0] h (fun out h' => ∃ v : Int32, out = .inl (some (.int v)) ∧ h' = h) := by
  refine jj_Q.of (by decide +kernel) (Nat.le_of_ble_eq_true rfl) ?_
  refine jj_aload_n (j := 0) (by decide +kernel) rfl ?_
  refine jj_callr (c_JS_isLatin1 (d := d - 1) hi) (fun o1 h1 hC => jj_callV ok_JS_isLatin1 ml_JS_492 im_JS_isLatin1 se_JS_JS_isLatin1 (by decide +kernel) (jj_rcv.str hi) rfl (by omega) (Nat.le_of_ble_eq_true rfl) hC) (by rintro E h1 ⟨q, -⟩; cases q) ?_
  rintro v h1 ⟨hv, rfl⟩
  cases hv
  refine jj_if_eq (off := 19) (tgt := 23) (by decide +kernel) (by decide) (fun c1 => absurd c1 (by decide)) (fun _ => ?_)
  refine jj_aload_n (j := 0) (by decide +kernel) rfl ?_
  refine jj_value hi wl_JS_9 (by decide +kernel) ?_
  refine jj_iload_n (j := 1) (by decide +kernel) rfl ?_
  refine jj_iload_n (j := 2) (by decide +kernel) rfl ?_
  refine jj_aload_n (j := 0) (by decide +kernel) rfl ?_
  refine jj_callr (c_JS_length (d := d - 1) hi (by omega)) (fun o1 h1 hC => jj_callV ok_JS_length ml_JS_505 im_JS_length se_JS_JS_length (by decide +kernel) (jj_rcv.str hi) rfl (by omega) (Nat.le_of_ble_eq_true rfl) hC) (by rintro E h1 ⟨q, -⟩; cases q) ?_
  rintro v h1 ⟨hv, rfl⟩
  cases hv
  refine jj_callr (c_JL_indexOf (d := d - 1) hi (by omega)) (fun o1 h1 hC => jj_callS ok_JL_indexOf ml_JS_637 st_JL_indexOf (by decide +kernel) rfl (by omega) (Nat.le_of_ble_eq_true rfl) hC) (by rintro E h1 ⟨v9, q, -⟩; cases q) ?_
  rintro v h1 ⟨v9, hv, rfl⟩
  cases hv
  refine jj_goto (off := 16) (tgt := 36) (by decide +kernel) (by decide) ?_
  exact jj_iret .int (by decide +kernel) rfl rfl ⟨_, rfl, rfl⟩
set_option maxRecDepth 100000 in
set_option maxHeartbeats 4000000 in
theorem c_JS_indexOf {l : Launch} {G : jj_G} {d : Nat} {h : jj_H} {i : Nat} {c : Int32} (hi : i < jj_nS) (hdd : 3 ≤ d) : jj_Q l G y_JS_indexOf d [.ref (G.2.2.2.1 i), .int c] h (fun out h' => ∃ v : Int32, out = .inl (some (.int v)) ∧ h' = h) := by
  refine jj_Q.of (by decide +kernel) (Nat.le_of_ble_eq_true rfl) ?_
  refine jj_aload_n (j := 0) (by decide +kernel) rfl ?_
  refine jj_iload_n (j := 1) (by decide +kernel) rfl ?_
  refine jj_iconst (n := 0) (v := 0) (by decide +kernel) (by decide) ?_
  refine jj_callr (c_JS_indexOf2 (d := d - 1) hi (by omega)) (fun o1 h1 hC => jj_callV ok_JS_indexOf2 ml_JS_633 im_JS_indexOf2 se_JS_JS_indexOf2 (by decide +kernel) (jj_rcv.str hi) rfl (by omega) (Nat.le_of_ble_eq_true rfl) hC) (by rintro E h1 ⟨v9, q, -⟩; cases q) ?_
  rintro v h1 ⟨v9, hv, rfl⟩
  cases hv
  exact jj_iret .int (by decide +kernel) rfl rfl ⟨_, rfl, rfl⟩
theorem s_JS_indexOf {l : Launch} {G : jj_G} {X : sy_X} {K o N d i : Nat} {h : jj_H} {c : Int32} (hG : jj_tyG G) (hi : i < jj_nS) (hdd : 3 ≤ d) (hs : Sy G X K o N h) : jj_Q l G y_JS_indexOf d [.ref (G.2.2.2.1 i), .int c] h (sy_F 1 false G X K o N) := by
  refine (c_JS_indexOf hi hdd).imp ?_
  rintro o1 h1 ⟨v, rfl, rfl⟩
  exact ⟨Or.inl rfl, hs⟩
end
section
set_option maxRecDepth 100000 in
set_option maxHeartbeats 4000000 in
theorem b_GR_levelOf_0 {l : Launch} {G : jj_G} {X : sy_X} {K o N d : Nat} {x0 : Int32} {h : jj_H} (hG : sy_G G X) (hdd : 0 ≤ d) (hs : Sy G X K o N h) : jj_P l G y_GR_levelOf d (sy_F 1 false G X K o N) 0 [some (.int x0)] [] h := by
  refine jj_iload_n (j := 0) (by decide +kernel) rfl ?_
  refine jj_if_ge (off := 5) (tgt := 6) (by decide +kernel) (by decide) (fun c1 => ?_) (fun c1 => ?_)
  · skip
    refine jj_iload_n (j := 0) (by decide +kernel) rfl ?_
    refine jj_iconst (n := 5) (v := 5) (by decide +kernel) (by decide) ?_
    refine jj_icmp_gt (off := 5) (tgt := 13) (by decide +kernel) (by decide) (fun c2 => ?_) (fun c2 => ?_)
    · skip
      refine jj_iload_n (j := 0) (by decide +kernel) rfl ?_
      refine jj_bipush (n := 11) (v := 11) (by decide +kernel) (by decide) ?_
      refine jj_icmp_gt (off := 5) (tgt := 21) (by decide +kernel) (by decide) (fun c3 => ?_) (fun c3 => ?_)
      · skip
        refine jj_iload_n (j := 0) (by decide +kernel) rfl ?_
        refine jj_bipush (n := 14) (v := 14) (by decide +kernel) (by decide) ?_
        refine jj_icmp_gt (off := 5) (tgt := 29) (by decide +kernel) (by decide) (fun c4 => ?_) (fun c4 => ?_)
        · skip
          refine jj_iload_n (j := 0) (by decide +kernel) rfl ?_
          refine jj_bipush (n := 18) (v := 18) (by decide +kernel) (by decide) ?_
          refine jj_icmp_gt (off := 6) (tgt := 38) (by decide +kernel) (by decide) (fun c5 => ?_) (fun c5 => ?_)
          · skip
            refine jj_iload_n (j := 0) (by decide +kernel) rfl ?_
            refine jj_bipush (n := 20) (v := 20) (by decide +kernel) (by decide) ?_
            refine jj_icmp_gt (off := 7) (tgt := 48) (by decide +kernel) (by decide) (fun c6 => ?_) (fun c6 => ?_)
            · skip
              refine jj_iconst (n := 5) (v := 5) (by decide +kernel) (by decide) ?_
              exact jj_iret .int (by decide +kernel) rfl rfl ⟨Or.inl rfl, hs⟩
            · skip
              refine jj_iconst (n := 3) (v := 3) (by decide +kernel) (by decide) ?_
              refine jj_goto (off := 4) (tgt := 49) (by decide +kernel) (by decide) ?_
              exact jj_iret .int (by decide +kernel) rfl rfl ⟨Or.inl rfl, hs⟩
          · skip
            refine jj_bipush (n := 6) (v := 6) (by decide +kernel) (by decide) ?_
            exact jj_iret .int (by decide +kernel) rfl rfl ⟨Or.inl rfl, hs⟩
        · skip
          refine jj_iconst (n := 4) (v := 4) (by decide +kernel) (by decide) ?_
          exact jj_iret .int (by decide +kernel) rfl rfl ⟨Or.inl rfl, hs⟩
      · skip
        refine jj_iconst (n := 2) (v := 2) (by decide +kernel) (by decide) ?_
        exact jj_iret .int (by decide +kernel) rfl rfl ⟨Or.inl rfl, hs⟩
    · skip
      refine jj_iconst (n := 1) (v := 1) (by decide +kernel) (by decide) ?_
      exact jj_iret .int (by decide +kernel) rfl rfl ⟨Or.inl rfl, hs⟩
  · skip
    refine jj_iconst (n := 0) (v := 0) (by decide +kernel) (by decide) ?_
    exact jj_iret .int (by decide +kernel) rfl rfl ⟨Or.inl rfl, hs⟩
theorem s_GR_levelOf {l : Launch} {G : jj_G} {X : sy_X} {K o N d : Nat} {x0 : Int32} {h : jj_H} (hG : sy_G G X) (hdd : 0 ≤ d) (hs : Sy G X K o N h) : jj_Q l G y_GR_levelOf d [.int x0] h (sy_F 1 false G X K o N) :=
  jj_Q.of (by decide +kernel) (Nat.le_of_ble_eq_true rfl) (b_GR_levelOf_0 hG hdd hs)
set_option maxRecDepth 100000 in
set_option maxHeartbeats 4000000 in
theorem b_GR_operatorOf_0 {l : Launch} {G : jj_G} {X : sy_X} {K o N d : Nat} {x0 : Int32} {h : jj_H} (hG : sy_G G X) (hdd : 0 ≤ d) (hs : Sy G X K o N h) : jj_P l G y_GR_operatorOf d (sy_F 1 false G X K o N) 0 [some (.int x0)] [] h := by
  refine jj_iload_n (j := 0) (by decide +kernel) rfl ?_
  refine jj_lookupAny (dflt := 236) (ps := #[(38, 215), (42, 218), (43, 209), (45, 212), (47, 221), (60, 197), (61, 191), (62, 203), (129, 200), (131, 194), (132, 206), (258, 179), (279, 224), (280, 183), (282, 185), (288, 181), (295, 227), (298, 230), (299, 233), (311, 189), (312, 187)]) (len := 179) (ts := [180, 182, 184, 186, 188, 190, 192, 195, 198, 201, 204, 207, 210, 213, 216, 219, 222, 225, 228, 231, 234, 237]) (by decide +kernel) (by decide) (by decide +kernel) (jt_c ?_ (jt_c ?_ (jt_c ?_ (jt_c ?_ (jt_c ?_ (jt_c ?_ (jt_c ?_ (jt_c ?_ (jt_c ?_ (jt_c ?_ (jt_c ?_ (jt_c ?_ (jt_c ?_ (jt_c ?_ (jt_c ?_ (jt_c ?_ (jt_c ?_ (jt_c ?_ (jt_c ?_ (jt_c ?_ (jt_c ?_ (jt_c ?_ jt_0))))))))))))))))))))))
  · skip
    refine jj_iconst (n := 0) (v := 0) (by decide +kernel) (by decide) ?_
    exact jj_iret .int (by decide +kernel) rfl rfl ⟨Or.inl rfl, hs⟩
  · skip
    refine jj_iconst (n := 1) (v := 1) (by decide +kernel) (by decide) ?_
    exact jj_iret .int (by decide +kernel) rfl rfl ⟨Or.inl rfl, hs⟩
  · skip
    refine jj_iconst (n := 2) (v := 2) (by decide +kernel) (by decide) ?_
    exact jj_iret .int (by decide +kernel) rfl rfl ⟨Or.inl rfl, hs⟩
  · skip
    refine jj_iconst (n := 3) (v := 3) (by decide +kernel) (by decide) ?_
    exact jj_iret .int (by decide +kernel) rfl rfl ⟨Or.inl rfl, hs⟩
  · skip
    refine jj_iconst (n := 4) (v := 4) (by decide +kernel) (by decide) ?_
    exact jj_iret .int (by decide +kernel) rfl rfl ⟨Or.inl rfl, hs⟩
  · skip
    refine jj_iconst (n := 5) (v := 5) (by decide +kernel) (by decide) ?_
    exact jj_iret .int (by decide +kernel) rfl rfl ⟨Or.inl rfl, hs⟩
  · skip
    refine jj_bipush (n := 6) (v := 6) (by decide +kernel) (by decide) ?_
    exact jj_iret .int (by decide +kernel) rfl rfl ⟨Or.inl rfl, hs⟩
  · skip
    refine jj_bipush (n := 7) (v := 7) (by decide +kernel) (by decide) ?_
    exact jj_iret .int (by decide +kernel) rfl rfl ⟨Or.inl rfl, hs⟩
  · skip
    refine jj_bipush (n := 8) (v := 8) (by decide +kernel) (by decide) ?_
    exact jj_iret .int (by decide +kernel) rfl rfl ⟨Or.inl rfl, hs⟩
  · skip
    refine jj_bipush (n := 9) (v := 9) (by decide +kernel) (by decide) ?_
    exact jj_iret .int (by decide +kernel) rfl rfl ⟨Or.inl rfl, hs⟩
  · skip
    refine jj_bipush (n := 10) (v := 10) (by decide +kernel) (by decide) ?_
    exact jj_iret .int (by decide +kernel) rfl rfl ⟨Or.inl rfl, hs⟩
  · skip
    refine jj_bipush (n := 11) (v := 11) (by decide +kernel) (by decide) ?_
    exact jj_iret .int (by decide +kernel) rfl rfl ⟨Or.inl rfl, hs⟩
  · skip
    refine jj_bipush (n := 12) (v := 12) (by decide +kernel) (by decide) ?_
    exact jj_iret .int (by decide +kernel) rfl rfl ⟨Or.inl rfl, hs⟩
  · skip
    refine jj_bipush (n := 13) (v := 13) (by decide +kernel) (by decide) ?_
    exact jj_iret .int (by decide +kernel) rfl rfl ⟨Or.inl rfl, hs⟩
  · skip
    refine jj_bipush (n := 14) (v := 14) (by decide +kernel) (by decide) ?_
    exact jj_iret .int (by decide +kernel) rfl rfl ⟨Or.inl rfl, hs⟩
  · skip
    refine jj_bipush (n := 15) (v := 15) (by decide +kernel) (by decide) ?_
    exact jj_iret .int (by decide +kernel) rfl rfl ⟨Or.inl rfl, hs⟩
  · skip
    refine jj_bipush (n := 16) (v := 16) (by decide +kernel) (by decide) ?_
    exact jj_iret .int (by decide +kernel) rfl rfl ⟨Or.inl rfl, hs⟩
  · skip
    refine jj_bipush (n := 17) (v := 17) (by decide +kernel) (by decide) ?_
    exact jj_iret .int (by decide +kernel) rfl rfl ⟨Or.inl rfl, hs⟩
  · skip
    refine jj_bipush (n := 18) (v := 18) (by decide +kernel) (by decide) ?_
    exact jj_iret .int (by decide +kernel) rfl rfl ⟨Or.inl rfl, hs⟩
  · skip
    refine jj_bipush (n := 19) (v := 19) (by decide +kernel) (by decide) ?_
    exact jj_iret .int (by decide +kernel) rfl rfl ⟨Or.inl rfl, hs⟩
  · skip
    refine jj_bipush (n := 20) (v := 20) (by decide +kernel) (by decide) ?_
    exact jj_iret .int (by decide +kernel) rfl rfl ⟨Or.inl rfl, hs⟩
  · skip
    refine jj_iconst (n := (-1)) (v := (-1)) (by decide +kernel) (by decide) ?_
    exact jj_iret .int (by decide +kernel) rfl rfl ⟨Or.inl rfl, hs⟩
theorem s_GR_operatorOf {l : Launch} {G : jj_G} {X : sy_X} {K o N d : Nat} {x0 : Int32} {h : jj_H} (hG : sy_G G X) (hdd : 0 ≤ d) (hs : Sy G X K o N h) : jj_Q l G y_GR_operatorOf d [.int x0] h (sy_F 1 false G X K o N) :=
  jj_Q.of (by decide +kernel) (Nat.le_of_ble_eq_true rfl) (b_GR_operatorOf_0 hG hdd hs)
set_option maxRecDepth 100000 in
set_option maxHeartbeats 4000000 in
theorem b_GR_mayFollow_0 {l : Launch} {G : jj_G} {X : sy_X} {K o N d : Nat} {x0 x1 x2 : Int32} {h : jj_H} (hG : sy_G G X) (hdd : 0 ≤ d) (hs : Sy G X K o N h) : jj_P l G y_GR_mayFollow d (sy_F 2 false G X K o N) 0 [some (.int x0), some (.int x1), some (.int x2)] [] h := by
  refine jj_iload_n (j := 2) (by decide +kernel) rfl ?_
  refine jj_iconst (n := 1) (v := 1) (by decide +kernel) (by decide) ?_
  refine jj_icmp_ne (off := 28) (tgt := 30) (by decide +kernel) (by decide) (fun c1 => ?_) (fun c1 => ?_)
  · skip
    refine jj_iload_n (j := 2) (by decide +kernel) rfl ?_
    refine jj_iconst (n := 4) (v := 4) (by decide +kernel) (by decide) ?_
    refine jj_icmp_lt (off := 7) (tgt := 39) (by decide +kernel) (by decide) (fun c2 => ?_) (fun c2 => ?_)
    · skip
      refine jj_iconst (n := 0) (v := 0) (by decide +kernel) (by decide) ?_
      exact jj_iret .boolean (by decide +kernel) rfl rfl ⟨Or.inr (Or.inl ⟨rfl, Or.inl rfl⟩), hs⟩
    · skip
      refine jj_iconst (n := 1) (v := 1) (by decide +kernel) (by decide) ?_
      refine jj_goto (off := 4) (tgt := 40) (by decide +kernel) (by decide) ?_
      exact jj_iret .boolean (by decide +kernel) rfl rfl ⟨Or.inr (Or.inl ⟨rfl, Or.inr rfl⟩), hs⟩
  · skip
    refine jj_iload_n (j := 0) (by decide +kernel) rfl ?_
    refine jj_iload_n (j := 1) (by decide +kernel) rfl ?_
    refine jj_icmp_ne (off := 21) (tgt := 28) (by decide +kernel) (by decide) (fun c3 => ?_) (fun c3 => ?_)
    · skip
      refine jj_iconst (n := 0) (v := 0) (by decide +kernel) (by decide) ?_
      exact jj_iret .boolean (by decide +kernel) rfl rfl ⟨Or.inr (Or.inl ⟨rfl, Or.inl rfl⟩), hs⟩
    · skip
      refine jj_iload_n (j := 1) (by decide +kernel) rfl ?_
      refine jj_if_eq (off := 13) (tgt := 24) (by decide +kernel) (by decide) (fun c4 => ?_) (fun c4 => ?_)
      · skip
        refine jj_iconst (n := 1) (v := 1) (by decide +kernel) (by decide) ?_
        refine jj_goto (off := 4) (tgt := 29) (by decide +kernel) (by decide) ?_
        exact jj_iret .boolean (by decide +kernel) rfl rfl ⟨Or.inr (Or.inl ⟨rfl, Or.inr rfl⟩), hs⟩
      · skip
        refine jj_iload_n (j := 1) (by decide +kernel) rfl ?_
        refine jj_iconst (n := 1) (v := 1) (by decide +kernel) (by decide) ?_
        refine jj_icmp_eq (off := 8) (tgt := 24) (by decide +kernel) (by decide) (fun c5 => ?_) (fun c5 => ?_)
        · skip
          refine jj_iconst (n := 1) (v := 1) (by decide +kernel) (by decide) ?_
          refine jj_goto (off := 4) (tgt := 29) (by decide +kernel) (by decide) ?_
          exact jj_iret .boolean (by decide +kernel) rfl rfl ⟨Or.inr (Or.inl ⟨rfl, Or.inr rfl⟩), hs⟩
        · skip
          refine jj_iload_n (j := 1) (by decide +kernel) rfl ?_
          refine jj_iconst (n := 4) (v := 4) (by decide +kernel) (by decide) ?_
          refine jj_icmp_ne (off := 7) (tgt := 28) (by decide +kernel) (by decide) (fun c6 => ?_) (fun c6 => ?_)
          · skip
            refine jj_iconst (n := 0) (v := 0) (by decide +kernel) (by decide) ?_
            exact jj_iret .boolean (by decide +kernel) rfl rfl ⟨Or.inr (Or.inl ⟨rfl, Or.inl rfl⟩), hs⟩
          · skip
            refine jj_iconst (n := 1) (v := 1) (by decide +kernel) (by decide) ?_
            refine jj_goto (off := 4) (tgt := 29) (by decide +kernel) (by decide) ?_
            exact jj_iret .boolean (by decide +kernel) rfl rfl ⟨Or.inr (Or.inl ⟨rfl, Or.inr rfl⟩), hs⟩
theorem s_GR_mayFollow {l : Launch} {G : jj_G} {X : sy_X} {K o N d : Nat} {x0 x1 x2 : Int32} {h : jj_H} (hG : sy_G G X) (hdd : 0 ≤ d) (hs : Sy G X K o N h) : jj_Q l G y_GR_mayFollow d [.int x0, .int x1, .int x2] h (sy_F 2 false G X K o N) :=
  jj_Q.of (by decide +kernel) (Nat.le_of_ble_eq_true rfl) (b_GR_mayFollow_0 hG hdd hs)
set_option maxRecDepth 100000 in
set_option maxHeartbeats 4000000 in
theorem b_SC_pairOf_0 {l : Launch} {G : jj_G} {X : sy_X} {K o N d : Nat} {x0 x1 : Int32} {h : jj_H} (hG : sy_G G X) (hdd : 0 ≤ d) (hs : Sy G X K o N h) : jj_P l G y_SC_pairOf d (sy_F 1 false G X K o N) 0 [some (.int x0), some (.int x1)] [] h := by
  refine jj_iload_n (j := 1) (by decide +kernel) rfl ?_
  refine jj_bipush (n := 61) (v := 61) (by decide +kernel) (by decide) ?_
  refine jj_icmp_ne (off := 63) (tgt := 66) (by decide +kernel) (by decide) (fun c1 => ?_) (fun c1 => ?_)
  · skip
    refine jj_iload_n (j := 0) (by decide +kernel) rfl ?_
    refine jj_bipush (n := 61) (v := 61) (by decide +kernel) (by decide) ?_
    refine jj_icmp_ne (off := 15) (tgt := 84) (by decide +kernel) (by decide) (fun c2 => ?_) (fun c2 => ?_)
    · skip
      refine jj_iconst (n := (-1)) (v := (-1)) (by decide +kernel) (by decide) ?_
      exact jj_iret .int (by decide +kernel) rfl rfl ⟨Or.inl rfl, hs⟩
    · skip
      refine jj_iload_n (j := 1) (by decide +kernel) rfl ?_
      refine jj_bipush (n := 62) (v := 62) (by decide +kernel) (by decide) ?_
      refine jj_icmp_ne (off := 9) (tgt := 84) (by decide +kernel) (by decide) (fun c3 => ?_) (fun c3 => ?_)
      · skip
        refine jj_iconst (n := (-1)) (v := (-1)) (by decide +kernel) (by decide) ?_
        exact jj_iret .int (by decide +kernel) rfl rfl ⟨Or.inl rfl, hs⟩
      · skip
        refine jj_sipush (n := 130) (v := 130) (by decide +kernel) (by decide) ?_
        refine jj_goto (off := 4) (tgt := 85) (by decide +kernel) (by decide) ?_
        exact jj_iret .int (by decide +kernel) rfl rfl ⟨Or.inl rfl, hs⟩
  · skip
    refine jj_iload_n (j := 0) (by decide +kernel) rfl ?_
    refine jj_lookupAny (dflt := 57) (ps := #[(47, 49), (58, 41), (60, 45), (62, 53)]) (len := 41) (ts := [48, 52, 56, 60, 64]) (by decide +kernel) (by decide) (by decide +kernel) (jt_c ?_ (jt_c ?_ (jt_c ?_ (jt_c ?_ (jt_c ?_ jt_0)))))
    · skip
      refine jj_sipush (n := 128) (v := 128) (by decide +kernel) (by decide) ?_
      exact jj_iret .int (by decide +kernel) rfl rfl ⟨Or.inl rfl, hs⟩
    · skip
      refine jj_sipush (n := 129) (v := 129) (by decide +kernel) (by decide) ?_
      exact jj_iret .int (by decide +kernel) rfl rfl ⟨Or.inl rfl, hs⟩
    · skip
      refine jj_sipush (n := 131) (v := 131) (by decide +kernel) (by decide) ?_
      exact jj_iret .int (by decide +kernel) rfl rfl ⟨Or.inl rfl, hs⟩
    · skip
      refine jj_sipush (n := 132) (v := 132) (by decide +kernel) (by decide) ?_
      exact jj_iret .int (by decide +kernel) rfl rfl ⟨Or.inl rfl, hs⟩
    · skip
      refine jj_iconst (n := (-1)) (v := (-1)) (by decide +kernel) (by decide) ?_
      exact jj_iret .int (by decide +kernel) rfl rfl ⟨Or.inl rfl, hs⟩
theorem s_SC_pairOf {l : Launch} {G : jj_G} {X : sy_X} {K o N d : Nat} {x0 x1 : Int32} {h : jj_H} (hG : sy_G G X) (hdd : 0 ≤ d) (hs : Sy G X K o N h) : jj_Q l G y_SC_pairOf d [.int x0, .int x1] h (sy_F 1 false G X K o N) :=
  jj_Q.of (by decide +kernel) (Nat.le_of_ble_eq_true rfl) (b_SC_pairOf_0 hG hdd hs)
set_option maxRecDepth 100000 in
set_option maxHeartbeats 4000000 in
theorem b_CU_take_0 {l : Launch} {G : jj_G} {X : sy_X} {K o N d : Nat} {h : jj_H} (hG : sy_G G X) (hdd : 8 ≤ d) (hs : Sy G X K o N h) : jj_P l G y_CU_take d (sy_F 0 true G X K o N) 0 [some (.ref (X.2.2.1 12))] [] h := by
  refine jj_aload_n (j := 0) (by decide +kernel) rfl ?_
  refine jj_dup (by decide +kernel) rfl ?_
  obtain ⟨ki, va, pl, fa, fp, ne, hg⟩ := hs.gr hG.2
  refine jj_getfield 10 ck_GR fl_CU_34 (by decide) (by decide +kernel) hg rfl ?_
  refine jj_iconst (n := 1) (v := 1) (by decide +kernel) (by decide) ?_
  refine jj_iadd (by decide +kernel) ?_
  refine sy_putGR (k := 10) hs hG.2 (by decide) fl_CU_34 (by decide +kernel) (fun h hs => ?_)
  refine jj_aload_n (j := 0) (by decide +kernel) rfl ?_
  refine jj_aload_n (j := 0) (by decide +kernel) rfl ?_
  obtain ⟨ki, va, pl, fa, fp, ne, hg⟩ := hs.gr hG.2
  refine jj_getfield 8 ck_GR fl_CU_9 (by decide) (by decide +kernel) hg rfl ?_
  refine jj_aload_n (j := 0) (by decide +kernel) rfl ?_
  obtain ⟨ki, va, pl, fa, fp, ne, hg⟩ := hs.gr hG.2
  refine jj_getfield 10 ck_GR fl_CU_34 (by decide) (by decide +kernel) hg rfl ?_
  refine jj_iconst (n := 0) (v := 0) (by decide +kernel) (by decide) ?_
  refine sy_ci (s_tab_at (d := d - 1) (t := 8) hG.1 hs (by decide) (by decide) (sy_o hG.2)) (fun o1 h1 hC => jj_callV ok_TB_at ml_CU_43 im_TB_at se_TB_TB_at (by decide +kernel) (hs.rcT (t := 8) (by decide) (by decide) (sy_o hG.2)) rfl (by omega) (Nat.le_of_ble_eq_true rfl) hC) (by decide) rfl (fun q => by cases q) (fun v1 h _ hs => ?_)
  refine sy_putGR (k := 3) hs hG.2 (by decide) fl_CU_18 (by decide +kernel) (fun h hs => ?_)
  refine jj_aload_n (j := 0) (by decide +kernel) rfl ?_
  refine jj_aload_n (j := 0) (by decide +kernel) rfl ?_
  obtain ⟨ki, va, pl, fa, fp, ne, hg⟩ := hs.gr hG.2
  refine jj_getfield 8 ck_GR fl_CU_9 (by decide) (by decide +kernel) hg rfl ?_
  refine jj_aload_n (j := 0) (by decide +kernel) rfl ?_
  obtain ⟨ki, va, pl, fa, fp, ne, hg⟩ := hs.gr hG.2
  refine jj_getfield 10 ck_GR fl_CU_34 (by decide) (by decide +kernel) hg rfl ?_
  refine jj_iconst (n := 1) (v := 1) (by decide +kernel) (by decide) ?_
  refine sy_ci (s_tab_at (d := d - 1) (t := 8) hG.1 hs (by decide) (by decide) (sy_o hG.2)) (fun o1 h1 hC => jj_callV ok_TB_at ml_CU_43 im_TB_at se_TB_TB_at (by decide +kernel) (hs.rcT (t := 8) (by decide) (by decide) (sy_o hG.2)) rfl (by omega) (Nat.le_of_ble_eq_true rfl) hC) (by decide) rfl (fun q => by cases q) (fun v2 h _ hs => ?_)
  refine sy_putGR (k := 4) hs hG.2 (by decide) fl_CU_22 (by decide +kernel) (fun h hs => ?_)
  refine jj_aload_n (j := 0) (by decide +kernel) rfl ?_
  refine jj_aload_n (j := 0) (by decide +kernel) rfl ?_
  obtain ⟨ki, va, pl, fa, fp, ne, hg⟩ := hs.gr hG.2
  refine jj_getfield 8 ck_GR fl_CU_9 (by decide) (by decide +kernel) hg rfl ?_
  refine jj_aload_n (j := 0) (by decide +kernel) rfl ?_
  obtain ⟨ki, va, pl, fa, fp, ne, hg⟩ := hs.gr hG.2
  refine jj_getfield 10 ck_GR fl_CU_34 (by decide) (by decide +kernel) hg rfl ?_
  refine jj_iconst (n := 2) (v := 2) (by decide +kernel) (by decide) ?_
  refine sy_ci (s_tab_at (d := d - 1) (t := 8) hG.1 hs (by decide) (by decide) (sy_o hG.2)) (fun o1 h1 hC => jj_callV ok_TB_at ml_CU_43 im_TB_at se_TB_TB_at (by decide +kernel) (hs.rcT (t := 8) (by decide) (by decide) (sy_o hG.2)) rfl (by omega) (Nat.le_of_ble_eq_true rfl) hC) (by decide) rfl (fun q => by cases q) (fun v3 h _ hs => ?_)
  refine sy_putGR (k := 5) hs hG.2 (by decide) fl_CU_25 (by decide +kernel) (fun h hs => ?_)
  refine jj_aload_n (j := 0) (by decide +kernel) rfl ?_
  obtain ⟨ki, va, pl, fa, fp, ne, hg⟩ := hs.gr hG.2
  refine jj_getfield 3 ck_GR fl_CU_18 (by decide) (by decide +kernel) hg rfl ?_
  refine jj_sipush (n := 145) (v := 145) (by decide +kernel) (by decide) ?_
  refine jj_icmp_ne (off := 11) (tgt := 76) (by decide +kernel) (by decide) (fun c4 => ?_) (fun c4 => ?_)
  · skip
    exact jj_vret (by decide +kernel) rfl ⟨rfl, hs⟩
  · skip
    refine jj_aload_n (j := 0) (by decide +kernel) rfl ?_
    refine jj_aload_n (j := 0) (by decide +kernel) rfl ?_
    obtain ⟨ki, va, pl, fa, fp, ne, hg⟩ := hs.gr hG.2
    refine jj_getfield 4 ck_GR fl_CU_22 (by decide) (by decide +kernel) hg rfl ?_
    exact sy_cx (s_CU_raise (d := d - 1) hG.2 hs (by omega)) (fun o1 h1 hC => jj_callV ok_CU_raise ml_CU_49 im_CU_raise se_GR_CU_raise (by decide +kernel) (hs.rcGR hG.2) rfl (by omega) (Nat.le_of_ble_eq_true rfl) hC) rfl (fun _ _ q => ⟨rfl, rfl, _, q⟩)
theorem s_CU_take {l : Launch} {G : jj_G} {X : sy_X} {K o N d : Nat} {h : jj_H} (hG : sy_G G X) (hdd : 8 ≤ d) (hs : Sy G X K o N h) : jj_Q l G y_CU_take d [.ref (X.2.2.1 12)] h (sy_F 0 true G X K o N) :=
  jj_Q.of (by decide +kernel) (Nat.le_of_ble_eq_true rfl) (b_CU_take_0 hG hdd hs)
set_option maxRecDepth 100000 in
set_option maxHeartbeats 4000000 in
theorem b_CU_accept_0 {l : Launch} {G : jj_G} {X : sy_X} {K o N d : Nat} {x1 : Int32} {h : jj_H} (hG : sy_G G X) (hdd : 9 ≤ d) (hs : Sy G X K o N h) : jj_P l G y_CU_accept d (sy_F 2 true G X K o N) 0 [some (.ref (X.2.2.1 12)), some (.int x1)] [] h := by
  refine jj_aload_n (j := 0) (by decide +kernel) rfl ?_
  obtain ⟨ki, va, pl, fa, fp, ne, hg⟩ := hs.gr hG.2
  refine jj_getfield 3 ck_GR fl_CU_18 (by decide) (by decide +kernel) hg rfl ?_
  refine jj_iload_n (j := 1) (by decide +kernel) rfl ?_
  refine jj_icmp_eq (off := 5) (tgt := 10) (by decide +kernel) (by decide) (fun c1 => ?_) (fun c1 => ?_)
  · skip
    refine jj_aload_n (j := 0) (by decide +kernel) rfl ?_
    refine sy_cv (s_CU_take (d := d - 1) hG (by omega) hs) (fun o1 h1 hC => jj_callV ok_CU_take ml_CU_40 im_CU_take se_GR_CU_take (by decide +kernel) (hs.rcGR hG.2) rfl (by omega) (Nat.le_of_ble_eq_true rfl) hC) rfl (fun _ _ _ q => ⟨rfl, rfl, _, q⟩) (fun h hs => ?_)
    refine jj_iconst (n := 1) (v := 1) (by decide +kernel) (by decide) ?_
    exact jj_iret .boolean (by decide +kernel) rfl rfl ⟨Or.inr (Or.inl ⟨rfl, Or.inr rfl⟩), hs⟩
  · skip
    refine jj_iconst (n := 0) (v := 0) (by decide +kernel) (by decide) ?_
    exact jj_iret .boolean (by decide +kernel) rfl rfl ⟨Or.inr (Or.inl ⟨rfl, Or.inl rfl⟩), hs⟩
theorem s_CU_accept {l : Launch} {G : jj_G} {X : sy_X} {K o N d : Nat} {x1 : Int32} {h : jj_H} (hG : sy_G G X) (hdd : 9 ≤ d) (hs : Sy G X K o N h) : jj_Q l G y_CU_accept d [.ref (X.2.2.1 12), .int x1] h (sy_F 2 true G X K o N) :=
  jj_Q.of (by decide +kernel) (Nat.le_of_ble_eq_true rfl) (b_CU_accept_0 hG hdd hs)
set_option maxRecDepth 100000 in
set_option maxHeartbeats 4000000 in
theorem b_CU_expect_0 {l : Launch} {G : jj_G} {X : sy_X} {K o N d : Nat} {x1 : Int32} {h : jj_H} (hG : sy_G G X) (hdd : 9 ≤ d) (hs : Sy G X K o N h) : jj_P l G y_CU_expect d (sy_F 0 true G X K o N) 0 [some (.ref (X.2.2.1 12)), some (.int x1)] [] h := by
  refine jj_aload_n (j := 0) (by decide +kernel) rfl ?_
  obtain ⟨ki, va, pl, fa, fp, ne, hg⟩ := hs.gr hG.2
  refine jj_getfield 3 ck_GR fl_CU_18 (by decide) (by decide +kernel) hg rfl ?_
  refine jj_iload_n (j := 1) (by decide +kernel) rfl ?_
  refine jj_icmp_eq (off := 8) (tgt := 13) (by decide +kernel) (by decide) (fun c1 => ?_) (fun c1 => ?_)
  · skip
    refine jj_aload_n (j := 0) (by decide +kernel) rfl ?_
    refine sy_cv (s_CU_take (d := d - 1) hG (by omega) hs) (fun o1 h1 hC => jj_callV ok_CU_take ml_CU_40 im_CU_take se_GR_CU_take (by decide +kernel) (hs.rcGR hG.2) rfl (by omega) (Nat.le_of_ble_eq_true rfl) hC) rfl (fun _ _ _ q => ⟨rfl, rfl, _, q⟩) (fun h hs => ?_)
    exact jj_vret (by decide +kernel) rfl ⟨rfl, hs⟩
  · skip
    refine jj_aload_n (j := 0) (by decide +kernel) rfl ?_
    refine jj_iconst (n := 3) (v := 3) (by decide +kernel) (by decide) ?_
    exact sy_cx (s_CU_raise (d := d - 1) hG.2 hs (by omega)) (fun o1 h1 hC => jj_callV ok_CU_raise ml_CU_49 im_CU_raise se_GR_CU_raise (by decide +kernel) (hs.rcGR hG.2) rfl (by omega) (Nat.le_of_ble_eq_true rfl) hC) rfl (fun _ _ q => ⟨rfl, rfl, _, q⟩)
theorem s_CU_expect {l : Launch} {G : jj_G} {X : sy_X} {K o N d : Nat} {x1 : Int32} {h : jj_H} (hG : sy_G G X) (hdd : 9 ≤ d) (hs : Sy G X K o N h) : jj_Q l G y_CU_expect d [.ref (X.2.2.1 12), .int x1] h (sy_F 0 true G X K o N) :=
  jj_Q.of (by decide +kernel) (Nat.le_of_ble_eq_true rfl) (b_CU_expect_0 hG hdd hs)
set_option maxRecDepth 100000 in
set_option maxHeartbeats 4000000 in
theorem b_CU_takeName_0 {l : Launch} {G : jj_G} {X : sy_X} {K o N d : Nat} {h : jj_H} (hG : sy_G G X) (hdd : 9 ≤ d) (hs : Sy G X K o N h) : jj_P l G y_CU_takeName d (sy_F 1 true G X K o N) 0 [some (.ref (X.2.2.1 12)), none] [] h := by
  refine jj_aload_n (j := 0) (by decide +kernel) rfl ?_
  obtain ⟨ki, va, pl, fa, fp, ne, hg⟩ := hs.gr hG.2
  refine jj_getfield 3 ck_GR fl_CU_18 (by decide) (by decide +kernel) hg rfl ?_
  refine jj_sipush (n := 140) (v := 140) (by decide +kernel) (by decide) ?_
  refine jj_icmp_eq (off := 8) (tgt := 15) (by decide +kernel) (by decide) (fun c1 => ?_) (fun c1 => ?_)
  · skip
    refine jj_aload_n (j := 0) (by decide +kernel) rfl ?_
    obtain ⟨ki, va, pl, fa, fp, ne, hg⟩ := hs.gr hG.2
    refine jj_getfield 4 ck_GR fl_CU_22 (by decide) (by decide +kernel) hg rfl ?_
    refine jj_istore_n (j := 1) (by decide +kernel) (by decide) rfl ?_
    refine jj_aload_n (j := 0) (by decide +kernel) rfl ?_
    refine sy_cv (s_CU_take (d := d - 1) hG (by omega) hs) (fun o1 h1 hC => jj_callV ok_CU_take ml_CU_40 im_CU_take se_GR_CU_take (by decide +kernel) (hs.rcGR hG.2) rfl (by omega) (Nat.le_of_ble_eq_true rfl) hC) rfl (fun _ _ _ q => ⟨rfl, rfl, _, q⟩) (fun h hs => ?_)
    refine jj_iload_n (j := 1) (by decide +kernel) rfl ?_
    exact jj_iret .int (by decide +kernel) rfl rfl ⟨Or.inl rfl, hs⟩
  · skip
    refine jj_aload_n (j := 0) (by decide +kernel) rfl ?_
    refine jj_iconst (n := 3) (v := 3) (by decide +kernel) (by decide) ?_
    exact sy_cx (s_CU_raise (d := d - 1) hG.2 hs (by omega)) (fun o1 h1 hC => jj_callV ok_CU_raise ml_CU_49 im_CU_raise se_GR_CU_raise (by decide +kernel) (hs.rcGR hG.2) rfl (by omega) (Nat.le_of_ble_eq_true rfl) hC) rfl (fun _ _ q => ⟨rfl, rfl, _, q⟩)
theorem s_CU_takeName {l : Launch} {G : jj_G} {X : sy_X} {K o N d : Nat} {h : jj_H} (hG : sy_G G X) (hdd : 9 ≤ d) (hs : Sy G X K o N h) : jj_Q l G y_CU_takeName d [.ref (X.2.2.1 12)] h (sy_F 1 true G X K o N) :=
  jj_Q.of (by decide +kernel) (Nat.le_of_ble_eq_true rfl) (b_CU_takeName_0 hG hdd hs)
set_option maxRecDepth 100000 in
set_option maxHeartbeats 4000000 in
theorem b_CU_tell_0 {l : Launch} {G : jj_G} {X : sy_X} {K o N d : Nat} {x1 x2 x3 : Int32} {h : jj_H} (hG : sy_G G X) (hdd : 8 ≤ d) (hs : Sy G X K o N h) : jj_P l G y_CU_tell d (sy_F 0 true G X K o N) 0 [some (.ref (X.2.2.1 12)), some (.int x1), some (.int x2), some (.int x3)] [] h := by
  refine jj_aload_n (j := 0) (by decide +kernel) rfl ?_
  obtain ⟨ki, va, pl, fa, fp, ne, hg⟩ := hs.gr hG.2
  refine jj_getfield 9 ck_GR fl_CU_15 (by decide) (by decide +kernel) hg rfl ?_
  refine sy_ci (s_tab_size (d := d - 1) (t := 7) hs (by decide) (by decide) (sy_o hG.2)) (fun o1 h1 hC => jj_callV ok_TB_size ml_CU_53 im_TB_size se_TB_TB_size (by decide +kernel) (hs.rcT (t := 7) (by decide) (by decide) (sy_o hG.2)) rfl (by omega) (Nat.le_of_ble_eq_true rfl) hC) (by decide) rfl (fun q => by cases q) (fun v1 h hv1 hs => ?_)
  refine jj_sipush (n := 16384) (v := 16384) (by decide +kernel) (by decide) ?_
  refine jj_icmp_lt (off := 8) (tgt := 18) (by decide +kernel) (by decide) (fun c2 => ?_) (fun c2 => ?_)
  · skip
    refine jj_aload_n (j := 0) (by decide +kernel) rfl ?_
    obtain ⟨ki, va, pl, fa, fp, ne, hg⟩ := hs.gr hG.2
    refine jj_getfield 9 ck_GR fl_CU_15 (by decide) (by decide +kernel) hg rfl ?_
    refine jj_iload_n (j := 1) (by decide +kernel) rfl ?_
    refine jj_iload_n (j := 2) (by decide +kernel) rfl ?_
    refine jj_iload_n (j := 3) (by decide +kernel) rfl ?_
    refine sy_cv (s_tab_add (d := d - 1) (t := 7) hG.1 hs (by decide) (by decide) (sy_o hG.2) (by omega)) (fun o1 h1 hC => jj_callV ok_TB_add ml_CU_57 im_TB_add se_TB_TB_add (by decide +kernel) (hs.rcT (t := 7) (by decide) (by decide) (sy_o hG.2)) rfl (by omega) (Nat.le_of_ble_eq_true rfl) hC) rfl (fun q => by cases q) (fun h hs => ?_)
    exact jj_vret (by decide +kernel) rfl ⟨rfl, hs⟩
  · skip
    refine jj_aload_n (j := 0) (by decide +kernel) rfl ?_
    refine jj_iconst (n := 4) (v := 4) (by decide +kernel) (by decide) ?_
    exact sy_cx (s_CU_raise (d := d - 1) hG.2 hs (by omega)) (fun o1 h1 hC => jj_callV ok_CU_raise ml_CU_49 im_CU_raise se_GR_CU_raise (by decide +kernel) (hs.rcGR hG.2) rfl (by omega) (Nat.le_of_ble_eq_true rfl) hC) rfl (fun _ _ q => ⟨rfl, rfl, _, q⟩)
theorem s_CU_tell {l : Launch} {G : jj_G} {X : sy_X} {K o N d : Nat} {x1 x2 x3 : Int32} {h : jj_H} (hG : sy_G G X) (hdd : 8 ≤ d) (hs : Sy G X K o N h) : jj_Q l G y_CU_tell d [.ref (X.2.2.1 12), .int x1, .int x2, .int x3] h (sy_F 0 true G X K o N) :=
  jj_Q.of (by decide +kernel) (Nat.le_of_ble_eq_true rfl) (b_CU_tell_0 hG hdd hs)
set_option maxRecDepth 100000 in
set_option maxHeartbeats 4000000 in
theorem b_CU_tellNothing_0 {l : Launch} {G : jj_G} {X : sy_X} {K o N d : Nat} {h : jj_H} (hG : sy_G G X) (hdd : 9 ≤ d) (hs : Sy G X K o N h) : jj_P l G y_CU_tellNothing d (sy_F 0 true G X K o N) 0 [some (.ref (X.2.2.1 12))] [] h := by
  refine jj_aload_n (j := 0) (by decide +kernel) rfl ?_
  refine jj_iconst (n := 0) (v := 0) (by decide +kernel) (by decide) ?_
  refine jj_iconst (n := 0) (v := 0) (by decide +kernel) (by decide) ?_
  refine jj_iconst (n := 0) (v := 0) (by decide +kernel) (by decide) ?_
  refine sy_cv (s_CU_tell (d := d - 1) hG (by omega) hs) (fun o1 h1 hC => jj_callV ok_CU_tell ml_CU_61 im_CU_tell se_GR_CU_tell (by decide +kernel) (hs.rcGR hG.2) rfl (by omega) (Nat.le_of_ble_eq_true rfl) hC) rfl (fun _ _ _ q => ⟨rfl, rfl, _, q⟩) (fun h hs => ?_)
  exact jj_vret (by decide +kernel) rfl ⟨rfl, hs⟩
theorem s_CU_tellNothing {l : Launch} {G : jj_G} {X : sy_X} {K o N d : Nat} {h : jj_H} (hG : sy_G G X) (hdd : 9 ≤ d) (hs : Sy G X K o N h) : jj_Q l G y_CU_tellNothing d [.ref (X.2.2.1 12)] h (sy_F 0 true G X K o N) :=
  jj_Q.of (by decide +kernel) (Nat.le_of_ble_eq_true rfl) (b_CU_tellNothing_0 hG hdd hs)
set_option maxRecDepth 100000 in
set_option maxHeartbeats 4000000 in
theorem b_CU_told_0 {l : Launch} {G : jj_G} {X : sy_X} {K o N d : Nat} {h : jj_H} (hG : sy_G G X) (hdd : 1 ≤ d) (hs : Sy G X K o N h) : jj_P l G y_CU_told d (sy_F 3 false G X K o N) 0 [some (.ref (X.2.2.1 12))] [] h := by
  refine jj_aload_n (j := 0) (by decide +kernel) rfl ?_
  obtain ⟨ki, va, pl, fa, fp, ne, hg⟩ := hs.gr hG.2
  refine jj_getfield 9 ck_GR fl_CU_15 (by decide) (by decide +kernel) hg rfl ?_
  refine sy_ci (s_tab_size (d := d - 1) (t := 7) hs (by decide) (by decide) (sy_o hG.2)) (fun o1 h1 hC => jj_callV ok_TB_size ml_CU_53 im_TB_size se_TB_TB_size (by decide +kernel) (hs.rcT (t := 7) (by decide) (by decide) (sy_o hG.2)) rfl (by omega) (Nat.le_of_ble_eq_true rfl) hC) (by decide) rfl (fun q => by cases q) (fun v1 h hv1 hs => ?_)
  exact jj_iret .int (by decide +kernel) rfl rfl ⟨Or.inr (Or.inr ⟨rfl, (hv1 rfl)⟩), hs⟩
theorem s_CU_told {l : Launch} {G : jj_G} {X : sy_X} {K o N d : Nat} {h : jj_H} (hG : sy_G G X) (hdd : 1 ≤ d) (hs : Sy G X K o N h) : jj_Q l G y_CU_told d [.ref (X.2.2.1 12)] h (sy_F 3 false G X K o N) :=
  jj_Q.of (by decide +kernel) (Nat.le_of_ble_eq_true rfl) (b_CU_told_0 hG hdd hs)
set_option maxRecDepth 100000 in
set_option maxHeartbeats 4000000 in
theorem b_CU_tellAgain_2 {l : Launch} {G : jj_G} {X : sy_X} {K o N d : Nat} {x1 x2 : Int32} (hG : sy_G G X) (hdd : 9 ≤ d) : ∀ (n : Nat) (x3 : Int32) (h : jj_H), (2147483647 - x3.toInt).toNat < n → Sy G X K o N h → jj_P l G y_CU_tellAgain d (sy_F 0 true G X K o N) 2 [some (.ref (X.2.2.1 12)), some (.int x1), some (.int x2), some (.int x3)] [] h := by
  intro n
  induction n with
  | zero => intro x3 h hn; exact absurd hn (Nat.not_lt_zero _)
  | succ n ih =>
    intro x3 h hn hs
    refine jj_iload_n (j := 3) (by decide +kernel) rfl ?_
    refine jj_iload_n (j := 2) (by decide +kernel) rfl ?_
    refine jj_icmp_ge (off := 40) (tgt := 44) (by decide +kernel) (by decide) (fun c1 => ?_) (fun c1 => ?_)
    · skip
      exact jj_vret (by decide +kernel) rfl ⟨rfl, hs⟩
    · skip
      have hdec := up_lt (Int32.not_le.mp c1) hn
      refine jj_aload_n (j := 0) (by decide +kernel) rfl ?_
      refine jj_aload_n (j := 0) (by decide +kernel) rfl ?_
      obtain ⟨ki, va, pl, fa, fp, ne, hg⟩ := hs.gr hG.2
      refine jj_getfield 9 ck_GR fl_CU_15 (by decide) (by decide +kernel) hg rfl ?_
      refine jj_iload_n (j := 3) (by decide +kernel) rfl ?_
      refine jj_iconst (n := 0) (v := 0) (by decide +kernel) (by decide) ?_
      refine sy_ci (s_tab_at (d := d - 1) (t := 7) hG.1 hs (by decide) (by decide) (sy_o hG.2)) (fun o1 h1 hC => jj_callV ok_TB_at ml_CU_43 im_TB_at se_TB_TB_at (by decide +kernel) (hs.rcT (t := 7) (by decide) (by decide) (sy_o hG.2)) rfl (by omega) (Nat.le_of_ble_eq_true rfl) hC) (by decide) rfl (fun q => by cases q) (fun v2 h _ hs => ?_)
      refine jj_aload_n (j := 0) (by decide +kernel) rfl ?_
      obtain ⟨ki, va, pl, fa, fp, ne, hg⟩ := hs.gr hG.2
      refine jj_getfield 9 ck_GR fl_CU_15 (by decide) (by decide +kernel) hg rfl ?_
      refine jj_iload_n (j := 3) (by decide +kernel) rfl ?_
      refine jj_iconst (n := 1) (v := 1) (by decide +kernel) (by decide) ?_
      refine sy_ci (s_tab_at (d := d - 1) (t := 7) hG.1 hs (by decide) (by decide) (sy_o hG.2)) (fun o1 h1 hC => jj_callV ok_TB_at ml_CU_43 im_TB_at se_TB_TB_at (by decide +kernel) (hs.rcT (t := 7) (by decide) (by decide) (sy_o hG.2)) rfl (by omega) (Nat.le_of_ble_eq_true rfl) hC) (by decide) rfl (fun q => by cases q) (fun v3 h _ hs => ?_)
      refine jj_aload_n (j := 0) (by decide +kernel) rfl ?_
      obtain ⟨ki, va, pl, fa, fp, ne, hg⟩ := hs.gr hG.2
      refine jj_getfield 9 ck_GR fl_CU_15 (by decide) (by decide +kernel) hg rfl ?_
      refine jj_iload_n (j := 3) (by decide +kernel) rfl ?_
      refine jj_iconst (n := 2) (v := 2) (by decide +kernel) (by decide) ?_
      refine sy_ci (s_tab_at (d := d - 1) (t := 7) hG.1 hs (by decide) (by decide) (sy_o hG.2)) (fun o1 h1 hC => jj_callV ok_TB_at ml_CU_43 im_TB_at se_TB_TB_at (by decide +kernel) (hs.rcT (t := 7) (by decide) (by decide) (sy_o hG.2)) rfl (by omega) (Nat.le_of_ble_eq_true rfl) hC) (by decide) rfl (fun q => by cases q) (fun v4 h _ hs => ?_)
      refine sy_cv (s_CU_tell (d := d - 1) hG (by omega) hs) (fun o1 h1 hC => jj_callV ok_CU_tell ml_CU_61 im_CU_tell se_GR_CU_tell (by decide +kernel) (hs.rcGR hG.2) rfl (by omega) (Nat.le_of_ble_eq_true rfl) hC) rfl (fun _ _ _ q => ⟨rfl, rfl, _, q⟩) (fun h hs => ?_)
      refine jj_iinc (i := 3) (n := 1) (by decide +kernel) rfl rfl (by decide) rfl ?_
      refine jj_goto (off := (-39)) (tgt := 2) (by decide +kernel) (by decide) ?_
      exact jj_wk (js_s (js_s (js_s (js_s js_0)))) (ih _ _ hdec hs)
set_option maxRecDepth 100000 in
set_option maxHeartbeats 4000000 in
theorem b_CU_tellAgain_0 {l : Launch} {G : jj_G} {X : sy_X} {K o N d : Nat} {x1 x2 : Int32} {h : jj_H} (hG : sy_G G X) (hdd : 9 ≤ d) (hs : Sy G X K o N h) : jj_P l G y_CU_tellAgain d (sy_F 0 true G X K o N) 0 [some (.ref (X.2.2.1 12)), some (.int x1), some (.int x2), none] [] h := by
  refine jj_iload_n (j := 1) (by decide +kernel) rfl ?_
  refine jj_istore_n (j := 3) (by decide +kernel) (by decide) rfl ?_
  exact jj_wk (js_s (js_s (js_s (js_s js_0)))) (b_CU_tellAgain_2 hG hdd _ _ _ (Nat.lt_succ_self _) hs)
theorem s_CU_tellAgain {l : Launch} {G : jj_G} {X : sy_X} {K o N d : Nat} {x1 x2 : Int32} {h : jj_H} (hG : sy_G G X) (hdd : 9 ≤ d) (hs : Sy G X K o N h) : jj_Q l G y_CU_tellAgain d [.ref (X.2.2.1 12), .int x1, .int x2] h (sy_F 0 true G X K o N) :=
  jj_Q.of (by decide +kernel) (Nat.le_of_ble_eq_true rfl) (b_CU_tellAgain_0 hG hdd hs)
set_option maxRecDepth 100000 in
set_option maxHeartbeats 4000000 in
theorem b_CU_begin_0 {l : Launch} {G : jj_G} {X : sy_X} {K o N d : Nat} {h : jj_H} (hG : sy_G G X) (hdd : 9 ≤ d) (hs : Sy G X K o N h) : jj_P l G y_CU_begin d (sy_F 0 true G X K 0 N) 0 [some (.ref (X.2.2.1 12))] [] h := by
  refine jj_aload_n (j := 0) (by decide +kernel) rfl ?_
  refine jj_iconst (n := 0) (v := 0) (by decide +kernel) (by decide) ?_
  refine sy_putGR (k := 6) hs hG.2 (by decide) fl_CU_28 (by decide +kernel) (fun h hs => ?_)
  refine jj_aload_n (j := 0) (by decide +kernel) rfl ?_
  refine jj_iconst (n := (-1)) (v := (-1)) (by decide +kernel) (by decide) ?_
  refine sy_putGR (k := 7) hs hG.2 (by decide) fl_CU_31 (by decide +kernel) (fun h hs => ?_)
  refine jj_aload_n (j := 0) (by decide +kernel) rfl ?_
  refine jj_iconst (n := (-1)) (v := (-1)) (by decide +kernel) (by decide) ?_
  refine sy_putGR (k := 10) hs hG.2 (by decide) fl_CU_34 (by decide +kernel) (fun h hs => ?_)
  refine jj_aload_n (j := 0) (by decide +kernel) rfl ?_
  refine jj_iconst (n := 0) (v := 0) (by decide +kernel) (by decide) ?_
  refine sy_putO hs hG.2 rfl fl_CU_37 (by decide +kernel) (fun h hs => ?_)
  refine jj_aload_n (j := 0) (by decide +kernel) rfl ?_
  refine sy_cv (s_CU_take (d := d - 1) hG (by omega) hs) (fun o1 h1 hC => jj_callV ok_CU_take ml_CU_40 im_CU_take se_GR_CU_take (by decide +kernel) (hs.rcGR hG.2) rfl (by omega) (Nat.le_of_ble_eq_true rfl) hC) rfl (fun _ _ _ q => ⟨rfl, rfl, _, q⟩) (fun h hs => ?_)
  exact jj_vret (by decide +kernel) rfl ⟨rfl, hs⟩
theorem s_CU_begin {l : Launch} {G : jj_G} {X : sy_X} {K o N d : Nat} {h : jj_H} (hG : sy_G G X) (hdd : 9 ≤ d) (hs : Sy G X K o N h) : jj_Q l G y_CU_begin d [.ref (X.2.2.1 12)] h (sy_F 0 true G X K 0 N) :=
  jj_Q.of (by decide +kernel) (Nat.le_of_ble_eq_true rfl) (b_CU_begin_0 hG hdd hs)
end
section
set_option maxRecDepth 100000 in
set_option maxHeartbeats 4000000 in
theorem b_SP_size_0 {l : Launch} {G : jj_G} {X : sy_X} {K o N d : Nat} {h : jj_H} (hG : jj_tyG G) (hdd : 1 ≤ d) (hs : Sy G X K o N h) : jj_P l G y_SP_size d (sy_F 3 false G X K o N) 0 [some (.ref (X.2.2.1 10))] [] h := by
  refine jj_aload_n (j := 0) (by decide +kernel) rfl ?_
  obtain ⟨mi, hg⟩ := hs.sp
  refine jj_getfield 3 ck_SP fl_SP_23 (by decide) (by decide +kernel) hg rfl ?_
  refine sy_ci (s_row_size (d := d - 1) (t := 4) hs (by decide) (sy_p (by decide))) (fun o1 h1 hC => jj_callV ok_IR_size ml_SP_58 im_IR_size se_IR_IR_size (by decide +kernel) (hs.rcR (t := 4) (by decide) (sy_p (by decide))) rfl (by omega) (Nat.le_of_ble_eq_true rfl) hC) (by decide) rfl (fun q => by cases q) (fun v1 h hv1 hs => ?_)
  exact jj_iret .int (by decide +kernel) rfl rfl ⟨Or.inr (Or.inr ⟨rfl, (hv1 rfl)⟩), hs⟩
theorem s_SP_size {l : Launch} {G : jj_G} {X : sy_X} {K o N d : Nat} {h : jj_H} (hG : jj_tyG G) (hdd : 1 ≤ d) (hs : Sy G X K o N h) : jj_Q l G y_SP_size d [.ref (X.2.2.1 10)] h (sy_F 3 false G X K o N) :=
  jj_Q.of (by decide +kernel) (Nat.le_of_ble_eq_true rfl) (b_SP_size_0 hG hdd hs)
set_option maxRecDepth 100000 in
set_option maxHeartbeats 4000000 in
theorem b_SP_letterOf_0 {l : Launch} {G : jj_G} {X : sy_X} {K o N d : Nat} {x1 x2 : Int32} {h : jj_H} (hG : jj_tyG G) (hdd : 1 ≤ d) (hs : Sy G X K o N h) : jj_P l G y_SP_letterOf d (sy_F 1 false G X K o N) 0 [some (.ref (X.2.2.1 10)), some (.int x1), some (.int x2), none, none] [] h := by
  refine jj_aload_n (j := 0) (by decide +kernel) rfl ?_
  obtain ⟨mi, hg⟩ := hs.sp
  refine jj_getfield 1 ck_SP fl_SP_20 (by decide) (by decide +kernel) hg rfl ?_
  refine jj_iload_n (j := 1) (by decide +kernel) rfl ?_
  refine sy_ci (s_row_at (d := d - 1) (t := 2) hG hs (by decide) (sy_p (by decide))) (fun o1 h1 hC => jj_callV ok_IR_at ml_SP_62 im_IR_at se_IR_IR_at (by decide +kernel) (hs.rcR (t := 2) (by decide) (sy_p (by decide))) rfl (by omega) (Nat.le_of_ble_eq_true rfl) hC) (by decide) rfl (fun q => by cases q) (fun v1 h _ hs => ?_)
  refine jj_istore_n (j := 3) (by decide +kernel) (by decide) rfl ?_
  refine jj_aload_n (j := 0) (by decide +kernel) rfl ?_
  obtain ⟨mi, hg⟩ := hs.sp
  refine jj_getfield 1 ck_SP fl_SP_20 (by decide) (by decide +kernel) hg rfl ?_
  refine jj_iload_n (j := 1) (by decide +kernel) rfl ?_
  refine jj_iconst (n := 1) (v := 1) (by decide +kernel) (by decide) ?_
  refine jj_iadd (by decide +kernel) ?_
  refine sy_ci (s_row_at (d := d - 1) (t := 2) hG hs (by decide) (sy_p (by decide))) (fun o1 h1 hC => jj_callV ok_IR_at ml_SP_62 im_IR_at se_IR_IR_at (by decide +kernel) (hs.rcR (t := 2) (by decide) (sy_p (by decide))) rfl (by omega) (Nat.le_of_ble_eq_true rfl) hC) (by decide) rfl (fun q => by cases q) (fun v2 h _ hs => ?_)
  refine jj_istore (i := 4) (by decide +kernel) (by decide) rfl ?_
  refine jj_iload_n (j := 2) (by decide +kernel) rfl ?_
  refine jj_if_lt (off := 11) (tgt := 33) (by decide +kernel) (by decide) (fun c3 => ?_) (fun c3 => ?_)
  · skip
    refine jj_iconst (n := (-1)) (v := (-1)) (by decide +kernel) (by decide) ?_
    refine jj_goto (off := 13) (tgt := 47) (by decide +kernel) (by decide) ?_
    exact jj_iret .int (by decide +kernel) rfl rfl ⟨Or.inl rfl, hs⟩
  · skip
    refine jj_iload_n (j := 2) (by decide +kernel) rfl ?_
    refine jj_iload (i := 4) (by decide +kernel) rfl ?_
    refine jj_iload_n (j := 3) (by decide +kernel) rfl ?_
    refine jj_isub (by decide +kernel) ?_
    refine jj_icmp_lt (off := 7) (tgt := 37) (by decide +kernel) (by decide) (fun c4 => ?_) (fun c4 => ?_)
    · skip
      refine jj_aload_n (j := 0) (by decide +kernel) rfl ?_
      obtain ⟨mi, hg⟩ := hs.sp
      refine jj_getfield 0 ck_SP fl_SP_14 (by decide) (by decide +kernel) hg rfl ?_
      refine jj_iload_n (j := 3) (by decide +kernel) rfl ?_
      refine jj_iload_n (j := 2) (by decide +kernel) rfl ?_
      refine jj_iadd (by decide +kernel) ?_
      refine sy_ci (s_row_at (d := d - 1) (t := 1) hG hs (by decide) (sy_p (by decide))) (fun o1 h1 hC => jj_callV ok_IR_at ml_SP_62 im_IR_at se_IR_IR_at (by decide +kernel) (hs.rcR (t := 1) (by decide) (sy_p (by decide))) rfl (by omega) (Nat.le_of_ble_eq_true rfl) hC) (by decide) rfl (fun q => by cases q) (fun v5 h _ hs => ?_)
      exact jj_iret .int (by decide +kernel) rfl rfl ⟨Or.inl rfl, hs⟩
    · skip
      refine jj_iconst (n := (-1)) (v := (-1)) (by decide +kernel) (by decide) ?_
      refine jj_goto (off := 13) (tgt := 47) (by decide +kernel) (by decide) ?_
      exact jj_iret .int (by decide +kernel) rfl rfl ⟨Or.inl rfl, hs⟩
theorem s_SP_letterOf {l : Launch} {G : jj_G} {X : sy_X} {K o N d : Nat} {x1 x2 : Int32} {h : jj_H} (hG : jj_tyG G) (hdd : 1 ≤ d) (hs : Sy G X K o N h) : jj_Q l G y_SP_letterOf d [.ref (X.2.2.1 10), .int x1, .int x2] h (sy_F 1 false G X K o N) :=
  jj_Q.of (by decide +kernel) (Nat.le_of_ble_eq_true rfl) (b_SP_letterOf_0 hG hdd hs)
set_option maxRecDepth 100000 in
set_option maxHeartbeats 4000000 in
theorem b_SP_addLetter_0 {l : Launch} {G : jj_G} {X : sy_X} {K o N d : Nat} {x1 : Int32} {h : jj_H} (hG : jj_tyG G) (hdd : 6 ≤ d) (hs : Sy G X K o N h) : jj_P l G y_SP_addLetter d (sy_F 0 false G X K o N) 0 [some (.ref (X.2.2.1 10)), some (.int x1)] [] h := by
  refine jj_aload_n (j := 0) (by decide +kernel) rfl ?_
  obtain ⟨mi, hg⟩ := hs.sp
  refine jj_getfield 0 ck_SP fl_SP_14 (by decide) (by decide +kernel) hg rfl ?_
  refine jj_iload_n (j := 1) (by decide +kernel) rfl ?_
  refine sy_cv (s_row_add (d := d - 1) (t := 1) hG hs (by decide) (sy_p (by decide)) (by decide) (by omega)) (fun o1 h1 hC => jj_callV ok_IR_add ml_SP_29 im_IR_add se_IR_IR_add (by decide +kernel) (hs.rcR (t := 1) (by decide) (sy_p (by decide))) rfl (by omega) (Nat.le_of_ble_eq_true rfl) hC) rfl (fun q => by cases q) (fun h hs => ?_)
  refine jj_aload_n (j := 0) (by decide +kernel) rfl ?_
  refine jj_aload_n (j := 0) (by decide +kernel) rfl ?_
  obtain ⟨mi, hg⟩ := hs.sp
  refine jj_getfield 4 ck_SP fl_SP_38 (by decide) (by decide +kernel) hg rfl ?_
  refine jj_bipush (n := 31) (v := 31) (by decide +kernel) (by decide) ?_
  refine jj_imul (by decide +kernel) ?_
  refine jj_iload_n (j := 1) (by decide +kernel) rfl ?_
  refine jj_iadd (by decide +kernel) ?_
  refine sy_putSP hs fl_SP_38 (by decide +kernel) (fun h hs => ?_)
  exact jj_vret (by decide +kernel) rfl ⟨rfl, hs⟩
theorem s_SP_addLetter {l : Launch} {G : jj_G} {X : sy_X} {K o N d : Nat} {x1 : Int32} {h : jj_H} (hG : jj_tyG G) (hdd : 6 ≤ d) (hs : Sy G X K o N h) : jj_Q l G y_SP_addLetter d [.ref (X.2.2.1 10), .int x1] h (sy_F 0 false G X K o N) :=
  jj_Q.of (by decide +kernel) (Nat.le_of_ble_eq_true rfl) (b_SP_addLetter_0 hG hdd hs)
set_option maxRecDepth 100000 in
set_option maxHeartbeats 4000000 in
theorem b_SP_isLast_42 {l : Launch} {G : jj_G} {X : sy_X} {K o N d : Nat} {x1 x2 : Int32} (hG : jj_tyG G) (hdd : 1 ≤ d) : ∀ (n : Nat) (x3 : Int32) (x4 : Int32) (x5 : Int32) (h : jj_H), (2147483647 - x5.toInt).toNat < n → Sy G X K o N h → jj_P l G y_SP_isLast d (sy_F 2 false G X K o N) 42 [some (.ref (X.2.2.1 10)), some (.int x1), some (.int x2), some (.int x3), some (.int x4), some (.int x5)] [] h := by
  intro n
  induction n with
  | zero => intro x3 x4 x5 h hn; exact absurd hn (Nat.not_lt_zero _)
  | succ n ih =>
    intro x3 x4 x5 h hn hs
    refine jj_iload (i := 5) (by decide +kernel) rfl ?_
    refine jj_iload (i := 4) (by decide +kernel) rfl ?_
    refine jj_icmp_ge (off := 36) (tgt := 82) (by decide +kernel) (by decide) (fun c1 => ?_) (fun c1 => ?_)
    · skip
      refine jj_iconst (n := 1) (v := 1) (by decide +kernel) (by decide) ?_
      exact jj_iret .boolean (by decide +kernel) rfl rfl ⟨Or.inr (Or.inl ⟨rfl, Or.inr rfl⟩), hs⟩
    · skip
      have hdec := up_lt (Int32.not_le.mp c1) hn
      refine jj_aload_n (j := 0) (by decide +kernel) rfl ?_
      obtain ⟨mi, hg⟩ := hs.sp
      refine jj_getfield 0 ck_SP fl_SP_14 (by decide) (by decide +kernel) hg rfl ?_
      refine jj_iload_n (j := 3) (by decide +kernel) rfl ?_
      refine jj_iload (i := 5) (by decide +kernel) rfl ?_
      refine jj_iadd (by decide +kernel) ?_
      refine sy_ci (s_row_at (d := d - 1) (t := 1) hG hs (by decide) (sy_p (by decide))) (fun o1 h1 hC => jj_callV ok_IR_at ml_SP_62 im_IR_at se_IR_IR_at (by decide +kernel) (hs.rcR (t := 1) (by decide) (sy_p (by decide))) rfl (by omega) (Nat.le_of_ble_eq_true rfl) hC) (by decide) rfl (fun q => by cases q) (fun v2 h _ hs => ?_)
      refine jj_aload_n (j := 0) (by decide +kernel) rfl ?_
      obtain ⟨mi, hg⟩ := hs.sp
      refine jj_getfield 0 ck_SP fl_SP_14 (by decide) (by decide +kernel) hg rfl ?_
      refine jj_iload_n (j := 2) (by decide +kernel) rfl ?_
      refine jj_iload (i := 5) (by decide +kernel) rfl ?_
      refine jj_iadd (by decide +kernel) ?_
      refine sy_ci (s_row_at (d := d - 1) (t := 1) hG hs (by decide) (sy_p (by decide))) (fun o1 h1 hC => jj_callV ok_IR_at ml_SP_62 im_IR_at se_IR_IR_at (by decide +kernel) (hs.rcR (t := 1) (by decide) (sy_p (by decide))) rfl (by omega) (Nat.le_of_ble_eq_true rfl) hC) (by decide) rfl (fun q => by cases q) (fun v3 h _ hs => ?_)
      refine jj_icmp_eq (off := 5) (tgt := 76) (by decide +kernel) (by decide) (fun c4 => ?_) (fun c4 => ?_)
      · skip
        refine jj_iinc (i := 5) (n := 1) (by decide +kernel) rfl rfl (by decide) rfl ?_
        refine jj_goto (off := (-37)) (tgt := 42) (by decide +kernel) (by decide) ?_
        exact jj_wk (js_s (js_s (js_s (js_s (js_s (js_s js_0)))))) (ih _ _ _ _ hdec hs)
      · skip
        refine jj_iconst (n := 0) (v := 0) (by decide +kernel) (by decide) ?_
        exact jj_iret .boolean (by decide +kernel) rfl rfl ⟨Or.inr (Or.inl ⟨rfl, Or.inl rfl⟩), hs⟩
set_option maxRecDepth 100000 in
set_option maxHeartbeats 4000000 in
theorem b_SP_isLast_0 {l : Launch} {G : jj_G} {X : sy_X} {K o N d : Nat} {x1 x2 : Int32} {h : jj_H} (hG : jj_tyG G) (hdd : 1 ≤ d) (hs : Sy G X K o N h) : jj_P l G y_SP_isLast d (sy_F 2 false G X K o N) 0 [some (.ref (X.2.2.1 10)), some (.int x1), some (.int x2), none, none, none] [] h := by
  refine jj_aload_n (j := 0) (by decide +kernel) rfl ?_
  obtain ⟨mi, hg⟩ := hs.sp
  refine jj_getfield 1 ck_SP fl_SP_20 (by decide) (by decide +kernel) hg rfl ?_
  refine jj_iload_n (j := 1) (by decide +kernel) rfl ?_
  refine sy_ci (s_row_at (d := d - 1) (t := 2) hG hs (by decide) (sy_p (by decide))) (fun o1 h1 hC => jj_callV ok_IR_at ml_SP_62 im_IR_at se_IR_IR_at (by decide +kernel) (hs.rcR (t := 2) (by decide) (sy_p (by decide))) rfl (by omega) (Nat.le_of_ble_eq_true rfl) hC) (by decide) rfl (fun q => by cases q) (fun v1 h _ hs => ?_)
  refine jj_istore_n (j := 3) (by decide +kernel) (by decide) rfl ?_
  refine jj_aload_n (j := 0) (by decide +kernel) rfl ?_
  obtain ⟨mi, hg⟩ := hs.sp
  refine jj_getfield 0 ck_SP fl_SP_14 (by decide) (by decide +kernel) hg rfl ?_
  refine sy_ci (s_row_size (d := d - 1) (t := 1) hs (by decide) (sy_p (by decide))) (fun o1 h1 hC => jj_callV ok_IR_size ml_SP_58 im_IR_size se_IR_IR_size (by decide +kernel) (hs.rcR (t := 1) (by decide) (sy_p (by decide))) rfl (by omega) (Nat.le_of_ble_eq_true rfl) hC) (by decide) rfl (fun q => by cases q) (fun v2 h hv2 hs => ?_)
  refine jj_iload_n (j := 2) (by decide +kernel) rfl ?_
  refine jj_isub (by decide +kernel) ?_
  refine jj_istore (i := 4) (by decide +kernel) (by decide) rfl ?_
  refine jj_aload_n (j := 0) (by decide +kernel) rfl ?_
  obtain ⟨mi, hg⟩ := hs.sp
  refine jj_getfield 1 ck_SP fl_SP_20 (by decide) (by decide +kernel) hg rfl ?_
  refine jj_iload_n (j := 1) (by decide +kernel) rfl ?_
  refine jj_iconst (n := 1) (v := 1) (by decide +kernel) (by decide) ?_
  refine jj_iadd (by decide +kernel) ?_
  refine sy_ci (s_row_at (d := d - 1) (t := 2) hG hs (by decide) (sy_p (by decide))) (fun o1 h1 hC => jj_callV ok_IR_at ml_SP_62 im_IR_at se_IR_IR_at (by decide +kernel) (hs.rcR (t := 2) (by decide) (sy_p (by decide))) rfl (by omega) (Nat.le_of_ble_eq_true rfl) hC) (by decide) rfl (fun q => by cases q) (fun v3 h _ hs => ?_)
  refine jj_iload_n (j := 3) (by decide +kernel) rfl ?_
  refine jj_isub (by decide +kernel) ?_
  refine jj_iload (i := 4) (by decide +kernel) rfl ?_
  refine jj_icmp_eq (off := 5) (tgt := 39) (by decide +kernel) (by decide) (fun c4 => ?_) (fun c4 => ?_)
  · skip
    refine jj_iconst (n := 0) (v := 0) (by decide +kernel) (by decide) ?_
    refine jj_istore (i := 5) (by decide +kernel) (by decide) rfl ?_
    exact jj_wk (js_s (js_s (js_s (js_s (js_s (js_s js_0)))))) (b_SP_isLast_42 hG hdd _ _ _ _ _ (Nat.lt_succ_self _) hs)
  · skip
    refine jj_iconst (n := 0) (v := 0) (by decide +kernel) (by decide) ?_
    exact jj_iret .boolean (by decide +kernel) rfl rfl ⟨Or.inr (Or.inl ⟨rfl, Or.inl rfl⟩), hs⟩
theorem s_SP_isLast {l : Launch} {G : jj_G} {X : sy_X} {K o N d : Nat} {x1 x2 : Int32} {h : jj_H} (hG : jj_tyG G) (hdd : 1 ≤ d) (hs : Sy G X K o N h) : jj_Q l G y_SP_isLast d [.ref (X.2.2.1 10), .int x1, .int x2] h (sy_F 2 false G X K o N) :=
  jj_Q.of (by decide +kernel) (Nat.le_of_ble_eq_true rfl) (b_SP_isLast_0 hG hdd hs)
set_option maxRecDepth 100000 in
set_option maxHeartbeats 4000000 in
theorem b_SP_settle_86 {l : Launch} {G : jj_G} {X : sy_X} {K o N d : Nat} {h : jj_H} {x1 x2 x3 x4 : Int32} (hG : jj_tyG G) (hdd : 6 ≤ d) (hs : Sy G X K o N h) : jj_P l G y_SP_settle d (sy_F 1 false G X K o N) 86 [some (.ref (X.2.2.1 10)), some (.int x1), some (.int x2), some (.int x3), some (.int x4)] [] h := by
  refine jj_aload_n (j := 0) (by decide +kernel) rfl ?_
  obtain ⟨mi, hg⟩ := hs.sp
  refine jj_getfield 1 ck_SP fl_SP_20 (by decide) (by decide +kernel) hg rfl ?_
  refine jj_aload_n (j := 0) (by decide +kernel) rfl ?_
  obtain ⟨mi, hg⟩ := hs.sp
  refine jj_getfield 0 ck_SP fl_SP_14 (by decide) (by decide +kernel) hg rfl ?_
  refine sy_ci (s_row_size (d := d - 1) (t := 1) hs (by decide) (sy_p (by decide))) (fun o1 h1 hC => jj_callV ok_IR_size ml_SP_58 im_IR_size se_IR_IR_size (by decide +kernel) (hs.rcR (t := 1) (by decide) (sy_p (by decide))) rfl (by omega) (Nat.le_of_ble_eq_true rfl) hC) (by decide) rfl (fun q => by cases q) (fun v1 h hv1 hs => ?_)
  refine sy_cv (s_row_add (d := d - 1) (t := 2) hG hs (by decide) (sy_p (by decide)) (by decide) (by omega)) (fun o1 h1 hC => jj_callV ok_IR_add ml_SP_29 im_IR_add se_IR_IR_add (by decide +kernel) (hs.rcR (t := 2) (by decide) (sy_p (by decide))) rfl (by omega) (Nat.le_of_ble_eq_true rfl) hC) rfl (fun q => by cases q) (fun h hs => ?_)
  refine jj_aload_n (j := 0) (by decide +kernel) rfl ?_
  obtain ⟨mi, hg⟩ := hs.sp
  refine jj_getfield 3 ck_SP fl_SP_23 (by decide) (by decide +kernel) hg rfl ?_
  refine jj_aload_n (j := 0) (by decide +kernel) rfl ?_
  obtain ⟨mi, hg⟩ := hs.sp
  refine jj_getfield 2 ck_SP fl_SP_26 (by decide) (by decide +kernel) hg rfl ?_
  refine jj_iload_n (j := 1) (by decide +kernel) rfl ?_
  refine sy_ci (s_row_at (d := d - 1) (t := 3) hG hs (by decide) (sy_p (by decide))) (fun o1 h1 hC => jj_callV ok_IR_at ml_SP_62 im_IR_at se_IR_IR_at (by decide +kernel) (hs.rcR (t := 3) (by decide) (sy_p (by decide))) rfl (by omega) (Nat.le_of_ble_eq_true rfl) hC) (by decide) rfl (fun q => by cases q) (fun v2 h _ hs => ?_)
  refine sy_cv (s_row_add (d := d - 1) (t := 4) hG hs (by decide) (sy_p (by decide)) (by decide) (by omega)) (fun o1 h1 hC => jj_callV ok_IR_add ml_SP_29 im_IR_add se_IR_IR_add (by decide +kernel) (hs.rcR (t := 4) (by decide) (sy_p (by decide))) rfl (by omega) (Nat.le_of_ble_eq_true rfl) hC) rfl (fun q => by cases q) (fun h hs => ?_)
  refine jj_aload_n (j := 0) (by decide +kernel) rfl ?_
  obtain ⟨mi, hg⟩ := hs.sp
  refine jj_getfield 2 ck_SP fl_SP_26 (by decide) (by decide +kernel) hg rfl ?_
  refine jj_iload_n (j := 1) (by decide +kernel) rfl ?_
  refine jj_aload_n (j := 0) (by decide +kernel) rfl ?_
  refine sy_ci (s_SP_size (d := d - 1) hG (by omega) hs) (fun o1 h1 hC => jj_callV ok_SP_size ml_SP_66 im_SP_size se_SP_SP_size (by decide +kernel) hs.rcSP rfl (by omega) (Nat.le_of_ble_eq_true rfl) hC) (by decide) rfl (fun q => by cases q) (fun v3 h hv3 hs => ?_)
  refine jj_iconst (n := 1) (v := 1) (by decide +kernel) (by decide) ?_
  refine jj_isub (by decide +kernel) ?_
  refine sy_cv (s_row_put (d := d - 1) (t := 3) hG hs (by decide) (sy_p (by decide))) (fun o1 h1 hC => jj_callV ok_IR_put ml_SP_42 im_IR_put se_IR_IR_put (by decide +kernel) (hs.rcR (t := 3) (by decide) (sy_p (by decide))) rfl (by omega) (Nat.le_of_ble_eq_true rfl) hC) rfl (fun q => by cases q) (fun h hs => ?_)
  refine jj_aload_n (j := 0) (by decide +kernel) rfl ?_
  refine sy_ci (s_SP_size (d := d - 1) hG (by omega) hs) (fun o1 h1 hC => jj_callV ok_SP_size ml_SP_66 im_SP_size se_SP_SP_size (by decide +kernel) hs.rcSP rfl (by omega) (Nat.le_of_ble_eq_true rfl) hC) (by decide) rfl (fun q => by cases q) (fun v4 h hv4 hs => ?_)
  refine jj_iconst (n := 1) (v := 1) (by decide +kernel) (by decide) ?_
  refine jj_isub (by decide +kernel) ?_
  exact jj_iret .int (by decide +kernel) rfl rfl ⟨Or.inl rfl, hs⟩
set_option maxRecDepth 100000 in
set_option maxHeartbeats 4000000 in
theorem b_SP_settle_38 {l : Launch} {G : jj_G} {X : sy_X} {K o N d : Nat} (hG : jj_tyG G) (hdd : 6 ≤ d) : ∀ (n : Nat) (x1 : Int32) (x2 : Int32) (x3 : Int32) (x4 : Int32) (h : jj_H), (2147483647 - x4.toInt).toNat < n → Sy G X K o N h → jj_P l G y_SP_settle d (sy_F 1 false G X K o N) 38 [some (.ref (X.2.2.1 10)), some (.int x1), some (.int x2), some (.int x3), some (.int x4)] [] h := by
  intro n
  induction n with
  | zero => intro x1 x2 x3 x4 h hn; exact absurd hn (Nat.not_lt_zero _)
  | succ n ih =>
    intro x1 x2 x3 x4 h hn hs
    refine jj_iload (i := 4) (by decide +kernel) rfl ?_
    refine jj_aload_n (j := 0) (by decide +kernel) rfl ?_
    refine sy_ci (s_SP_size (d := d - 1) hG (by omega) hs) (fun o1 h1 hC => jj_callV ok_SP_size ml_SP_66 im_SP_size se_SP_SP_size (by decide +kernel) hs.rcSP rfl (by omega) (Nat.le_of_ble_eq_true rfl) hC) (by decide) rfl (fun q => by cases q) (fun v1 h hv1 hs => ?_)
    refine jj_icmp_ge (off := 42) (tgt := 86) (by decide +kernel) (by decide) (fun c2 => ?_) (fun c2 => ?_)
    · skip
      exact jj_wk (js_s (js_s (js_s (js_s (js_s js_0))))) (b_SP_settle_86 hG hdd hs)
    · skip
      have hdec := up_lt (Int32.not_le.mp c2) hn
      refine jj_iload_n (j := 3) (by decide +kernel) rfl ?_
      refine jj_iconst (n := (-1)) (v := (-1)) (by decide +kernel) (by decide) ?_
      refine jj_icmp_eq (off := 37) (tgt := 86) (by decide +kernel) (by decide) (fun c3 => ?_) (fun c3 => ?_)
      · skip
        exact jj_wk (js_s (js_s (js_s (js_s (js_s js_0))))) (b_SP_settle_86 hG hdd hs)
      · skip
        refine jj_aload_n (j := 0) (by decide +kernel) rfl ?_
        refine jj_iload_n (j := 3) (by decide +kernel) rfl ?_
        refine jj_iload_n (j := 2) (by decide +kernel) rfl ?_
        refine sy_ci (s_SP_isLast (d := d - 1) hG (by omega) hs) (fun o1 h1 hC => jj_callV ok_SP_isLast ml_SP_67 im_SP_isLast se_SP_SP_isLast (by decide +kernel) hs.rcSP rfl (by omega) (Nat.le_of_ble_eq_true rfl) hC) (by decide) rfl (fun q => by cases q) (fun v4 h _ hs => ?_)
        refine jj_if_eq (off := 13) (tgt := 71) (by decide +kernel) (by decide) (fun c5 => ?_) (fun c5 => ?_)
        · skip
          refine jj_aload_n (j := 0) (by decide +kernel) rfl ?_
          obtain ⟨mi, hg⟩ := hs.sp
          refine jj_getfield 3 ck_SP fl_SP_23 (by decide) (by decide +kernel) hg rfl ?_
          refine jj_iload_n (j := 3) (by decide +kernel) rfl ?_
          refine sy_ci (s_row_at (d := d - 1) (t := 4) hG hs (by decide) (sy_p (by decide))) (fun o1 h1 hC => jj_callV ok_IR_at ml_SP_62 im_IR_at se_IR_IR_at (by decide +kernel) (hs.rcR (t := 4) (by decide) (sy_p (by decide))) rfl (by omega) (Nat.le_of_ble_eq_true rfl) hC) (by decide) rfl (fun q => by cases q) (fun v6 h _ hs => ?_)
          refine jj_istore_n (j := 3) (by decide +kernel) (by decide) rfl ?_
          refine jj_iinc (i := 4) (n := 1) (by decide +kernel) rfl rfl (by decide) rfl ?_
          refine jj_goto (off := (-45)) (tgt := 38) (by decide +kernel) (by decide) ?_
          exact jj_wk (js_s (js_s (js_s (js_s (js_s js_0))))) (ih _ _ _ _ _ hdec hs)
        · skip
          refine jj_aload_n (j := 0) (by decide +kernel) rfl ?_
          obtain ⟨mi, hg⟩ := hs.sp
          refine jj_getfield 0 ck_SP fl_SP_14 (by decide) (by decide +kernel) hg rfl ?_
          refine jj_iload_n (j := 2) (by decide +kernel) rfl ?_
          refine sy_cv (s_row_cut (d := d - 1) (t := 1) hs (by decide) (sy_p (by decide)) (by decide)) (fun o1 h1 hC => jj_callV ok_IR_cutTo ml_SP_35 im_IR_cutTo se_IR_IR_cutTo (by decide +kernel) (hs.rcR (t := 1) (by decide) (sy_p (by decide))) rfl (by omega) (Nat.le_of_ble_eq_true rfl) hC) rfl (fun q => by cases q) (fun h hs => ?_)
          refine jj_iload_n (j := 3) (by decide +kernel) rfl ?_
          exact jj_iret .int (by decide +kernel) rfl rfl ⟨Or.inl rfl, hs⟩
set_option maxRecDepth 100000 in
set_option maxHeartbeats 4000000 in
theorem b_SP_settle_0 {l : Launch} {G : jj_G} {X : sy_X} {K o N d : Nat} {h : jj_H} (hG : jj_tyG G) (hdd : 6 ≤ d) (hs : Sy G X K o N h) : jj_P l G y_SP_settle d (sy_F 1 false G X K o N) 0 [some (.ref (X.2.2.1 10)), none, none, none, none] [] h := by
  refine jj_aload_n (j := 0) (by decide +kernel) rfl ?_
  obtain ⟨mi, hg⟩ := hs.sp
  refine jj_getfield 4 ck_SP fl_SP_38 (by decide) (by decide +kernel) hg rfl ?_
  refine jj_sipush (n := 511) (v := 511) (by decide +kernel) (by decide) ?_
  refine jj_iand (by decide +kernel) ?_
  refine jj_istore_n (j := 1) (by decide +kernel) (by decide) rfl ?_
  refine jj_aload_n (j := 0) (by decide +kernel) rfl ?_
  refine jj_iconst (n := 0) (v := 0) (by decide +kernel) (by decide) ?_
  refine sy_putSP hs fl_SP_38 (by decide +kernel) (fun h hs => ?_)
  refine jj_aload_n (j := 0) (by decide +kernel) rfl ?_
  obtain ⟨mi, hg⟩ := hs.sp
  refine jj_getfield 1 ck_SP fl_SP_20 (by decide) (by decide +kernel) hg rfl ?_
  refine jj_aload_n (j := 0) (by decide +kernel) rfl ?_
  refine sy_ci (s_SP_size (d := d - 1) hG (by omega) hs) (fun o1 h1 hC => jj_callV ok_SP_size ml_SP_66 im_SP_size se_SP_SP_size (by decide +kernel) hs.rcSP rfl (by omega) (Nat.le_of_ble_eq_true rfl) hC) (by decide) rfl (fun q => by cases q) (fun v1 h hv1 hs => ?_)
  refine sy_ci (s_row_at (d := d - 1) (t := 2) hG hs (by decide) (sy_p (by decide))) (fun o1 h1 hC => jj_callV ok_IR_at ml_SP_62 im_IR_at se_IR_IR_at (by decide +kernel) (hs.rcR (t := 2) (by decide) (sy_p (by decide))) rfl (by omega) (Nat.le_of_ble_eq_true rfl) hC) (by decide) rfl (fun q => by cases q) (fun v2 h _ hs => ?_)
  refine jj_istore_n (j := 2) (by decide +kernel) (by decide) rfl ?_
  refine jj_aload_n (j := 0) (by decide +kernel) rfl ?_
  obtain ⟨mi, hg⟩ := hs.sp
  refine jj_getfield 2 ck_SP fl_SP_26 (by decide) (by decide +kernel) hg rfl ?_
  refine jj_iload_n (j := 1) (by decide +kernel) rfl ?_
  refine sy_ci (s_row_at (d := d - 1) (t := 3) hG hs (by decide) (sy_p (by decide))) (fun o1 h1 hC => jj_callV ok_IR_at ml_SP_62 im_IR_at se_IR_IR_at (by decide +kernel) (hs.rcR (t := 3) (by decide) (sy_p (by decide))) rfl (by omega) (Nat.le_of_ble_eq_true rfl) hC) (by decide) rfl (fun q => by cases q) (fun v3 h _ hs => ?_)
  refine jj_istore_n (j := 3) (by decide +kernel) (by decide) rfl ?_
  refine jj_iconst (n := 0) (v := 0) (by decide +kernel) (by decide) ?_
  refine jj_istore (i := 4) (by decide +kernel) (by decide) rfl ?_
  exact jj_wk (js_s (js_s (js_s (js_s (js_s js_0))))) (b_SP_settle_38 hG hdd _ _ _ _ _ _ (Nat.lt_succ_self _) hs)
theorem s_SP_settle {l : Launch} {G : jj_G} {X : sy_X} {K o N d : Nat} {h : jj_H} (hG : jj_tyG G) (hdd : 6 ≤ d) (hs : Sy G X K o N h) : jj_Q l G y_SP_settle d [.ref (X.2.2.1 10)] h (sy_F 1 false G X K o N) :=
  jj_Q.of (by decide +kernel) (Nat.le_of_ble_eq_true rfl) (b_SP_settle_0 hG hdd hs)
set_option maxRecDepth 100000 in
set_option maxHeartbeats 4000000 in
theorem b_SP_addAll_2 {l : Launch} {G : jj_G} {X : sy_X} {K o N d i : Nat} (hG : jj_tyG G) (hi : i < jj_nS) (hdd : 8 ≤ d) : ∀ (n j : Nat) (h : jj_H), jj_lS.getD i 0 - j < n → j ≤ jj_lS.getD i 0 → Sy G X K o N h → jj_P l G y_SP_addAll d (sy_F 0 false G X K o N) 2 [some (.ref (X.2.2.1 10)), some (.ref (G.2.2.2.1 i)), some (.int (nI j)), none] [] h := by
  have hlen := lS_small i hi
  intro n
  induction n with
  | zero => intro j h hn; exact absurd hn (Nat.not_lt_zero _)
  | succ n ih =>
    intro j h hn hjl hs
    refine jj_iload_n (j := 2) (by decide +kernel) rfl ?_
    refine jj_aload_n (j := 1) (by decide +kernel) rfl ?_
    refine jj_callr (c_JS_length (d := d - 1) hi (by omega)) (fun o1 h1 hC => jj_callV ok_JS_length ml_SP_71 im_JS_length se_JS_JS_length (by decide +kernel) (jj_rcv.str hi) rfl (by omega) (Nat.le_of_ble_eq_true rfl) hC) (by rintro E h1 ⟨q, -⟩; cases q) ?_
    rintro v h1 ⟨hv, rfl⟩
    cases hv
    by_cases hj : j < jj_lS.getD i 0
    · refine jj_icmp_ge (off := 34) (tgt := 41) (by decide +kernel) (by decide) (fun c1 => ?_) (fun c1 => ?_)
      · exact absurd c1 (nI_ge hj (by omega))
      · refine jj_aload_n (j := 1) (by decide +kernel) rfl ?_
        refine jj_iload_n (j := 2) (by decide +kernel) rfl ?_
        refine jj_callr (c_JS_charAt (d := d - 1) hi hj (by omega)) (fun o1 h1 hC => jj_callV ok_JS_charAt ml_SP_76 im_JS_charAt se_JS_JS_charAt (by decide +kernel) (jj_rcv.str hi) rfl (by omega) (Nat.le_of_ble_eq_true rfl) hC) (by rintro E h1 ⟨v, q, -⟩; cases q) ?_
        rintro v h1 ⟨v9, hv, rfl⟩
        cases hv
        refine jj_istore_n (j := 3) (by decide +kernel) (by decide) rfl ?_
        refine jj_iload_n (j := 3) (by decide +kernel) rfl ?_
        refine jj_bipush (n := 32) (v := 32) (by decide +kernel) (by decide) ?_
        refine jj_icmp_ne (off := 11) (tgt := 30) (by decide +kernel) (by decide) (fun c2 => ?_) (fun c2 => ?_)
        · refine jj_aload_n (j := 0) (by decide +kernel) rfl ?_
          refine jj_iload_n (j := 3) (by decide +kernel) rfl ?_
          refine sy_cv (s_SP_addLetter (d := d - 1) hG (by omega) hs) (fun o1 h1 hC => jj_callV ok_SP_addLetter ml_SP_83 im_SP_addLetter se_SP_SP_addLetter (by decide +kernel) hs.rcSP rfl (by omega) (Nat.le_of_ble_eq_true rfl) hC) rfl (fun q => by cases q) (fun h hs => ?_)
          refine jj_iinc (i := 2) (n := 1) (v := nI (j + 1)) (by decide +kernel) rfl (by rw [show Int32.ofInt 1 = 1 from rfl]; exact nI_1 j) (by decide) rfl ?_
          refine jj_goto (off := (-36)) (tgt := 2) (by decide +kernel) (by decide) ?_
          exact jj_wk (js_s (js_s (js_s (js_n js_0)))) (ih (j + 1) _ (by omega) (by omega) hs)
        · refine jj_aload_n (j := 0) (by decide +kernel) rfl ?_
          refine sy_ci (s_SP_settle (d := d - 1) hG (by omega) hs) (fun o1 h1 hC => jj_callV ok_SP_settle ml_SP_80 im_SP_settle se_SP_SP_settle (by decide +kernel) hs.rcSP rfl (by omega) (Nat.le_of_ble_eq_true rfl) hC) (by decide) rfl (fun q => by cases q) (fun v7 h _ hs => ?_)
          refine jj_pop (by decide +kernel) rfl ?_
          refine jj_goto (off := 8) (tgt := 35) (by decide +kernel) (by decide) ?_
          refine jj_iinc (i := 2) (n := 1) (v := nI (j + 1)) (by decide +kernel) rfl (by rw [show Int32.ofInt 1 = 1 from rfl]; exact nI_1 j) (by decide) rfl ?_
          refine jj_goto (off := (-36)) (tgt := 2) (by decide +kernel) (by decide) ?_
          exact jj_wk (js_s (js_s (js_s (js_n js_0)))) (ih (j + 1) _ (by omega) (by omega) hs)
    · refine jj_icmp_ge (off := 34) (tgt := 41) (by decide +kernel) (by decide) (fun c1 => ?_) (fun c1 => ?_)
      · exact jj_vret (by decide +kernel) rfl ⟨rfl, hs⟩
      · exact absurd (show nI (jj_lS.getD i 0) ≤ nI j from nI_le (by omega) (by omega)) c1
theorem s_SP_addAll {l : Launch} {G : jj_G} {X : sy_X} {K o N d i : Nat} {h : jj_H} (hG : jj_tyG G) (hi : i < jj_nS) (hdd : 8 ≤ d) (hs : Sy G X K o N h) : jj_Q l G y_SP_addAll d [.ref (X.2.2.1 10), .ref (G.2.2.2.1 i)] h (sy_F 0 false G X K o N) := by
  refine jj_Q.of (by decide +kernel) (Nat.le_of_ble_eq_true rfl) ?_
  refine jj_iconst (n := 0) (v := 0) (by decide +kernel) (by decide) ?_
  refine jj_istore_n (j := 2) (by decide +kernel) (by decide) rfl ?_
  exact jj_wk (js_s (js_s (js_s (js_n js_0)))) (b_SP_addAll_2 hG hi hdd _ 0 _ (Nat.lt_succ_self _) (Nat.zero_le _) hs)
set_option maxRecDepth 100000 in
set_option maxHeartbeats 4000000 in
theorem b_SP_reset_39 {l : Launch} {G : jj_G} {X : sy_X} {K o N d : Nat} (hG : jj_tyG G) (hdd : 9 ≤ d) : ∀ (n : Nat) (x1 : Int32) (h : jj_H), (2147483647 - x1.toInt).toNat < n → Sy G X K o N h → jj_P l G y_SP_reset d (sy_F 0 false G X K o N) 39 [some (.ref (X.2.2.1 10)), some (.int x1)] [] h := by
  intro n
  induction n with
  | zero => intro x1 h hn; exact absurd hn (Nat.not_lt_zero _)
  | succ n ih =>
    intro x1 h hn hs
    refine jj_iload_n (j := 1) (by decide +kernel) rfl ?_
    refine jj_sipush (n := 512) (v := 512) (by decide +kernel) (by decide) ?_
    refine jj_icmp_ge (off := 18) (tgt := 61) (by decide +kernel) (by decide) (fun c1 => ?_) (fun c1 => ?_)
    · skip
      refine jj_aload_n (j := 0) (by decide +kernel) rfl ?_
      refine jj_ldcS (index := 46) (i := 0) (tx := "abs after and assert begin body case constant downto else elsif end exit for generate generic ") (by decide +kernel) (List.mem_of_getElem? (i := 0) rfl) ?_
      refine sy_cv (s_SP_addAll (d := d - 1) (i := 0) hG (by decide) (by omega) hs) (fun o1 h1 hC => jj_callV ok_SP_addAll ml_SP_48 im_SP_addAll se_SP_SP_addAll (by decide +kernel) hs.rcSP rfl (by omega) (Nat.le_of_ble_eq_true rfl) hC) rfl (fun q => by cases q) (fun h hs => ?_)
      refine jj_aload_n (j := 0) (by decide +kernel) rfl ?_
      refine jj_ldcS (index := 52) (i := 1) (tx := "if in inertial inout is loop map mod nand next nor not null of on open or others out port process ") (by decide +kernel) (List.mem_of_getElem? (i := 1) rfl) ?_
      refine sy_cv (s_SP_addAll (d := d - 1) (i := 1) hG (by decide) (by omega) hs) (fun o1 h1 hC => jj_callV ok_SP_addAll ml_SP_48 im_SP_addAll se_SP_SP_addAll (by decide +kernel) hs.rcSP rfl (by omega) (Nat.le_of_ble_eq_true rfl) hC) rfl (fun q => by cases q) (fun h hs => ?_)
      refine jj_aload_n (j := 0) (by decide +kernel) rfl ?_
      refine jj_ldcS (index := 54) (i := 2) (tx := "range reject rem report signal sll srl subtype then to transport type unit until variable wait when while xnor xor ") (by decide +kernel) (List.mem_of_getElem? (i := 2) rfl) ?_
      refine sy_cv (s_SP_addAll (d := d - 1) (i := 2) hG (by decide) (by omega) hs) (fun o1 h1 hC => jj_callV ok_SP_addAll ml_SP_48 im_SP_addAll se_SP_SP_addAll (by decide +kernel) hs.rcSP rfl (by omega) (Nat.le_of_ble_eq_true rfl) hC) rfl (fun q => by cases q) (fun h hs => ?_)
      refine jj_aload_n (j := 0) (by decide +kernel) rfl ?_
      refine jj_ldcS (index := 56) (i := 3) (tx := "integer natural positive boolean logic row true false rising falling number bits ps ns us event active last length left right high low ") (by decide +kernel) (List.mem_of_getElem? (i := 3) rfl) ?_
      refine sy_cv (s_SP_addAll (d := d - 1) (i := 3) hG (by decide) (by omega) hs) (fun o1 h1 hC => jj_callV ok_SP_addAll ml_SP_48 im_SP_addAll se_SP_SP_addAll (by decide +kernel) hs.rcSP rfl (by omega) (Nat.le_of_ble_eq_true rfl) hC) rfl (fun q => by cases q) (fun h hs => ?_)
      exact jj_vret (by decide +kernel) rfl ⟨rfl, hs⟩
    · skip
      have hdec := up_lt (Int32.not_le.mp c1) hn
      refine jj_aload_n (j := 0) (by decide +kernel) rfl ?_
      obtain ⟨mi, hg⟩ := hs.sp
      refine jj_getfield 2 ck_SP fl_SP_26 (by decide) (by decide +kernel) hg rfl ?_
      refine jj_iload_n (j := 1) (by decide +kernel) rfl ?_
      refine jj_iconst (n := (-1)) (v := (-1)) (by decide +kernel) (by decide) ?_
      refine sy_cv (s_row_put (d := d - 1) (t := 3) hG hs (by decide) (sy_p (by decide))) (fun o1 h1 hC => jj_callV ok_IR_put ml_SP_42 im_IR_put se_IR_IR_put (by decide +kernel) (hs.rcR (t := 3) (by decide) (sy_p (by decide))) rfl (by omega) (Nat.le_of_ble_eq_true rfl) hC) rfl (fun q => by cases q) (fun h hs => ?_)
      refine jj_iinc (i := 1) (n := 1) (by decide +kernel) rfl rfl (by decide) rfl ?_
      refine jj_goto (off := (-19)) (tgt := 39) (by decide +kernel) (by decide) ?_
      exact jj_wk (js_s (js_s js_0)) (ih _ _ hdec hs)
set_option maxRecDepth 100000 in
set_option maxHeartbeats 4000000 in
theorem b_SP_reset_0 {l : Launch} {G : jj_G} {X : sy_X} {K o N d : Nat} {h : jj_H} (hG : jj_tyG G) (hdd : 9 ≤ d) (hs : Sy G X K o N h) : jj_P l G y_SP_reset d (sy_F 0 false G X K o N) 0 [some (.ref (X.2.2.1 10)), none] [] h := by
  refine jj_aload_n (j := 0) (by decide +kernel) rfl ?_
  obtain ⟨mi, hg⟩ := hs.sp
  refine jj_getfield 0 ck_SP fl_SP_14 (by decide) (by decide +kernel) hg rfl ?_
  refine jj_iconst (n := 0) (v := 0) (by decide +kernel) (by decide) ?_
  refine sy_cv (s_row_cut (d := d - 1) (t := 1) hs (by decide) (sy_p (by decide)) (by decide)) (fun o1 h1 hC => jj_callV ok_IR_cutTo ml_SP_35 im_IR_cutTo se_IR_IR_cutTo (by decide +kernel) (hs.rcR (t := 1) (by decide) (sy_p (by decide))) rfl (by omega) (Nat.le_of_ble_eq_true rfl) hC) rfl (fun q => by cases q) (fun h hs => ?_)
  refine jj_aload_n (j := 0) (by decide +kernel) rfl ?_
  obtain ⟨mi, hg⟩ := hs.sp
  refine jj_getfield 3 ck_SP fl_SP_23 (by decide) (by decide +kernel) hg rfl ?_
  refine jj_iconst (n := 0) (v := 0) (by decide +kernel) (by decide) ?_
  refine sy_cv (s_row_cut (d := d - 1) (t := 4) hs (by decide) (sy_p (by decide)) (by decide)) (fun o1 h1 hC => jj_callV ok_IR_cutTo ml_SP_35 im_IR_cutTo se_IR_IR_cutTo (by decide +kernel) (hs.rcR (t := 4) (by decide) (sy_p (by decide))) rfl (by omega) (Nat.le_of_ble_eq_true rfl) hC) rfl (fun q => by cases q) (fun h hs => ?_)
  refine jj_aload_n (j := 0) (by decide +kernel) rfl ?_
  obtain ⟨mi, hg⟩ := hs.sp
  refine jj_getfield 1 ck_SP fl_SP_20 (by decide) (by decide +kernel) hg rfl ?_
  refine jj_iconst (n := 0) (v := 0) (by decide +kernel) (by decide) ?_
  refine sy_cv (s_row_cut (d := d - 1) (t := 2) hs (by decide) (sy_p (by decide)) (by decide)) (fun o1 h1 hC => jj_callV ok_IR_cutTo ml_SP_35 im_IR_cutTo se_IR_IR_cutTo (by decide +kernel) (hs.rcR (t := 2) (by decide) (sy_p (by decide))) rfl (by omega) (Nat.le_of_ble_eq_true rfl) hC) rfl (fun q => by cases q) (fun h hs => ?_)
  refine jj_aload_n (j := 0) (by decide +kernel) rfl ?_
  obtain ⟨mi, hg⟩ := hs.sp
  refine jj_getfield 1 ck_SP fl_SP_20 (by decide) (by decide +kernel) hg rfl ?_
  refine jj_iconst (n := 0) (v := 0) (by decide +kernel) (by decide) ?_
  refine sy_cv (s_row_add (d := d - 1) (t := 2) hG hs (by decide) (sy_p (by decide)) (by decide) (by omega)) (fun o1 h1 hC => jj_callV ok_IR_add ml_SP_29 im_IR_add se_IR_IR_add (by decide +kernel) (hs.rcR (t := 2) (by decide) (sy_p (by decide))) rfl (by omega) (Nat.le_of_ble_eq_true rfl) hC) rfl (fun q => by cases q) (fun h hs => ?_)
  refine jj_aload_n (j := 0) (by decide +kernel) rfl ?_
  refine jj_iconst (n := 0) (v := 0) (by decide +kernel) (by decide) ?_
  refine sy_putSP hs fl_SP_38 (by decide +kernel) (fun h hs => ?_)
  refine jj_iconst (n := 0) (v := 0) (by decide +kernel) (by decide) ?_
  refine jj_istore_n (j := 1) (by decide +kernel) (by decide) rfl ?_
  exact jj_wk (js_s (js_s js_0)) (b_SP_reset_39 hG hdd _ _ _ (Nat.lt_succ_self _) hs)
theorem s_SP_reset {l : Launch} {G : jj_G} {X : sy_X} {K o N d : Nat} {h : jj_H} (hG : jj_tyG G) (hdd : 9 ≤ d) (hs : Sy G X K o N h) : jj_Q l G y_SP_reset d [.ref (X.2.2.1 10)] h (sy_F 0 false G X K o N) :=
  jj_Q.of (by decide +kernel) (Nat.le_of_ble_eq_true rfl) (b_SP_reset_0 hG hdd hs)
end
section
set_option maxRecDepth 100000 in
set_option maxHeartbeats 4000000 in
theorem b_ST_signOf_0 {l : Launch} {G : jj_G} {X : sy_X} {K o N d : Nat} {x0 : Int32} {h : jj_H} (hG : sy_G G X) (hdd : 8 ≤ d) (hs : Sy G X K o N h) : jj_P l G y_ST_signOf d (sy_F 1 false G X K o N) 0 [some (.int x0)] [] h := by
  refine jj_iload_n (j := 0) (by decide +kernel) rfl ?_
  refine jj_if_ge (off := 7) (tgt := 8) (by decide +kernel) (by decide) (fun c1 => ?_) (fun c1 => ?_)
  · skip
    refine jj_ldcS (index := 114) (i := 4) (tx := "ux01zwlh-") (by decide +kernel) (List.mem_of_getElem? (i := 4) rfl) ?_
    refine jj_iload_n (j := 0) (by decide +kernel) rfl ?_
    refine sy_ci (sy_pure (thr := false) hs (c_ST_small (d := d - 1))) (fun o1 h1 hC => jj_callS ok_ST_small ml_ST_116 st_ST_small (by decide +kernel) rfl (by omega) (Nat.le_of_ble_eq_true rfl) hC) (by decide) rfl (fun q => by cases q) (fun v2 h _ hs => ?_)
    refine jj_i2c (by decide +kernel) ?_
    refine sy_ci (s_JS_indexOf (d := d - 1) (i := 4) hG.1 (by decide) (by omega) hs) (fun o1 h1 hC => jj_callV ok_JS_indexOf ml_ST_119 im_JS_indexOf se_JS_JS_indexOf (by decide +kernel) (jj_rcv.str (by decide)) rfl (by omega) (Nat.le_of_ble_eq_true rfl) hC) (by decide) rfl (fun q => by cases q) (fun v3 h _ hs => ?_)
    exact jj_iret .int (by decide +kernel) rfl rfl ⟨Or.inl rfl, hs⟩
  · skip
    refine jj_iconst (n := (-1)) (v := (-1)) (by decide +kernel) (by decide) ?_
    refine jj_goto (off := 13) (tgt := 18) (by decide +kernel) (by decide) ?_
    exact jj_iret .int (by decide +kernel) rfl rfl ⟨Or.inl rfl, hs⟩
theorem s_ST_signOf {l : Launch} {G : jj_G} {X : sy_X} {K o N d : Nat} {x0 : Int32} {h : jj_H} (hG : sy_G G X) (hdd : 8 ≤ d) (hs : Sy G X K o N h) : jj_Q l G y_ST_signOf d [.int x0] h (sy_F 1 false G X K o N) :=
  jj_Q.of (by decide +kernel) (Nat.le_of_ble_eq_true rfl) (b_ST_signOf_0 hG hdd hs)
set_option maxRecDepth 100000 in
set_option maxHeartbeats 4000000 in
theorem b_SC_endWith_0 {l : Launch} {G : jj_G} {X : sy_X} {K o N d : Nat} {x1 x2 : Int32} {h : jj_H} (hG : sy_G G X) (hdd : 6 ≤ d) (hs : Sy G X K o N h) : jj_P l G y_SC_endWith d (sy_F 1 false G X K o N) 0 [some (.ref (X.2.2.1 11)), some (.int x1), some (.int x2)] [] h := by
  refine jj_aload_n (j := 0) (by decide +kernel) rfl ?_
  obtain ⟨bn, hg⟩ := hs.sc hG.2
  refine jj_getfield 2 ck_SC fl_SC_19 (by decide) (by decide +kernel) hg rfl ?_
  refine jj_sipush (n := 145) (v := 145) (by decide +kernel) (by decide) ?_
  refine jj_iload_n (j := 1) (by decide +kernel) rfl ?_
  refine jj_iload_n (j := 2) (by decide +kernel) rfl ?_
  refine sy_cv (s_tab_add (d := d - 1) (t := 8) hG.1 hs (by decide) (by decide) (sy_o hG.2) (by omega)) (fun o1 h1 hC => jj_callV ok_TB_add ml_SC_53 im_TB_add se_TB_TB_add (by decide +kernel) (hs.rcT (t := 8) (by decide) (by decide) (sy_o hG.2)) rfl (by omega) (Nat.le_of_ble_eq_true rfl) hC) rfl (fun q => by cases q) (fun h hs => ?_)
  refine jj_iconst (n := (-1)) (v := (-1)) (by decide +kernel) (by decide) ?_
  exact jj_iret .int (by decide +kernel) rfl rfl ⟨Or.inl rfl, hs⟩
theorem s_SC_endWith {l : Launch} {G : jj_G} {X : sy_X} {K o N d : Nat} {x1 x2 : Int32} {h : jj_H} (hG : sy_G G X) (hdd : 6 ≤ d) (hs : Sy G X K o N h) : jj_Q l G y_SC_endWith d [.ref (X.2.2.1 11), .int x1, .int x2] h (sy_F 1 false G X K o N) :=
  jj_Q.of (by decide +kernel) (Nat.le_of_ble_eq_true rfl) (b_SC_endWith_0 hG hdd hs)
set_option maxRecDepth 100000 in
set_option maxHeartbeats 4000000 in
theorem b_SC_behindBlanks_64 {l : Launch} {G : jj_G} {X : sy_X} {K o N d : Nat} {x1 : Int32} {h : jj_H} {x2 x3 x4 : Int32} (hG : sy_G G X) (hdd : 1 ≤ d) {n : Nat} (ih : ∀ (x2 : Int32) (x3 : Int32) (h : jj_H), (2147483647 - x3.toInt).toNat < n → Sy G X K o N h → jj_P l G y_SC_behindBlanks d (sy_F 1 false G X K o N) 4 [some (.ref (X.2.2.1 11)), some (.int x1), some (.int x2), some (.int x3), none] [] h) (hdec : (2147483647 - (x3 + Int32.ofInt 1).toInt).toNat < n) (hs : Sy G X K o N h) : jj_P l G y_SC_behindBlanks d (sy_F 1 false G X K o N) 64 [some (.ref (X.2.2.1 11)), some (.int x1), some (.int x2), some (.int x3), some (.int x4)] [] h := by
  refine jj_iload_n (j := 2) (by decide +kernel) rfl ?_
  refine jj_if_ne (off := 19) (tgt := 84) (by decide +kernel) (by decide) (fun c1 => ?_) (fun c1 => ?_)
  · skip
    refine jj_iinc (i := 3) (n := 1) (by decide +kernel) rfl rfl (by decide) rfl ?_
    refine jj_goto (off := (-83)) (tgt := 4) (by decide +kernel) (by decide) ?_
    exact jj_wk (js_s (js_s (js_s (js_s (js_n js_0))))) (ih _ _ _ hdec hs)
  · skip
    refine jj_iload (i := 4) (by decide +kernel) rfl ?_
    refine jj_bipush (n := 32) (v := 32) (by decide +kernel) (by decide) ?_
    refine jj_icmp_eq (off := 12) (tgt := 84) (by decide +kernel) (by decide) (fun c2 => ?_) (fun c2 => ?_)
    · skip
      refine jj_iinc (i := 3) (n := 1) (by decide +kernel) rfl rfl (by decide) rfl ?_
      refine jj_goto (off := (-83)) (tgt := 4) (by decide +kernel) (by decide) ?_
      exact jj_wk (js_s (js_s (js_s (js_s (js_n js_0))))) (ih _ _ _ hdec hs)
    · skip
      refine jj_iload (i := 4) (by decide +kernel) rfl ?_
      refine jj_bipush (n := 9) (v := 9) (by decide +kernel) (by decide) ?_
      refine jj_icmp_eq (off := 5) (tgt := 84) (by decide +kernel) (by decide) (fun c3 => ?_) (fun c3 => ?_)
      · skip
        refine jj_iinc (i := 3) (n := 1) (by decide +kernel) rfl rfl (by decide) rfl ?_
        refine jj_goto (off := (-83)) (tgt := 4) (by decide +kernel) (by decide) ?_
        exact jj_wk (js_s (js_s (js_s (js_s (js_n js_0))))) (ih _ _ _ hdec hs)
      · skip
        refine jj_iload_n (j := 3) (by decide +kernel) rfl ?_
        exact jj_iret .int (by decide +kernel) rfl rfl ⟨Or.inl rfl, hs⟩
set_option maxRecDepth 100000 in
set_option maxHeartbeats 4000000 in
theorem b_SC_behindBlanks_4 {l : Launch} {G : jj_G} {X : sy_X} {K o N d : Nat} {x1 : Int32} (hG : sy_G G X) (hdd : 1 ≤ d) : ∀ (n : Nat) (x2 : Int32) (x3 : Int32) (h : jj_H), (2147483647 - x3.toInt).toNat < n → Sy G X K o N h → jj_P l G y_SC_behindBlanks d (sy_F 1 false G X K o N) 4 [some (.ref (X.2.2.1 11)), some (.int x1), some (.int x2), some (.int x3), none] [] h := by
  intro n
  induction n with
  | zero => intro x2 x3 h hn; exact absurd hn (Nat.not_lt_zero _)
  | succ n ih =>
    intro x2 x3 h hn hs
    refine jj_iload_n (j := 3) (by decide +kernel) rfl ?_
    refine jj_aload_n (j := 0) (by decide +kernel) rfl ?_
    obtain ⟨bn, hg⟩ := hs.sc hG.2
    refine jj_getfield 0 ck_SC fl_SC_9 (by decide) (by decide +kernel) hg rfl ?_
    refine sy_ci (s_row_size (d := d - 1) (t := 0) hs (by decide) (sy_o hG.2)) (fun o1 h1 hC => jj_callV ok_IR_size ml_SC_44 im_IR_size se_IR_IR_size (by decide +kernel) (hs.rcR (t := 0) (by decide) (sy_o hG.2)) rfl (by omega) (Nat.le_of_ble_eq_true rfl) hC) (by decide) rfl (fun q => by cases q) (fun v1 h hv1 hs => ?_)
    refine jj_icmp_ge (off := 78) (tgt := 90) (by decide +kernel) (by decide) (fun c2 => ?_) (fun c2 => ?_)
    · skip
      refine jj_aload_n (j := 0) (by decide +kernel) rfl ?_
      obtain ⟨bn, hg⟩ := hs.sc hG.2
      refine jj_getfield 0 ck_SC fl_SC_9 (by decide) (by decide +kernel) hg rfl ?_
      refine sy_ci (s_row_size (d := d - 1) (t := 0) hs (by decide) (sy_o hG.2)) (fun o1 h1 hC => jj_callV ok_IR_size ml_SC_44 im_IR_size se_IR_IR_size (by decide +kernel) (hs.rcR (t := 0) (by decide) (sy_o hG.2)) rfl (by omega) (Nat.le_of_ble_eq_true rfl) hC) (by decide) rfl (fun q => by cases q) (fun v3 h hv3 hs => ?_)
      exact jj_iret .int (by decide +kernel) rfl rfl ⟨Or.inl rfl, hs⟩
    · skip
      have hdec := up_lt (Int32.not_le.mp c2) hn
      refine jj_aload_n (j := 0) (by decide +kernel) rfl ?_
      obtain ⟨bn, hg⟩ := hs.sc hG.2
      refine jj_getfield 0 ck_SC fl_SC_9 (by decide) (by decide +kernel) hg rfl ?_
      refine jj_iload_n (j := 3) (by decide +kernel) rfl ?_
      refine sy_ci (s_row_at (d := d - 1) (t := 0) hG.1 hs (by decide) (sy_o hG.2)) (fun o1 h1 hC => jj_callV ok_IR_at ml_SC_50 im_IR_at se_IR_IR_at (by decide +kernel) (hs.rcR (t := 0) (by decide) (sy_o hG.2)) rfl (by omega) (Nat.le_of_ble_eq_true rfl) hC) (by decide) rfl (fun q => by cases q) (fun v4 h _ hs => ?_)
      refine jj_istore (i := 4) (by decide +kernel) (by decide) rfl ?_
      refine jj_iload (i := 4) (by decide +kernel) rfl ?_
      refine jj_bipush (n := 10) (v := 10) (by decide +kernel) (by decide) ?_
      refine jj_icmp_ne (off := 8) (tgt := 37) (by decide +kernel) (by decide) (fun c5 => ?_) (fun c5 => ?_)
      · skip
        refine jj_iload (i := 4) (by decide +kernel) rfl ?_
        refine jj_bipush (n := 45) (v := 45) (by decide +kernel) (by decide) ?_
        refine jj_icmp_ne (off := 23) (tgt := 64) (by decide +kernel) (by decide) (fun c6 => ?_) (fun c6 => ?_)
        · skip
          exact jj_wk (js_s (js_s (js_s (js_s (js_s js_0))))) (b_SC_behindBlanks_64 hG hdd ih hdec hs)
        · skip
          refine jj_aload_n (j := 0) (by decide +kernel) rfl ?_
          obtain ⟨bn, hg⟩ := hs.sc hG.2
          refine jj_getfield 0 ck_SC fl_SC_9 (by decide) (by decide +kernel) hg rfl ?_
          refine jj_iload_n (j := 3) (by decide +kernel) rfl ?_
          refine jj_iconst (n := 1) (v := 1) (by decide +kernel) (by decide) ?_
          refine jj_iadd (by decide +kernel) ?_
          refine sy_ci (s_row_at (d := d - 1) (t := 0) hG.1 hs (by decide) (sy_o hG.2)) (fun o1 h1 hC => jj_callV ok_IR_at ml_SC_50 im_IR_at se_IR_IR_at (by decide +kernel) (hs.rcR (t := 0) (by decide) (sy_o hG.2)) rfl (by omega) (Nat.le_of_ble_eq_true rfl) hC) (by decide) rfl (fun q => by cases q) (fun v7 h _ hs => ?_)
          refine jj_bipush (n := 45) (v := 45) (by decide +kernel) (by decide) ?_
          refine jj_icmp_ne (off := 8) (tgt := 64) (by decide +kernel) (by decide) (fun c8 => ?_) (fun c8 => ?_)
          · skip
            exact jj_wk (js_s (js_s (js_s (js_s (js_s js_0))))) (b_SC_behindBlanks_64 hG hdd ih hdec hs)
          · skip
            refine jj_iconst (n := 1) (v := 1) (by decide +kernel) (by decide) ?_
            refine jj_istore_n (j := 2) (by decide +kernel) (by decide) rfl ?_
            refine jj_goto (off := 23) (tgt := 84) (by decide +kernel) (by decide) ?_
            refine jj_iinc (i := 3) (n := 1) (by decide +kernel) rfl rfl (by decide) rfl ?_
            refine jj_goto (off := (-83)) (tgt := 4) (by decide +kernel) (by decide) ?_
            exact jj_wk (js_s (js_s (js_s (js_s (js_n js_0))))) (ih _ _ _ hdec hs)
      · skip
        refine jj_iconst (n := 0) (v := 0) (by decide +kernel) (by decide) ?_
        refine jj_istore_n (j := 2) (by decide +kernel) (by decide) rfl ?_
        refine jj_goto (off := 50) (tgt := 84) (by decide +kernel) (by decide) ?_
        refine jj_iinc (i := 3) (n := 1) (by decide +kernel) rfl rfl (by decide) rfl ?_
        refine jj_goto (off := (-83)) (tgt := 4) (by decide +kernel) (by decide) ?_
        exact jj_wk (js_s (js_s (js_s (js_s (js_n js_0))))) (ih _ _ _ hdec hs)
set_option maxRecDepth 100000 in
set_option maxHeartbeats 4000000 in
theorem b_SC_behindBlanks_0 {l : Launch} {G : jj_G} {X : sy_X} {K o N d : Nat} {x1 : Int32} {h : jj_H} (hG : sy_G G X) (hdd : 1 ≤ d) (hs : Sy G X K o N h) : jj_P l G y_SC_behindBlanks d (sy_F 1 false G X K o N) 0 [some (.ref (X.2.2.1 11)), some (.int x1), none, none, none] [] h := by
  refine jj_iconst (n := 0) (v := 0) (by decide +kernel) (by decide) ?_
  refine jj_istore_n (j := 2) (by decide +kernel) (by decide) rfl ?_
  refine jj_iload_n (j := 1) (by decide +kernel) rfl ?_
  refine jj_istore_n (j := 3) (by decide +kernel) (by decide) rfl ?_
  exact jj_wk (js_s (js_s (js_s (js_s (js_n js_0))))) (b_SC_behindBlanks_4 hG hdd _ _ _ _ (Nat.lt_succ_self _) hs)
theorem s_SC_behindBlanks {l : Launch} {G : jj_G} {X : sy_X} {K o N d : Nat} {x1 : Int32} {h : jj_H} (hG : sy_G G X) (hdd : 1 ≤ d) (hs : Sy G X K o N h) : jj_Q l G y_SC_behindBlanks d [.ref (X.2.2.1 11), .int x1] h (sy_F 1 false G X K o N) :=
  jj_Q.of (by decide +kernel) (Nat.le_of_ble_eq_true rfl) (b_SC_behindBlanks_0 hG hdd hs)
set_option maxRecDepth 100000 in
set_option maxHeartbeats 4000000 in
theorem b_SC_goesOnName_26 {l : Launch} {G : jj_G} {X : sy_X} {K o N d : Nat} {x1 : Int32} {h : jj_H} {x2 : Int32} (hG : sy_G G X) (hdd : 2 ≤ d) (hs : Sy G X K o N h) : jj_P l G y_SC_goesOnName d (sy_F 2 false G X K o N) 26 [some (.ref (X.2.2.1 11)), some (.int x1), some (.int x2)] [] h := by
  refine jj_iload_n (j := 2) (by decide +kernel) rfl ?_
  refine sy_ci (sy_pure (thr := false) hs (c_ST_isLetter (d := d - 1))) (fun o1 h1 hC => jj_callSN (index := 57) (host := "SourceTree") ok_ST_isLetter (List.mem_of_getElem? (i := 0) rfl) st_ST_isLetter (by decide +kernel) rfl (by omega) (Nat.le_of_ble_eq_true rfl) hC) (by decide) rfl (fun q => by cases q) (fun v1 h _ hs => ?_)
  refine jj_if_ne (off := 10) (tgt := 40) (by decide +kernel) (by decide) (fun c2 => ?_) (fun c2 => ?_)
  · skip
    refine jj_iconst (n := 1) (v := 1) (by decide +kernel) (by decide) ?_
    refine jj_goto (off := 4) (tgt := 45) (by decide +kernel) (by decide) ?_
    exact jj_iret .boolean (by decide +kernel) rfl rfl ⟨Or.inr (Or.inl ⟨rfl, Or.inr rfl⟩), hs⟩
  · skip
    refine jj_iload_n (j := 2) (by decide +kernel) rfl ?_
    refine sy_ci (sy_pure (thr := false) hs (c_ST_isDigit (d := d - 1))) (fun o1 h1 hC => jj_callSN (index := 64) (host := "SourceTree") ok_ST_isDigit (List.mem_of_getElem? (i := 1) rfl) st_ST_isDigit (by decide +kernel) rfl (by omega) (Nat.le_of_ble_eq_true rfl) hC) (by decide) rfl (fun q => by cases q) (fun v3 h _ hs => ?_)
    refine jj_if_eq (off := 7) (tgt := 44) (by decide +kernel) (by decide) (fun c4 => ?_) (fun c4 => ?_)
    · skip
      refine jj_iconst (n := 0) (v := 0) (by decide +kernel) (by decide) ?_
      exact jj_iret .boolean (by decide +kernel) rfl rfl ⟨Or.inr (Or.inl ⟨rfl, Or.inl rfl⟩), hs⟩
    · skip
      refine jj_iconst (n := 1) (v := 1) (by decide +kernel) (by decide) ?_
      refine jj_goto (off := 4) (tgt := 45) (by decide +kernel) (by decide) ?_
      exact jj_iret .boolean (by decide +kernel) rfl rfl ⟨Or.inr (Or.inl ⟨rfl, Or.inr rfl⟩), hs⟩
set_option maxRecDepth 100000 in
set_option maxHeartbeats 4000000 in
theorem b_SC_goesOnName_0 {l : Launch} {G : jj_G} {X : sy_X} {K o N d : Nat} {x1 : Int32} {h : jj_H} (hG : sy_G G X) (hdd : 2 ≤ d) (hs : Sy G X K o N h) : jj_P l G y_SC_goesOnName d (sy_F 2 false G X K o N) 0 [some (.ref (X.2.2.1 11)), some (.int x1), none] [] h := by
  refine jj_aload_n (j := 0) (by decide +kernel) rfl ?_
  obtain ⟨bn, hg⟩ := hs.sc hG.2
  refine jj_getfield 0 ck_SC fl_SC_9 (by decide) (by decide +kernel) hg rfl ?_
  refine jj_iload_n (j := 1) (by decide +kernel) rfl ?_
  refine sy_ci (s_row_at (d := d - 1) (t := 0) hG.1 hs (by decide) (sy_o hG.2)) (fun o1 h1 hC => jj_callV ok_IR_at ml_SC_50 im_IR_at se_IR_IR_at (by decide +kernel) (hs.rcR (t := 0) (by decide) (sy_o hG.2)) rfl (by omega) (Nat.le_of_ble_eq_true rfl) hC) (by decide) rfl (fun q => by cases q) (fun v1 h _ hs => ?_)
  refine jj_istore_n (j := 2) (by decide +kernel) (by decide) rfl ?_
  refine jj_iload_n (j := 2) (by decide +kernel) rfl ?_
  refine jj_bipush (n := 95) (v := 95) (by decide +kernel) (by decide) ?_
  refine jj_icmp_ne (off := 14) (tgt := 26) (by decide +kernel) (by decide) (fun c2 => ?_) (fun c2 => ?_)
  · skip
    exact jj_wk (js_s (js_s (js_s js_0))) (b_SC_goesOnName_26 hG hdd hs)
  · skip
    refine jj_aload_n (j := 0) (by decide +kernel) rfl ?_
    obtain ⟨bn, hg⟩ := hs.sc hG.2
    refine jj_getfield 0 ck_SC fl_SC_9 (by decide) (by decide +kernel) hg rfl ?_
    refine jj_iload_n (j := 1) (by decide +kernel) rfl ?_
    refine jj_iconst (n := 1) (v := 1) (by decide +kernel) (by decide) ?_
    refine jj_iadd (by decide +kernel) ?_
    refine sy_ci (s_row_at (d := d - 1) (t := 0) hG.1 hs (by decide) (sy_o hG.2)) (fun o1 h1 hC => jj_callV ok_IR_at ml_SC_50 im_IR_at se_IR_IR_at (by decide +kernel) (hs.rcR (t := 0) (by decide) (sy_o hG.2)) rfl (by omega) (Nat.le_of_ble_eq_true rfl) hC) (by decide) rfl (fun q => by cases q) (fun v3 h _ hs => ?_)
    refine jj_istore_n (j := 2) (by decide +kernel) (by decide) rfl ?_
    exact jj_wk (js_s (js_s (js_s js_0))) (b_SC_goesOnName_26 hG hdd hs)
theorem s_SC_goesOnName {l : Launch} {G : jj_G} {X : sy_X} {K o N d : Nat} {x1 : Int32} {h : jj_H} (hG : sy_G G X) (hdd : 2 ≤ d) (hs : Sy G X K o N h) : jj_Q l G y_SC_goesOnName d [.ref (X.2.2.1 11), .int x1] h (sy_F 2 false G X K o N) :=
  jj_Q.of (by decide +kernel) (Nat.le_of_ble_eq_true rfl) (b_SC_goesOnName_0 hG hdd hs)
set_option maxRecDepth 100000 in
set_option maxHeartbeats 4000000 in
theorem b_SC_scanName_45 {l : Launch} {G : jj_G} {X : sy_X} {K o N d : Nat} {x1 : Int32} {h : jj_H} {x2 : Int32} (hG : sy_G G X) (hdd : 7 ≤ d) (hs : Sy G X K o N h) : jj_P l G y_SC_scanName d (sy_F 1 false G X K o N) 45 [some (.ref (X.2.2.1 11)), some (.int x1), some (.int x2), none] [] h := by
  refine jj_aload_n (j := 0) (by decide +kernel) rfl ?_
  obtain ⟨bn, hg⟩ := hs.sc hG.2
  refine jj_getfield 1 ck_SC fl_SC_15 (by decide) (by decide +kernel) hg rfl ?_
  refine sy_ci (s_SP_settle (d := d - 1) hG.1 (by omega) hs) (fun o1 h1 hC => jj_callV ok_SP_settle ml_SC_89 im_SP_settle se_SP_SP_settle (by decide +kernel) hs.rcSP rfl (by omega) (Nat.le_of_ble_eq_true rfl) hC) (by decide) rfl (fun q => by cases q) (fun v1 h _ hs => ?_)
  refine jj_istore_n (j := 3) (by decide +kernel) (by decide) rfl ?_
  refine jj_iload_n (j := 3) (by decide +kernel) rfl ?_
  refine jj_bipush (n := 57) (v := 57) (by decide +kernel) (by decide) ?_
  refine jj_icmp_ge (off := 19) (tgt := 75) (by decide +kernel) (by decide) (fun c2 => ?_) (fun c2 => ?_)
  · skip
    refine jj_iload_n (j := 3) (by decide +kernel) rfl ?_
    refine jj_bipush (n := 57) (v := 57) (by decide +kernel) (by decide) ?_
    refine jj_isub (by decide +kernel) ?_
    refine jj_sipush (n := 1000) (v := 1000) (by decide +kernel) (by decide) ?_
    refine jj_icmp_lt (off := 10) (tgt := 92) (by decide +kernel) (by decide) (fun c3 => ?_) (fun c3 => ?_)
    · skip
      refine jj_aload_n (j := 0) (by decide +kernel) rfl ?_
      obtain ⟨bn, hg⟩ := hs.sc hG.2
      refine jj_getfield 2 ck_SC fl_SC_19 (by decide) (by decide +kernel) hg rfl ?_
      refine jj_sipush (n := 140) (v := 140) (by decide +kernel) (by decide) ?_
      refine jj_iload_n (j := 3) (by decide +kernel) rfl ?_
      refine jj_bipush (n := 57) (v := 57) (by decide +kernel) (by decide) ?_
      refine jj_isub (by decide +kernel) ?_
      refine jj_iload_n (j := 1) (by decide +kernel) rfl ?_
      refine sy_cv (s_tab_add (d := d - 1) (t := 8) hG.1 hs (by decide) (by decide) (sy_o hG.2) (by omega)) (fun o1 h1 hC => jj_callV ok_TB_add ml_SC_53 im_TB_add se_TB_TB_add (by decide +kernel) (hs.rcT (t := 8) (by decide) (by decide) (sy_o hG.2)) rfl (by omega) (Nat.le_of_ble_eq_true rfl) hC) rfl (fun q => by cases q) (fun h hs => ?_)
      refine jj_aload_n (j := 0) (by decide +kernel) rfl ?_
      refine jj_iload_n (j := 2) (by decide +kernel) rfl ?_
      refine sy_putSC hs hG.2 fl_SC_23 (by decide +kernel) (fun h hs => ?_)
      refine jj_iload_n (j := 2) (by decide +kernel) rfl ?_
      exact jj_iret .int (by decide +kernel) rfl rfl ⟨Or.inl rfl, hs⟩
    · skip
      refine jj_aload_n (j := 0) (by decide +kernel) rfl ?_
      refine jj_iconst (n := 4) (v := 4) (by decide +kernel) (by decide) ?_
      refine jj_iload_n (j := 1) (by decide +kernel) rfl ?_
      refine sy_ci (s_SC_endWith (d := d - 1) hG (by omega) hs) (fun o1 h1 hC => jj_callV ok_SC_endWith ml_SC_92 im_SC_endWith se_SC_SC_endWith (by decide +kernel) (hs.rcSC hG.2) rfl (by omega) (Nat.le_of_ble_eq_true rfl) hC) (by decide) rfl (fun q => by cases q) (fun v4 h _ hs => ?_)
      exact jj_iret .int (by decide +kernel) rfl rfl ⟨Or.inl rfl, hs⟩
  · skip
    refine jj_aload_n (j := 0) (by decide +kernel) rfl ?_
    obtain ⟨bn, hg⟩ := hs.sc hG.2
    refine jj_getfield 2 ck_SC fl_SC_19 (by decide) (by decide +kernel) hg rfl ?_
    refine jj_sipush (n := 256) (v := 256) (by decide +kernel) (by decide) ?_
    refine jj_iload_n (j := 3) (by decide +kernel) rfl ?_
    refine jj_iadd (by decide +kernel) ?_
    refine jj_iconst (n := 0) (v := 0) (by decide +kernel) (by decide) ?_
    refine jj_iload_n (j := 1) (by decide +kernel) rfl ?_
    refine sy_cv (s_tab_add (d := d - 1) (t := 8) hG.1 hs (by decide) (by decide) (sy_o hG.2) (by omega)) (fun o1 h1 hC => jj_callV ok_TB_add ml_SC_53 im_TB_add se_TB_TB_add (by decide +kernel) (hs.rcT (t := 8) (by decide) (by decide) (sy_o hG.2)) rfl (by omega) (Nat.le_of_ble_eq_true rfl) hC) rfl (fun q => by cases q) (fun h hs => ?_)
    refine jj_iload_n (j := 2) (by decide +kernel) rfl ?_
    exact jj_iret .int (by decide +kernel) rfl rfl ⟨Or.inl rfl, hs⟩
set_option maxRecDepth 100000 in
set_option maxHeartbeats 4000000 in
theorem b_SC_scanName_2 {l : Launch} {G : jj_G} {X : sy_X} {K o N d : Nat} {x1 : Int32} (hG : sy_G G X) (hdd : 7 ≤ d) : ∀ (n : Nat) (x2 : Int32) (h : jj_H), (2147483647 - x2.toInt).toNat < n → Sy G X K o N h → jj_P l G y_SC_scanName d (sy_F 1 false G X K o N) 2 [some (.ref (X.2.2.1 11)), some (.int x1), some (.int x2), none] [] h := by
  intro n
  induction n with
  | zero => intro x2 h hn; exact absurd hn (Nat.not_lt_zero _)
  | succ n ih =>
    intro x2 h hn hs
    refine jj_iload_n (j := 2) (by decide +kernel) rfl ?_
    refine jj_aload_n (j := 0) (by decide +kernel) rfl ?_
    obtain ⟨bn, hg⟩ := hs.sc hG.2
    refine jj_getfield 0 ck_SC fl_SC_9 (by decide) (by decide +kernel) hg rfl ?_
    refine sy_ci (s_row_size (d := d - 1) (t := 0) hs (by decide) (sy_o hG.2)) (fun o1 h1 hC => jj_callV ok_IR_size ml_SC_44 im_IR_size se_IR_IR_size (by decide +kernel) (hs.rcR (t := 0) (by decide) (sy_o hG.2)) rfl (by omega) (Nat.le_of_ble_eq_true rfl) hC) (by decide) rfl (fun q => by cases q) (fun v1 h hv1 hs => ?_)
    refine jj_icmp_ge (off := 35) (tgt := 45) (by decide +kernel) (by decide) (fun c2 => ?_) (fun c2 => ?_)
    · skip
      exact jj_wk (js_s (js_s (js_s (js_n js_0)))) (b_SC_scanName_45 hG hdd hs)
    · skip
      have hdec := up_lt (Int32.not_le.mp c2) hn
      refine jj_aload_n (j := 0) (by decide +kernel) rfl ?_
      refine jj_iload_n (j := 2) (by decide +kernel) rfl ?_
      refine sy_ci (s_SC_goesOnName (d := d - 1) hG (by omega) hs) (fun o1 h1 hC => jj_callV ok_SC_goesOnName ml_SC_79 im_SC_goesOnName se_SC_SC_goesOnName (by decide +kernel) (hs.rcSC hG.2) rfl (by omega) (Nat.le_of_ble_eq_true rfl) hC) (by decide) rfl (fun q => by cases q) (fun v3 h _ hs => ?_)
      refine jj_if_eq (off := 27) (tgt := 45) (by decide +kernel) (by decide) (fun c4 => ?_) (fun c4 => ?_)
      · skip
        exact jj_wk (js_s (js_s (js_s (js_n js_0)))) (b_SC_scanName_45 hG hdd hs)
      · skip
        refine jj_aload_n (j := 0) (by decide +kernel) rfl ?_
        obtain ⟨bn, hg⟩ := hs.sc hG.2
        refine jj_getfield 1 ck_SC fl_SC_15 (by decide) (by decide +kernel) hg rfl ?_
        refine jj_aload_n (j := 0) (by decide +kernel) rfl ?_
        obtain ⟨bn, hg⟩ := hs.sc hG.2
        refine jj_getfield 0 ck_SC fl_SC_9 (by decide) (by decide +kernel) hg rfl ?_
        refine jj_iload_n (j := 2) (by decide +kernel) rfl ?_
        refine sy_ci (s_row_at (d := d - 1) (t := 0) hG.1 hs (by decide) (sy_o hG.2)) (fun o1 h1 hC => jj_callV ok_IR_at ml_SC_50 im_IR_at se_IR_IR_at (by decide +kernel) (hs.rcR (t := 0) (by decide) (sy_o hG.2)) rfl (by omega) (Nat.le_of_ble_eq_true rfl) hC) (by decide) rfl (fun q => by cases q) (fun v5 h _ hs => ?_)
        refine sy_ci (sy_pure (thr := false) hs (c_ST_small (d := d - 1))) (fun o1 h1 hC => jj_callSN (index := 82) (host := "SourceTree") ok_ST_small (List.mem_of_getElem? (i := 2) rfl) st_ST_small (by decide +kernel) rfl (by omega) (Nat.le_of_ble_eq_true rfl) hC) (by decide) rfl (fun q => by cases q) (fun v6 h _ hs => ?_)
        refine sy_cv (s_SP_addLetter (d := d - 1) hG.1 (by omega) hs) (fun o1 h1 hC => jj_callV ok_SP_addLetter ml_SC_85 im_SP_addLetter se_SP_SP_addLetter (by decide +kernel) hs.rcSP rfl (by omega) (Nat.le_of_ble_eq_true rfl) hC) rfl (fun q => by cases q) (fun h hs => ?_)
        refine jj_iinc (i := 2) (n := 1) (by decide +kernel) rfl rfl (by decide) rfl ?_
        refine jj_goto (off := (-40)) (tgt := 2) (by decide +kernel) (by decide) ?_
        exact jj_wk (js_s (js_s (js_s (js_n js_0)))) (ih _ _ hdec hs)
set_option maxRecDepth 100000 in
set_option maxHeartbeats 4000000 in
theorem b_SC_scanName_0 {l : Launch} {G : jj_G} {X : sy_X} {K o N d : Nat} {x1 : Int32} {h : jj_H} (hG : sy_G G X) (hdd : 7 ≤ d) (hs : Sy G X K o N h) : jj_P l G y_SC_scanName d (sy_F 1 false G X K o N) 0 [some (.ref (X.2.2.1 11)), some (.int x1), none, none] [] h := by
  refine jj_iload_n (j := 1) (by decide +kernel) rfl ?_
  refine jj_istore_n (j := 2) (by decide +kernel) (by decide) rfl ?_
  exact jj_wk (js_s (js_s (js_s (js_n js_0)))) (b_SC_scanName_2 hG hdd _ _ _ (Nat.lt_succ_self _) hs)
theorem s_SC_scanName {l : Launch} {G : jj_G} {X : sy_X} {K o N d : Nat} {x1 : Int32} {h : jj_H} (hG : sy_G G X) (hdd : 7 ≤ d) (hs : Sy G X K o N h) : jj_Q l G y_SC_scanName d [.ref (X.2.2.1 11), .int x1] h (sy_F 1 false G X K o N) :=
  jj_Q.of (by decide +kernel) (Nat.le_of_ble_eq_true rfl) (b_SC_scanName_0 hG hdd hs)
set_option maxRecDepth 100000 in
set_option maxHeartbeats 4000000 in
theorem b_SC_scanNumber_64 {l : Launch} {G : jj_G} {X : sy_X} {K o N d : Nat} {x1 : Int32} {h : jj_H} {x4 : Int32} {x2 : Int64} (hG : sy_G G X) (hdd : 7 ≤ d) (hs : Sy G X K o N h) : jj_P l G y_SC_scanNumber d (sy_F 1 false G X K o N) 64 [some (.ref (X.2.2.1 11)), some (.int x1), some (.long x2), none, some (.int x4)] [] h := by
  refine jj_lload_n (j := 2) (by decide +kernel) rfl ?_
  refine jj_ldc2 (by decide +kernel) kl_SC_106 ?_
  refine jj_lcmp (by decide +kernel) ?_
  refine jj_if_le (off := 10) (tgt := 79) (by decide +kernel) (by decide) (fun c1 => ?_) (fun c1 => ?_)
  · skip
    refine jj_aload_n (j := 0) (by decide +kernel) rfl ?_
    obtain ⟨bn, hg⟩ := hs.sc hG.2
    refine jj_getfield 2 ck_SC fl_SC_19 (by decide) (by decide +kernel) hg rfl ?_
    refine jj_sipush (n := 141) (v := 141) (by decide +kernel) (by decide) ?_
    refine jj_lload_n (j := 2) (by decide +kernel) rfl ?_
    refine jj_l2i (by decide +kernel) ?_
    refine jj_iload_n (j := 1) (by decide +kernel) rfl ?_
    refine sy_cv (s_tab_add (d := d - 1) (t := 8) hG.1 hs (by decide) (by decide) (sy_o hG.2) (by omega)) (fun o1 h1 hC => jj_callV ok_TB_add ml_SC_53 im_TB_add se_TB_TB_add (by decide +kernel) (hs.rcT (t := 8) (by decide) (by decide) (sy_o hG.2)) rfl (by omega) (Nat.le_of_ble_eq_true rfl) hC) rfl (fun q => by cases q) (fun h hs => ?_)
    refine jj_iload (i := 4) (by decide +kernel) rfl ?_
    exact jj_iret .int (by decide +kernel) rfl rfl ⟨Or.inl rfl, hs⟩
  · skip
    refine jj_aload_n (j := 0) (by decide +kernel) rfl ?_
    refine jj_iconst (n := 2) (v := 2) (by decide +kernel) (by decide) ?_
    refine jj_iload_n (j := 1) (by decide +kernel) rfl ?_
    refine sy_ci (s_SC_endWith (d := d - 1) hG (by omega) hs) (fun o1 h1 hC => jj_callV ok_SC_endWith ml_SC_92 im_SC_endWith se_SC_SC_endWith (by decide +kernel) (hs.rcSC hG.2) rfl (by omega) (Nat.le_of_ble_eq_true rfl) hC) (by decide) rfl (fun q => by cases q) (fun v2 h _ hs => ?_)
    exact jj_iret .int (by decide +kernel) rfl rfl ⟨Or.inl rfl, hs⟩
set_option maxRecDepth 100000 in
set_option maxHeartbeats 4000000 in
theorem b_SC_scanNumber_5 {l : Launch} {G : jj_G} {X : sy_X} {K o N d : Nat} {x1 : Int32} (hG : sy_G G X) (hdd : 7 ≤ d) : ∀ (n : Nat) (x4 : Int32) (x2 : Int64) (h : jj_H), (2147483647 - x4.toInt).toNat < n → Sy G X K o N h → jj_P l G y_SC_scanNumber d (sy_F 1 false G X K o N) 5 [some (.ref (X.2.2.1 11)), some (.int x1), some (.long x2), none, some (.int x4)] [] h := by
  intro n
  induction n with
  | zero => intro x4 x2 h hn; exact absurd hn (Nat.not_lt_zero _)
  | succ n ih =>
    intro x4 x2 h hn hs
    refine jj_iload (i := 4) (by decide +kernel) rfl ?_
    refine jj_aload_n (j := 0) (by decide +kernel) rfl ?_
    obtain ⟨bn, hg⟩ := hs.sc hG.2
    refine jj_getfield 0 ck_SC fl_SC_9 (by decide) (by decide +kernel) hg rfl ?_
    refine sy_ci (s_row_size (d := d - 1) (t := 0) hs (by decide) (sy_o hG.2)) (fun o1 h1 hC => jj_callV ok_IR_size ml_SC_44 im_IR_size se_IR_IR_size (by decide +kernel) (hs.rcR (t := 0) (by decide) (sy_o hG.2)) rfl (by omega) (Nat.le_of_ble_eq_true rfl) hC) (by decide) rfl (fun q => by cases q) (fun v1 h hv1 hs => ?_)
    refine jj_icmp_ge (off := 50) (tgt := 64) (by decide +kernel) (by decide) (fun c2 => ?_) (fun c2 => ?_)
    · skip
      exact jj_wk (js_s (js_s (js_s (js_n (js_s js_0))))) (b_SC_scanNumber_64 hG hdd hs)
    · skip
      have hdec := up_lt (Int32.not_le.mp c2) hn
      refine jj_aload_n (j := 0) (by decide +kernel) rfl ?_
      obtain ⟨bn, hg⟩ := hs.sc hG.2
      refine jj_getfield 0 ck_SC fl_SC_9 (by decide) (by decide +kernel) hg rfl ?_
      refine jj_iload (i := 4) (by decide +kernel) rfl ?_
      refine sy_ci (s_row_at (d := d - 1) (t := 0) hG.1 hs (by decide) (sy_o hG.2)) (fun o1 h1 hC => jj_callV ok_IR_at ml_SC_50 im_IR_at se_IR_IR_at (by decide +kernel) (hs.rcR (t := 0) (by decide) (sy_o hG.2)) rfl (by omega) (Nat.le_of_ble_eq_true rfl) hC) (by decide) rfl (fun q => by cases q) (fun v3 h _ hs => ?_)
      refine sy_ci (sy_pure (thr := false) hs (c_ST_isDigit (d := d - 1))) (fun o1 h1 hC => jj_callSN (index := 64) (host := "SourceTree") ok_ST_isDigit (List.mem_of_getElem? (i := 1) rfl) st_ST_isDigit (by decide +kernel) rfl (by omega) (Nat.le_of_ble_eq_true rfl) hC) (by decide) rfl (fun q => by cases q) (fun v4 h _ hs => ?_)
      refine jj_if_eq (off := 35) (tgt := 64) (by decide +kernel) (by decide) (fun c5 => ?_) (fun c5 => ?_)
      · skip
        exact jj_wk (js_s (js_s (js_s (js_n (js_s js_0))))) (b_SC_scanNumber_64 hG hdd hs)
      · skip
        refine jj_lload_n (j := 2) (by decide +kernel) rfl ?_
        refine jj_ldc2 (by decide +kernel) kl_SC_96 ?_
        refine jj_lmul (by decide +kernel) ?_
        refine jj_aload_n (j := 0) (by decide +kernel) rfl ?_
        obtain ⟨bn, hg⟩ := hs.sc hG.2
        refine jj_getfield 0 ck_SC fl_SC_9 (by decide) (by decide +kernel) hg rfl ?_
        refine jj_iload (i := 4) (by decide +kernel) rfl ?_
        refine sy_ci (s_row_at (d := d - 1) (t := 0) hG.1 hs (by decide) (sy_o hG.2)) (fun o1 h1 hC => jj_callV ok_IR_at ml_SC_50 im_IR_at se_IR_IR_at (by decide +kernel) (hs.rcR (t := 0) (by decide) (sy_o hG.2)) rfl (by omega) (Nat.le_of_ble_eq_true rfl) hC) (by decide) rfl (fun q => by cases q) (fun v6 h _ hs => ?_)
        refine jj_bipush (n := 48) (v := 48) (by decide +kernel) (by decide) ?_
        refine jj_isub (by decide +kernel) ?_
        refine jj_i2l (by decide +kernel) ?_
        refine jj_ladd (by decide +kernel) ?_
        refine jj_ldc2 (by decide +kernel) kl_SC_98 ?_
        refine jj_callr (c_JM_min2 (d := d - 1)) (fun o1 h1 hC => jj_callS ok_JM_min2 ml_SC_100 st_JM_min2 (by decide +kernel) rfl (by omega) (Nat.le_of_ble_eq_true rfl) hC) (by rintro E h1 ⟨z, q, -⟩; cases q) ?_
        rintro v9 h9 ⟨z9, hv9, rfl⟩
        cases hv9
        refine jj_lstore_n (j := 2) (by decide +kernel) (by decide) rfl ?_
        refine jj_iinc (i := 4) (n := 1) (by decide +kernel) rfl rfl (by decide) rfl ?_
        refine jj_goto (off := (-56)) (tgt := 5) (by decide +kernel) (by decide) ?_
        exact jj_wk (js_s (js_s (js_s (js_n (js_s js_0))))) (ih _ _ _ hdec hs)
set_option maxRecDepth 100000 in
set_option maxHeartbeats 4000000 in
theorem b_SC_scanNumber_0 {l : Launch} {G : jj_G} {X : sy_X} {K o N d : Nat} {x1 : Int32} {h : jj_H} (hG : sy_G G X) (hdd : 7 ≤ d) (hs : Sy G X K o N h) : jj_P l G y_SC_scanNumber d (sy_F 1 false G X K o N) 0 [some (.ref (X.2.2.1 11)), some (.int x1), none, none, none] [] h := by
  refine jj_lconst (n := 0) (v := 0) (by decide +kernel) (by decide) ?_
  refine jj_lstore_n (j := 2) (by decide +kernel) (by decide) rfl ?_
  refine jj_iload_n (j := 1) (by decide +kernel) rfl ?_
  refine jj_istore (i := 4) (by decide +kernel) (by decide) rfl ?_
  exact jj_wk (js_s (js_s (js_s (js_n (js_s js_0))))) (b_SC_scanNumber_5 hG hdd _ _ _ _ (Nat.lt_succ_self _) hs)
theorem s_SC_scanNumber {l : Launch} {G : jj_G} {X : sy_X} {K o N d : Nat} {x1 : Int32} {h : jj_H} (hG : sy_G G X) (hdd : 7 ≤ d) (hs : Sy G X K o N h) : jj_Q l G y_SC_scanNumber d [.ref (X.2.2.1 11), .int x1] h (sy_F 1 false G X K o N) :=
  jj_Q.of (by decide +kernel) (Nat.le_of_ble_eq_true rfl) (b_SC_scanNumber_0 hG hdd hs)
set_option maxRecDepth 100000 in
set_option maxHeartbeats 4000000 in
theorem b_SC_scanRow_54 {l : Launch} {G : jj_G} {X : sy_X} {K o N d : Nat} {x1 : Int32} {h : jj_H} {x2 : Int32} (hG : sy_G G X) (hdd : 10 ≤ d) (hs : Sy G X K o N h) : jj_P l G y_SC_scanRow d (sy_F 1 false G X K o N) 54 [some (.ref (X.2.2.1 11)), some (.int x1), some (.int x2)] [] h := by
  refine jj_aload_n (j := 0) (by decide +kernel) rfl ?_
  refine jj_iconst (n := 1) (v := 1) (by decide +kernel) (by decide) ?_
  refine jj_iload_n (j := 1) (by decide +kernel) rfl ?_
  refine sy_ci (s_SC_endWith (d := d - 1) hG (by omega) hs) (fun o1 h1 hC => jj_callV ok_SC_endWith ml_SC_92 im_SC_endWith se_SC_SC_endWith (by decide +kernel) (hs.rcSC hG.2) rfl (by omega) (Nat.le_of_ble_eq_true rfl) hC) (by decide) rfl (fun q => by cases q) (fun v1 h _ hs => ?_)
  exact jj_iret .int (by decide +kernel) rfl rfl ⟨Or.inl rfl, hs⟩
set_option maxRecDepth 100000 in
set_option maxHeartbeats 4000000 in
theorem b_SC_scanRow_33 {l : Launch} {G : jj_G} {X : sy_X} {K o N d : Nat} {x1 : Int32} {h : jj_H} {x2 : Int32} (hG : sy_G G X) (hdd : 10 ≤ d) (hs : Sy G X K o N h) : jj_P l G y_SC_scanRow d (sy_F 1 false G X K o N) 33 [some (.ref (X.2.2.1 11)), some (.int x1), some (.int x2)] [] h := by
  refine jj_iload_n (j := 2) (by decide +kernel) rfl ?_
  refine jj_if_eq (off := 20) (tgt := 54) (by decide +kernel) (by decide) (fun c1 => ?_) (fun c1 => ?_)
  · skip
    exact jj_wk (js_s (js_s (js_s js_0))) (b_SC_scanRow_54 hG hdd hs)
  · skip
    refine jj_aload_n (j := 0) (by decide +kernel) rfl ?_
    obtain ⟨bn, hg⟩ := hs.sc hG.2
    refine jj_getfield 0 ck_SC fl_SC_9 (by decide) (by decide +kernel) hg rfl ?_
    refine jj_iload_n (j := 1) (by decide +kernel) rfl ?_
    refine jj_iconst (n := 1) (v := 1) (by decide +kernel) (by decide) ?_
    refine jj_iadd (by decide +kernel) ?_
    refine jj_iload_n (j := 2) (by decide +kernel) rfl ?_
    refine jj_iadd (by decide +kernel) ?_
    refine sy_ci (s_row_at (d := d - 1) (t := 0) hG.1 hs (by decide) (sy_o hG.2)) (fun o1 h1 hC => jj_callV ok_IR_at ml_SC_50 im_IR_at se_IR_IR_at (by decide +kernel) (hs.rcR (t := 0) (by decide) (sy_o hG.2)) rfl (by omega) (Nat.le_of_ble_eq_true rfl) hC) (by decide) rfl (fun q => by cases q) (fun v2 h _ hs => ?_)
    refine jj_bipush (n := 34) (v := 34) (by decide +kernel) (by decide) ?_
    refine jj_icmp_eq (off := 10) (tgt := 61) (by decide +kernel) (by decide) (fun c3 => ?_) (fun c3 => ?_)
    · skip
      refine jj_aload_n (j := 0) (by decide +kernel) rfl ?_
      obtain ⟨bn, hg⟩ := hs.sc hG.2
      refine jj_getfield 2 ck_SC fl_SC_19 (by decide) (by decide +kernel) hg rfl ?_
      refine jj_sipush (n := 143) (v := 143) (by decide +kernel) (by decide) ?_
      refine jj_iload_n (j := 2) (by decide +kernel) rfl ?_
      refine jj_iload_n (j := 1) (by decide +kernel) rfl ?_
      refine sy_cv (s_tab_add (d := d - 1) (t := 8) hG.1 hs (by decide) (by decide) (sy_o hG.2) (by omega)) (fun o1 h1 hC => jj_callV ok_TB_add ml_SC_53 im_TB_add se_TB_TB_add (by decide +kernel) (hs.rcT (t := 8) (by decide) (by decide) (sy_o hG.2)) rfl (by omega) (Nat.le_of_ble_eq_true rfl) hC) rfl (fun q => by cases q) (fun h hs => ?_)
      refine jj_iload_n (j := 1) (by decide +kernel) rfl ?_
      refine jj_iload_n (j := 2) (by decide +kernel) rfl ?_
      refine jj_iadd (by decide +kernel) ?_
      refine jj_iconst (n := 2) (v := 2) (by decide +kernel) (by decide) ?_
      refine jj_iadd (by decide +kernel) ?_
      exact jj_iret .int (by decide +kernel) rfl rfl ⟨Or.inl rfl, hs⟩
    · skip
      exact jj_wk (js_s (js_s (js_s js_0))) (b_SC_scanRow_54 hG hdd hs)
set_option maxRecDepth 100000 in
set_option maxHeartbeats 4000000 in
theorem b_SC_scanRow_2 {l : Launch} {G : jj_G} {X : sy_X} {K o N d : Nat} {x1 : Int32} (hG : sy_G G X) (hdd : 10 ≤ d) : ∀ (n : Nat) (x2 : Int32) (h : jj_H), (2147483647 - x2.toInt).toNat < n → Sy G X K o N h → jj_P l G y_SC_scanRow d (sy_F 1 false G X K o N) 2 [some (.ref (X.2.2.1 11)), some (.int x1), some (.int x2)] [] h := by
  intro n
  induction n with
  | zero => intro x2 h hn; exact absurd hn (Nat.not_lt_zero _)
  | succ n ih =>
    intro x2 h hn hs
    refine jj_iload_n (j := 2) (by decide +kernel) rfl ?_
    refine jj_bipush (n := 64) (v := 64) (by decide +kernel) (by decide) ?_
    refine jj_icmp_ge (off := 28) (tgt := 33) (by decide +kernel) (by decide) (fun c1 => ?_) (fun c1 => ?_)
    · skip
      exact jj_wk (js_s (js_s (js_s js_0))) (b_SC_scanRow_33 hG hdd hs)
    · skip
      have hdec := up_lt (Int32.not_le.mp c1) hn
      refine jj_aload_n (j := 0) (by decide +kernel) rfl ?_
      obtain ⟨bn, hg⟩ := hs.sc hG.2
      refine jj_getfield 0 ck_SC fl_SC_9 (by decide) (by decide +kernel) hg rfl ?_
      refine jj_iload_n (j := 1) (by decide +kernel) rfl ?_
      refine jj_iconst (n := 1) (v := 1) (by decide +kernel) (by decide) ?_
      refine jj_iadd (by decide +kernel) ?_
      refine jj_iload_n (j := 2) (by decide +kernel) rfl ?_
      refine jj_iadd (by decide +kernel) ?_
      refine sy_ci (s_row_at (d := d - 1) (t := 0) hG.1 hs (by decide) (sy_o hG.2)) (fun o1 h1 hC => jj_callV ok_IR_at ml_SC_50 im_IR_at se_IR_IR_at (by decide +kernel) (hs.rcR (t := 0) (by decide) (sy_o hG.2)) rfl (by omega) (Nat.le_of_ble_eq_true rfl) hC) (by decide) rfl (fun q => by cases q) (fun v2 h _ hs => ?_)
      refine sy_ci (s_ST_signOf (d := d - 1) hG (by omega) hs) (fun o1 h1 hC => jj_callSN (index := 73) (host := "SourceTree") ok_ST_signOf (List.mem_of_getElem? (i := 3) rfl) st_ST_signOf (by decide +kernel) rfl (by omega) (Nat.le_of_ble_eq_true rfl) hC) (by decide) rfl (fun q => by cases q) (fun v3 h _ hs => ?_)
      refine jj_iconst (n := (-1)) (v := (-1)) (by decide +kernel) (by decide) ?_
      refine jj_icmp_eq (off := 9) (tgt := 33) (by decide +kernel) (by decide) (fun c4 => ?_) (fun c4 => ?_)
      · skip
        exact jj_wk (js_s (js_s (js_s js_0))) (b_SC_scanRow_33 hG hdd hs)
      · skip
        refine jj_iinc (i := 2) (n := 1) (by decide +kernel) rfl rfl (by decide) rfl ?_
        refine jj_goto (off := (-28)) (tgt := 2) (by decide +kernel) (by decide) ?_
        exact jj_wk (js_s (js_s (js_s js_0))) (ih _ _ hdec hs)
set_option maxRecDepth 100000 in
set_option maxHeartbeats 4000000 in
theorem b_SC_scanRow_0 {l : Launch} {G : jj_G} {X : sy_X} {K o N d : Nat} {x1 : Int32} {h : jj_H} (hG : sy_G G X) (hdd : 10 ≤ d) (hs : Sy G X K o N h) : jj_P l G y_SC_scanRow d (sy_F 1 false G X K o N) 0 [some (.ref (X.2.2.1 11)), some (.int x1), none] [] h := by
  refine jj_iconst (n := 0) (v := 0) (by decide +kernel) (by decide) ?_
  refine jj_istore_n (j := 2) (by decide +kernel) (by decide) rfl ?_
  exact jj_wk (js_s (js_s (js_s js_0))) (b_SC_scanRow_2 hG hdd _ _ _ (Nat.lt_succ_self _) hs)
theorem s_SC_scanRow {l : Launch} {G : jj_G} {X : sy_X} {K o N d : Nat} {x1 : Int32} {h : jj_H} (hG : sy_G G X) (hdd : 10 ≤ d) (hs : Sy G X K o N h) : jj_Q l G y_SC_scanRow d [.ref (X.2.2.1 11), .int x1] h (sy_F 1 false G X K o N) :=
  jj_Q.of (by decide +kernel) (Nat.le_of_ble_eq_true rfl) (b_SC_scanRow_0 hG hdd hs)
set_option maxRecDepth 100000 in
set_option maxHeartbeats 4000000 in
theorem b_SC_scanMark_57 {l : Launch} {G : jj_G} {X : sy_X} {K o N d : Nat} {x1 : Int32} {h : jj_H} {x2 x3 : Int32} (hG : sy_G G X) (hdd : 9 ≤ d) (hs : Sy G X K o N h) : jj_P l G y_SC_scanMark d (sy_F 1 false G X K o N) 57 [some (.ref (X.2.2.1 11)), some (.int x1), some (.int x2), some (.int x3)] [] h := by
  refine jj_aload_n (j := 0) (by decide +kernel) rfl ?_
  refine jj_iconst (n := 1) (v := 1) (by decide +kernel) (by decide) ?_
  refine jj_iload_n (j := 1) (by decide +kernel) rfl ?_
  refine sy_ci (s_SC_endWith (d := d - 1) hG (by omega) hs) (fun o1 h1 hC => jj_callV ok_SC_endWith ml_SC_92 im_SC_endWith se_SC_SC_endWith (by decide +kernel) (hs.rcSC hG.2) rfl (by omega) (Nat.le_of_ble_eq_true rfl) hC) (by decide) rfl (fun q => by cases q) (fun v1 h _ hs => ?_)
  exact jj_iret .int (by decide +kernel) rfl rfl ⟨Or.inl rfl, hs⟩
set_option maxRecDepth 100000 in
set_option maxHeartbeats 4000000 in
theorem b_SC_scanMark_0 {l : Launch} {G : jj_G} {X : sy_X} {K o N d : Nat} {x1 : Int32} {h : jj_H} (hG : sy_G G X) (hdd : 9 ≤ d) (hs : Sy G X K o N h) : jj_P l G y_SC_scanMark d (sy_F 1 false G X K o N) 0 [some (.ref (X.2.2.1 11)), some (.int x1), none, none] [] h := by
  refine jj_aload_n (j := 0) (by decide +kernel) rfl ?_
  obtain ⟨bn, hg⟩ := hs.sc hG.2
  refine jj_getfield 0 ck_SC fl_SC_9 (by decide) (by decide +kernel) hg rfl ?_
  refine jj_iload_n (j := 1) (by decide +kernel) rfl ?_
  refine sy_ci (s_row_at (d := d - 1) (t := 0) hG.1 hs (by decide) (sy_o hG.2)) (fun o1 h1 hC => jj_callV ok_IR_at ml_SC_50 im_IR_at se_IR_IR_at (by decide +kernel) (hs.rcR (t := 0) (by decide) (sy_o hG.2)) rfl (by omega) (Nat.le_of_ble_eq_true rfl) hC) (by decide) rfl (fun q => by cases q) (fun v1 h _ hs => ?_)
  refine jj_istore_n (j := 2) (by decide +kernel) (by decide) rfl ?_
  refine jj_iload_n (j := 2) (by decide +kernel) rfl ?_
  refine jj_aload_n (j := 0) (by decide +kernel) rfl ?_
  obtain ⟨bn, hg⟩ := hs.sc hG.2
  refine jj_getfield 0 ck_SC fl_SC_9 (by decide) (by decide +kernel) hg rfl ?_
  refine jj_iload_n (j := 1) (by decide +kernel) rfl ?_
  refine jj_iconst (n := 1) (v := 1) (by decide +kernel) (by decide) ?_
  refine jj_iadd (by decide +kernel) ?_
  refine sy_ci (s_row_at (d := d - 1) (t := 0) hG.1 hs (by decide) (sy_o hG.2)) (fun o1 h1 hC => jj_callV ok_IR_at ml_SC_50 im_IR_at se_IR_IR_at (by decide +kernel) (hs.rcR (t := 0) (by decide) (sy_o hG.2)) rfl (by omega) (Nat.le_of_ble_eq_true rfl) hC) (by decide) rfl (fun q => by cases q) (fun v2 h _ hs => ?_)
  refine sy_ci (s_SC_pairOf (d := d - 1) hG (by omega) hs) (fun o1 h1 hC => jj_callS ok_SC_pairOf ml_SC_108 st_SC_pairOf (by decide +kernel) rfl (by omega) (Nat.le_of_ble_eq_true rfl) hC) (by decide) rfl (fun q => by cases q) (fun v3 h _ hs => ?_)
  refine jj_istore_n (j := 3) (by decide +kernel) (by decide) rfl ?_
  refine jj_iload_n (j := 3) (by decide +kernel) rfl ?_
  refine jj_iconst (n := (-1)) (v := (-1)) (by decide +kernel) (by decide) ?_
  refine jj_icmp_eq (off := 17) (tgt := 43) (by decide +kernel) (by decide) (fun c4 => ?_) (fun c4 => ?_)
  · skip
    refine jj_iload_n (j := 2) (by decide +kernel) rfl ?_
    refine jj_if_lt (off := 13) (tgt := 57) (by decide +kernel) (by decide) (fun c5 => ?_) (fun c5 => ?_)
    · skip
      exact jj_wk (js_s (js_s (js_s (js_s js_0)))) (b_SC_scanMark_57 hG hdd hs)
    · skip
      refine jj_ldcS (index := 111) (i := 5) (tx := "(),;:=<>+-*/&'|") (by decide +kernel) (List.mem_of_getElem? (i := 5) rfl) ?_
      refine jj_iload_n (j := 2) (by decide +kernel) rfl ?_
      refine jj_i2c (by decide +kernel) ?_
      refine sy_ci (s_JS_indexOf (d := d - 1) (i := 5) hG.1 (by decide) (by omega) hs) (fun o1 h1 hC => jj_callV ok_JS_indexOf ml_SC_113 im_JS_indexOf se_JS_JS_indexOf (by decide +kernel) (jj_rcv.str (by decide)) rfl (by omega) (Nat.le_of_ble_eq_true rfl) hC) (by decide) rfl (fun q => by cases q) (fun v6 h _ hs => ?_)
      refine jj_if_ge (off := 10) (tgt := 64) (by decide +kernel) (by decide) (fun c7 => ?_) (fun c7 => ?_)
      · skip
        refine jj_aload_n (j := 0) (by decide +kernel) rfl ?_
        obtain ⟨bn, hg⟩ := hs.sc hG.2
        refine jj_getfield 2 ck_SC fl_SC_19 (by decide) (by decide +kernel) hg rfl ?_
        refine jj_iload_n (j := 2) (by decide +kernel) rfl ?_
        refine jj_iconst (n := 0) (v := 0) (by decide +kernel) (by decide) ?_
        refine jj_iload_n (j := 1) (by decide +kernel) rfl ?_
        refine sy_cv (s_tab_add (d := d - 1) (t := 8) hG.1 hs (by decide) (by decide) (sy_o hG.2) (by omega)) (fun o1 h1 hC => jj_callV ok_TB_add ml_SC_53 im_TB_add se_TB_TB_add (by decide +kernel) (hs.rcT (t := 8) (by decide) (by decide) (sy_o hG.2)) rfl (by omega) (Nat.le_of_ble_eq_true rfl) hC) rfl (fun q => by cases q) (fun h hs => ?_)
        refine jj_iload_n (j := 1) (by decide +kernel) rfl ?_
        refine jj_iconst (n := 1) (v := 1) (by decide +kernel) (by decide) ?_
        refine jj_iadd (by decide +kernel) ?_
        exact jj_iret .int (by decide +kernel) rfl rfl ⟨Or.inl rfl, hs⟩
      · skip
        exact jj_wk (js_s (js_s (js_s (js_s js_0)))) (b_SC_scanMark_57 hG hdd hs)
  · skip
    refine jj_aload_n (j := 0) (by decide +kernel) rfl ?_
    obtain ⟨bn, hg⟩ := hs.sc hG.2
    refine jj_getfield 2 ck_SC fl_SC_19 (by decide) (by decide +kernel) hg rfl ?_
    refine jj_iload_n (j := 3) (by decide +kernel) rfl ?_
    refine jj_iconst (n := 0) (v := 0) (by decide +kernel) (by decide) ?_
    refine jj_iload_n (j := 1) (by decide +kernel) rfl ?_
    refine sy_cv (s_tab_add (d := d - 1) (t := 8) hG.1 hs (by decide) (by decide) (sy_o hG.2) (by omega)) (fun o1 h1 hC => jj_callV ok_TB_add ml_SC_53 im_TB_add se_TB_TB_add (by decide +kernel) (hs.rcT (t := 8) (by decide) (by decide) (sy_o hG.2)) rfl (by omega) (Nat.le_of_ble_eq_true rfl) hC) rfl (fun q => by cases q) (fun h hs => ?_)
    refine jj_iload_n (j := 1) (by decide +kernel) rfl ?_
    refine jj_iconst (n := 2) (v := 2) (by decide +kernel) (by decide) ?_
    refine jj_iadd (by decide +kernel) ?_
    exact jj_iret .int (by decide +kernel) rfl rfl ⟨Or.inl rfl, hs⟩
theorem s_SC_scanMark {l : Launch} {G : jj_G} {X : sy_X} {K o N d : Nat} {x1 : Int32} {h : jj_H} (hG : sy_G G X) (hdd : 9 ≤ d) (hs : Sy G X K o N h) : jj_Q l G y_SC_scanMark d [.ref (X.2.2.1 11), .int x1] h (sy_F 1 false G X K o N) :=
  jj_Q.of (by decide +kernel) (Nat.le_of_ble_eq_true rfl) (b_SC_scanMark_0 hG hdd hs)
set_option maxRecDepth 100000 in
set_option maxHeartbeats 4000000 in
theorem b_SC_scanToken_130 {l : Launch} {G : jj_G} {X : sy_X} {K o N d : Nat} {x1 : Int32} {h : jj_H} {x2 x3 : Int32} (hG : sy_G G X) (hdd : 11 ≤ d) (hs : Sy G X K o N h) : jj_P l G y_SC_scanToken d (sy_F 1 false G X K o N) 130 [some (.ref (X.2.2.1 11)), some (.int x1), some (.int x2), some (.int x3)] [] h := by
  refine jj_aload_n (j := 0) (by decide +kernel) rfl ?_
  refine jj_iload_n (j := 1) (by decide +kernel) rfl ?_
  refine sy_ci (s_SC_scanMark (d := d - 1) hG (by omega) hs) (fun o1 h1 hC => jj_callV ok_SC_scanMark ml_SC_76 im_SC_scanMark se_SC_SC_scanMark (by decide +kernel) (hs.rcSC hG.2) rfl (by omega) (Nat.le_of_ble_eq_true rfl) hC) (by decide) rfl (fun q => by cases q) (fun v1 h _ hs => ?_)
  exact jj_iret .int (by decide +kernel) rfl rfl ⟨Or.inl rfl, hs⟩
set_option maxRecDepth 100000 in
set_option maxHeartbeats 4000000 in
theorem b_SC_scanToken_0 {l : Launch} {G : jj_G} {X : sy_X} {K o N d : Nat} {x1 : Int32} {h : jj_H} (hG : sy_G G X) (hdd : 11 ≤ d) (hs : Sy G X K o N h) : jj_P l G y_SC_scanToken d (sy_F 1 false G X K o N) 0 [some (.ref (X.2.2.1 11)), some (.int x1), none, none] [] h := by
  refine jj_aload_n (j := 0) (by decide +kernel) rfl ?_
  obtain ⟨bn, hg⟩ := hs.sc hG.2
  refine jj_getfield 0 ck_SC fl_SC_9 (by decide) (by decide +kernel) hg rfl ?_
  refine jj_iload_n (j := 1) (by decide +kernel) rfl ?_
  refine sy_ci (s_row_at (d := d - 1) (t := 0) hG.1 hs (by decide) (sy_o hG.2)) (fun o1 h1 hC => jj_callV ok_IR_at ml_SC_50 im_IR_at se_IR_IR_at (by decide +kernel) (hs.rcR (t := 0) (by decide) (sy_o hG.2)) rfl (by omega) (Nat.le_of_ble_eq_true rfl) hC) (by decide) rfl (fun q => by cases q) (fun v1 h _ hs => ?_)
  refine jj_istore_n (j := 2) (by decide +kernel) (by decide) rfl ?_
  refine jj_iload_n (j := 2) (by decide +kernel) rfl ?_
  refine jj_iconst (n := (-1)) (v := (-1)) (by decide +kernel) (by decide) ?_
  refine jj_icmp_ne (off := 17) (tgt := 28) (by decide +kernel) (by decide) (fun c2 => ?_) (fun c2 => ?_)
  · skip
    refine jj_iload_n (j := 2) (by decide +kernel) rfl ?_
    refine sy_ci (sy_pure (thr := false) hs (c_ST_isLetter (d := d - 1))) (fun o1 h1 hC => jj_callSN (index := 57) (host := "SourceTree") ok_ST_isLetter (List.mem_of_getElem? (i := 0) rfl) st_ST_isLetter (by decide +kernel) rfl (by omega) (Nat.le_of_ble_eq_true rfl) hC) (by decide) rfl (fun q => by cases q) (fun v3 h _ hs => ?_)
    refine jj_if_eq (off := 9) (tgt := 41) (by decide +kernel) (by decide) (fun c4 => ?_) (fun c4 => ?_)
    · skip
      refine jj_iload_n (j := 2) (by decide +kernel) rfl ?_
      refine sy_ci (sy_pure (thr := false) hs (c_ST_isDigit (d := d - 1))) (fun o1 h1 hC => jj_callSN (index := 64) (host := "SourceTree") ok_ST_isDigit (List.mem_of_getElem? (i := 1) rfl) st_ST_isDigit (by decide +kernel) rfl (by omega) (Nat.le_of_ble_eq_true rfl) hC) (by decide) rfl (fun q => by cases q) (fun v5 h _ hs => ?_)
      refine jj_if_eq (off := 9) (tgt := 54) (by decide +kernel) (by decide) (fun c6 => ?_) (fun c6 => ?_)
      · skip
        refine jj_iload_n (j := 2) (by decide +kernel) rfl ?_
        refine jj_bipush (n := 34) (v := 34) (by decide +kernel) (by decide) ?_
        refine jj_icmp_ne (off := 9) (tgt := 66) (by decide +kernel) (by decide) (fun c7 => ?_) (fun c7 => ?_)
        · skip
          refine jj_aload_n (j := 0) (by decide +kernel) rfl ?_
          obtain ⟨bn, hg⟩ := hs.sc hG.2
          refine jj_getfield 0 ck_SC fl_SC_9 (by decide) (by decide +kernel) hg rfl ?_
          refine jj_iload_n (j := 1) (by decide +kernel) rfl ?_
          refine jj_iconst (n := 1) (v := 1) (by decide +kernel) (by decide) ?_
          refine jj_iadd (by decide +kernel) ?_
          refine sy_ci (s_row_at (d := d - 1) (t := 0) hG.1 hs (by decide) (sy_o hG.2)) (fun o1 h1 hC => jj_callV ok_IR_at ml_SC_50 im_IR_at se_IR_IR_at (by decide +kernel) (hs.rcR (t := 0) (by decide) (sy_o hG.2)) rfl (by omega) (Nat.le_of_ble_eq_true rfl) hC) (by decide) rfl (fun q => by cases q) (fun v8 h _ hs => ?_)
          refine sy_ci (s_ST_signOf (d := d - 1) hG (by omega) hs) (fun o1 h1 hC => jj_callSN (index := 73) (host := "SourceTree") ok_ST_signOf (List.mem_of_getElem? (i := 3) rfl) st_ST_signOf (by decide +kernel) rfl (by omega) (Nat.le_of_ble_eq_true rfl) hC) (by decide) rfl (fun q => by cases q) (fun v9 h _ hs => ?_)
          refine jj_istore_n (j := 3) (by decide +kernel) (by decide) rfl ?_
          refine jj_iload_n (j := 2) (by decide +kernel) rfl ?_
          refine jj_bipush (n := 39) (v := 39) (by decide +kernel) (by decide) ?_
          refine jj_icmp_ne (off := 47) (tgt := 130) (by decide +kernel) (by decide) (fun c10 => ?_) (fun c10 => ?_)
          · skip
            exact jj_wk (js_s (js_s (js_s (js_s js_0)))) (b_SC_scanToken_130 hG hdd hs)
          · skip
            refine jj_iload_n (j := 1) (by decide +kernel) rfl ?_
            refine jj_aload_n (j := 0) (by decide +kernel) rfl ?_
            obtain ⟨bn, hg⟩ := hs.sc hG.2
            refine jj_getfield 3 ck_SC fl_SC_23 (by decide) (by decide +kernel) hg rfl ?_
            refine jj_icmp_eq (off := 39) (tgt := 130) (by decide +kernel) (by decide) (fun c11 => ?_) (fun c11 => ?_)
            · skip
              exact jj_wk (js_s (js_s (js_s (js_s js_0)))) (b_SC_scanToken_130 hG hdd hs)
            · skip
              refine jj_iload_n (j := 3) (by decide +kernel) rfl ?_
              refine jj_iconst (n := (-1)) (v := (-1)) (by decide +kernel) (by decide) ?_
              refine jj_icmp_eq (off := 34) (tgt := 130) (by decide +kernel) (by decide) (fun c12 => ?_) (fun c12 => ?_)
              · skip
                exact jj_wk (js_s (js_s (js_s (js_s js_0)))) (b_SC_scanToken_130 hG hdd hs)
              · skip
                refine jj_aload_n (j := 0) (by decide +kernel) rfl ?_
                obtain ⟨bn, hg⟩ := hs.sc hG.2
                refine jj_getfield 0 ck_SC fl_SC_9 (by decide) (by decide +kernel) hg rfl ?_
                refine jj_iload_n (j := 1) (by decide +kernel) rfl ?_
                refine jj_iconst (n := 2) (v := 2) (by decide +kernel) (by decide) ?_
                refine jj_iadd (by decide +kernel) ?_
                refine sy_ci (s_row_at (d := d - 1) (t := 0) hG.1 hs (by decide) (sy_o hG.2)) (fun o1 h1 hC => jj_callV ok_IR_at ml_SC_50 im_IR_at se_IR_IR_at (by decide +kernel) (hs.rcR (t := 0) (by decide) (sy_o hG.2)) rfl (by omega) (Nat.le_of_ble_eq_true rfl) hC) (by decide) rfl (fun q => by cases q) (fun v13 h _ hs => ?_)
                refine jj_bipush (n := 39) (v := 39) (by decide +kernel) (by decide) ?_
                refine jj_icmp_ne (off := 19) (tgt := 130) (by decide +kernel) (by decide) (fun c14 => ?_) (fun c14 => ?_)
                · skip
                  exact jj_wk (js_s (js_s (js_s (js_s js_0)))) (b_SC_scanToken_130 hG hdd hs)
                · skip
                  refine jj_aload_n (j := 0) (by decide +kernel) rfl ?_
                  obtain ⟨bn, hg⟩ := hs.sc hG.2
                  refine jj_getfield 2 ck_SC fl_SC_19 (by decide) (by decide +kernel) hg rfl ?_
                  refine jj_sipush (n := 142) (v := 142) (by decide +kernel) (by decide) ?_
                  refine jj_iload_n (j := 3) (by decide +kernel) rfl ?_
                  refine jj_iload_n (j := 1) (by decide +kernel) rfl ?_
                  refine sy_cv (s_tab_add (d := d - 1) (t := 8) hG.1 hs (by decide) (by decide) (sy_o hG.2) (by omega)) (fun o1 h1 hC => jj_callV ok_TB_add ml_SC_53 im_TB_add se_TB_TB_add (by decide +kernel) (hs.rcT (t := 8) (by decide) (by decide) (sy_o hG.2)) rfl (by omega) (Nat.le_of_ble_eq_true rfl) hC) rfl (fun q => by cases q) (fun h hs => ?_)
                  refine jj_iload_n (j := 1) (by decide +kernel) rfl ?_
                  refine jj_iconst (n := 3) (v := 3) (by decide +kernel) (by decide) ?_
                  refine jj_iadd (by decide +kernel) ?_
                  exact jj_iret .int (by decide +kernel) rfl rfl ⟨Or.inl rfl, hs⟩
        · skip
          refine jj_aload_n (j := 0) (by decide +kernel) rfl ?_
          refine jj_iload_n (j := 1) (by decide +kernel) rfl ?_
          refine sy_ci (s_SC_scanRow (d := d - 1) hG (by omega) hs) (fun o1 h1 hC => jj_callV ok_SC_scanRow ml_SC_70 im_SC_scanRow se_SC_SC_scanRow (by decide +kernel) (hs.rcSC hG.2) rfl (by omega) (Nat.le_of_ble_eq_true rfl) hC) (by decide) rfl (fun q => by cases q) (fun v15 h _ hs => ?_)
          exact jj_iret .int (by decide +kernel) rfl rfl ⟨Or.inl rfl, hs⟩
      · skip
        refine jj_aload_n (j := 0) (by decide +kernel) rfl ?_
        refine jj_iload_n (j := 1) (by decide +kernel) rfl ?_
        refine sy_ci (s_SC_scanNumber (d := d - 1) hG (by omega) hs) (fun o1 h1 hC => jj_callV ok_SC_scanNumber ml_SC_67 im_SC_scanNumber se_SC_SC_scanNumber (by decide +kernel) (hs.rcSC hG.2) rfl (by omega) (Nat.le_of_ble_eq_true rfl) hC) (by decide) rfl (fun q => by cases q) (fun v16 h _ hs => ?_)
        exact jj_iret .int (by decide +kernel) rfl rfl ⟨Or.inl rfl, hs⟩
    · skip
      refine jj_aload_n (j := 0) (by decide +kernel) rfl ?_
      refine jj_iload_n (j := 1) (by decide +kernel) rfl ?_
      refine sy_ci (s_SC_scanName (d := d - 1) hG (by omega) hs) (fun o1 h1 hC => jj_callV ok_SC_scanName ml_SC_61 im_SC_scanName se_SC_SC_scanName (by decide +kernel) (hs.rcSC hG.2) rfl (by omega) (Nat.le_of_ble_eq_true rfl) hC) (by decide) rfl (fun q => by cases q) (fun v17 h _ hs => ?_)
      exact jj_iret .int (by decide +kernel) rfl rfl ⟨Or.inl rfl, hs⟩
  · skip
    refine jj_aload_n (j := 0) (by decide +kernel) rfl ?_
    obtain ⟨bn, hg⟩ := hs.sc hG.2
    refine jj_getfield 2 ck_SC fl_SC_19 (by decide) (by decide +kernel) hg rfl ?_
    refine jj_sipush (n := 144) (v := 144) (by decide +kernel) (by decide) ?_
    refine jj_iconst (n := 0) (v := 0) (by decide +kernel) (by decide) ?_
    refine jj_iload_n (j := 1) (by decide +kernel) rfl ?_
    refine sy_cv (s_tab_add (d := d - 1) (t := 8) hG.1 hs (by decide) (by decide) (sy_o hG.2) (by omega)) (fun o1 h1 hC => jj_callV ok_TB_add ml_SC_53 im_TB_add se_TB_TB_add (by decide +kernel) (hs.rcT (t := 8) (by decide) (by decide) (sy_o hG.2)) rfl (by omega) (Nat.le_of_ble_eq_true rfl) hC) rfl (fun q => by cases q) (fun h hs => ?_)
    refine jj_iconst (n := (-1)) (v := (-1)) (by decide +kernel) (by decide) ?_
    exact jj_iret .int (by decide +kernel) rfl rfl ⟨Or.inl rfl, hs⟩
theorem s_SC_scanToken {l : Launch} {G : jj_G} {X : sy_X} {K o N d : Nat} {x1 : Int32} {h : jj_H} (hG : sy_G G X) (hdd : 11 ≤ d) (hs : Sy G X K o N h) : jj_Q l G y_SC_scanToken d [.ref (X.2.2.1 11), .int x1] h (sy_F 1 false G X K o N) :=
  jj_Q.of (by decide +kernel) (Nat.le_of_ble_eq_true rfl) (b_SC_scanToken_0 hG hdd hs)
set_option maxRecDepth 100000 in
set_option maxHeartbeats 4000000 in
theorem b_SC_scan_23 {l : Launch} {G : jj_G} {X : sy_X} {K o N d : Nat} (hG : sy_G G X) (hdd : 12 ≤ d) : ∀ (n : Nat) (x1 : Int32) (x2 : Int32) (h : jj_H), (2147483647 - x2.toInt).toNat < n → Sy G X K o N h → jj_P l G y_SC_scan d (sy_F 0 false G X K o N) 23 [some (.ref (X.2.2.1 11)), some (.int x1), some (.int x2)] [] h := by
  intro n
  induction n with
  | zero => intro x1 x2 h hn; exact absurd hn (Nat.not_lt_zero _)
  | succ n ih =>
    intro x1 x2 h hn hs
    refine jj_iload_n (j := 2) (by decide +kernel) rfl ?_
    refine jj_sipush (n := 16385) (v := 16385) (by decide +kernel) (by decide) ?_
    refine jj_icmp_ge (off := 24) (tgt := 51) (by decide +kernel) (by decide) (fun c1 => ?_) (fun c1 => ?_)
    · skip
      exact jj_vret (by decide +kernel) rfl ⟨rfl, hs⟩
    · skip
      have hdec := up_lt (Int32.not_le.mp c1) hn
      refine jj_iload_n (j := 1) (by decide +kernel) rfl ?_
      refine jj_iconst (n := (-1)) (v := (-1)) (by decide +kernel) (by decide) ?_
      refine jj_icmp_eq (off := 19) (tgt := 51) (by decide +kernel) (by decide) (fun c2 => ?_) (fun c2 => ?_)
      · skip
        exact jj_vret (by decide +kernel) rfl ⟨rfl, hs⟩
      · skip
        refine jj_aload_n (j := 0) (by decide +kernel) rfl ?_
        refine jj_aload_n (j := 0) (by decide +kernel) rfl ?_
        refine jj_iload_n (j := 1) (by decide +kernel) rfl ?_
        refine sy_ci (s_SC_behindBlanks (d := d - 1) hG (by omega) hs) (fun o1 h1 hC => jj_callV ok_SC_behindBlanks ml_SC_37 im_SC_behindBlanks se_SC_SC_behindBlanks (by decide +kernel) (hs.rcSC hG.2) rfl (by omega) (Nat.le_of_ble_eq_true rfl) hC) (by decide) rfl (fun q => by cases q) (fun v3 h _ hs => ?_)
        refine sy_ci (s_SC_scanToken (d := d - 1) hG (by omega) hs) (fun o1 h1 hC => jj_callV ok_SC_scanToken ml_SC_41 im_SC_scanToken se_SC_SC_scanToken (by decide +kernel) (hs.rcSC hG.2) rfl (by omega) (Nat.le_of_ble_eq_true rfl) hC) (by decide) rfl (fun q => by cases q) (fun v4 h _ hs => ?_)
        refine jj_istore_n (j := 1) (by decide +kernel) (by decide) rfl ?_
        refine jj_iinc (i := 2) (n := 1) (by decide +kernel) rfl rfl (by decide) rfl ?_
        refine jj_goto (off := (-25)) (tgt := 23) (by decide +kernel) (by decide) ?_
        exact jj_wk (js_s (js_s (js_s js_0))) (ih _ _ _ hdec hs)
set_option maxRecDepth 100000 in
set_option maxHeartbeats 4000000 in
theorem b_SC_scan_0 {l : Launch} {G : jj_G} {X : sy_X} {K o N d : Nat} {h : jj_H} (hG : sy_G G X) (hdd : 12 ≤ d) (hs : Sy G X K o N h) : jj_P l G y_SC_scan d (sy_F 0 false G X K o N) 0 [some (.ref (X.2.2.1 11)), none, none] [] h := by
  refine jj_aload_n (j := 0) (by decide +kernel) rfl ?_
  obtain ⟨bn, hg⟩ := hs.sc hG.2
  refine jj_getfield 2 ck_SC fl_SC_19 (by decide) (by decide +kernel) hg rfl ?_
  refine sy_cv (s_tab_clear (d := d - 1) (t := 8) hs (by decide) (by decide) (sy_o hG.2)) (fun o1 h1 hC => jj_callV ok_TB_clear ml_SC_27 im_TB_clear se_TB_TB_clear (by decide +kernel) (hs.rcT (t := 8) (by decide) (by decide) (sy_o hG.2)) rfl (by omega) (Nat.le_of_ble_eq_true rfl) hC) rfl (fun q => by cases q) (fun h hs => ?_)
  refine jj_aload_n (j := 0) (by decide +kernel) rfl ?_
  obtain ⟨bn, hg⟩ := hs.sc hG.2
  refine jj_getfield 1 ck_SC fl_SC_15 (by decide) (by decide +kernel) hg rfl ?_
  refine sy_cv (s_SP_reset (d := d - 1) hG.1 (by omega) hs) (fun o1 h1 hC => jj_callV ok_SP_reset ml_SC_32 im_SP_reset se_SP_SP_reset (by decide +kernel) hs.rcSP rfl (by omega) (Nat.le_of_ble_eq_true rfl) hC) rfl (fun q => by cases q) (fun h hs => ?_)
  refine jj_aload_n (j := 0) (by decide +kernel) rfl ?_
  refine jj_iconst (n := (-1)) (v := (-1)) (by decide +kernel) (by decide) ?_
  refine sy_putSC hs hG.2 fl_SC_23 (by decide +kernel) (fun h hs => ?_)
  refine jj_iconst (n := 0) (v := 0) (by decide +kernel) (by decide) ?_
  refine jj_istore_n (j := 1) (by decide +kernel) (by decide) rfl ?_
  refine jj_iconst (n := 0) (v := 0) (by decide +kernel) (by decide) ?_
  refine jj_istore_n (j := 2) (by decide +kernel) (by decide) rfl ?_
  exact jj_wk (js_s (js_s (js_s js_0))) (b_SC_scan_23 hG hdd _ _ _ _ (Nat.lt_succ_self _) hs)
theorem s_SC_scan {l : Launch} {G : jj_G} {X : sy_X} {K o N d : Nat} {h : jj_H} (hG : sy_G G X) (hdd : 12 ≤ d) (hs : Sy G X K o N h) : jj_Q l G y_SC_scan d [.ref (X.2.2.1 11)] h (sy_F 0 false G X K o N) :=
  jj_Q.of (by decide +kernel) (Nat.le_of_ble_eq_true rfl) (b_SC_scan_0 hG hdd hs)
end
section
/-- the contracts that are proved by how deep may still be gone -/
def sy_Ex (l : Launch) (G : jj_G) (X : sy_X) (N m : Nat) : Prop := ∀ (K o : Nat) (h : jj_H) (d : Nat), o + m = 40 → Sy G X K o N h → 15 + 10 * m ≤ d → jj_Q l G y_GR_expression d [.ref (X.2.2.1 12)] h (sy_F 0 true G X K o N)
def sy_One (l : Launch) (G : jj_G) (X : sy_X) (N : Nat) (r : Int32) (D m : Nat) : Prop := ∀ (K o : Nat) (h : jj_H) (d : Nat), o + m = 40 → Sy G X K o N h → D + 10 * m ≤ d → jj_Q l G y_GR_one d [.ref (X.2.2.1 12), .int r] h (sy_F 1 true G X K o N)
set_option maxRecDepth 100000 in
set_option maxHeartbeats 4000000 in
theorem b_GR_canBegin_0 {l : Launch} {G : jj_G} {X : sy_X} {K o N d : Nat} {x1 : Int32} {h : jj_H} (hG : sy_G G X) (hdd : 1 ≤ d) (hs : Sy G X K o N h) : jj_P l G y_GR_canBegin d (sy_F 2 false G X K o N) 0 [some (.ref (X.2.2.1 12)), some (.int x1)] [] h := by
  refine jj_iload_n (j := 1) (by decide +kernel) rfl ?_
  refine jj_tableAny (dflt := 163) (lo := 0) (hi := 5) (offs := #[39, 163, 163, 65, 111, 137]) (len := 39) (ts := [40, 66, 112, 138, 164]) (by decide +kernel) (by decide) (by decide +kernel) (jt_c ?_ (jt_c ?_ (jt_c ?_ (jt_c ?_ (jt_c ?_ jt_0)))))
  · skip
    refine jj_aload_n (j := 0) (by decide +kernel) rfl ?_
    obtain ⟨ki, va, pl, fa, fp, ne, hg⟩ := hs.gr hG.2
    refine jj_getfield 3 ck_GR fl_GR_68 (by decide) (by decide +kernel) hg rfl ?_
    refine jj_sipush (n := 305) (v := 305) (by decide +kernel) (by decide) ?_
    refine jj_icmp_eq (off := 13) (tgt := 60) (by decide +kernel) (by decide) (fun c1 => ?_) (fun c1 => ?_)
    · skip
      refine jj_iconst (n := 1) (v := 1) (by decide +kernel) (by decide) ?_
      refine jj_goto (off := 4) (tgt := 65) (by decide +kernel) (by decide) ?_
      exact jj_iret .boolean (by decide +kernel) rfl rfl ⟨Or.inr (Or.inl ⟨rfl, Or.inr rfl⟩), hs⟩
    · skip
      refine jj_aload_n (j := 0) (by decide +kernel) rfl ?_
      obtain ⟨ki, va, pl, fa, fp, ne, hg⟩ := hs.gr hG.2
      refine jj_getfield 3 ck_GR fl_GR_68 (by decide) (by decide +kernel) hg rfl ?_
      refine jj_sipush (n := 261) (v := 261) (by decide +kernel) (by decide) ?_
      refine jj_icmp_ne (off := 7) (tgt := 64) (by decide +kernel) (by decide) (fun c2 => ?_) (fun c2 => ?_)
      · skip
        refine jj_iconst (n := 0) (v := 0) (by decide +kernel) (by decide) ?_
        exact jj_iret .boolean (by decide +kernel) rfl rfl ⟨Or.inr (Or.inl ⟨rfl, Or.inl rfl⟩), hs⟩
      · skip
        refine jj_iconst (n := 1) (v := 1) (by decide +kernel) (by decide) ?_
        refine jj_goto (off := 4) (tgt := 65) (by decide +kernel) (by decide) ?_
        exact jj_iret .boolean (by decide +kernel) rfl rfl ⟨Or.inr (Or.inl ⟨rfl, Or.inr rfl⟩), hs⟩
  · skip
    refine jj_aload_n (j := 0) (by decide +kernel) rfl ?_
    obtain ⟨ki, va, pl, fa, fp, ne, hg⟩ := hs.gr hG.2
    refine jj_getfield 3 ck_GR fl_GR_68 (by decide) (by decide +kernel) hg rfl ?_
    refine jj_sipush (n := 297) (v := 297) (by decide +kernel) (by decide) ?_
    refine jj_icmp_eq (off := 33) (tgt := 106) (by decide +kernel) (by decide) (fun c3 => ?_) (fun c3 => ?_)
    · skip
      refine jj_iconst (n := 1) (v := 1) (by decide +kernel) (by decide) ?_
      refine jj_goto (off := 4) (tgt := 111) (by decide +kernel) (by decide) ?_
      exact jj_iret .boolean (by decide +kernel) rfl rfl ⟨Or.inr (Or.inl ⟨rfl, Or.inr rfl⟩), hs⟩
    · skip
      refine jj_aload_n (j := 0) (by decide +kernel) rfl ?_
      obtain ⟨ki, va, pl, fa, fp, ne, hg⟩ := hs.gr hG.2
      refine jj_getfield 3 ck_GR fl_GR_68 (by decide) (by decide +kernel) hg rfl ?_
      refine jj_sipush (n := 263) (v := 263) (by decide +kernel) (by decide) ?_
      refine jj_icmp_eq (off := 23) (tgt := 106) (by decide +kernel) (by decide) (fun c4 => ?_) (fun c4 => ?_)
      · skip
        refine jj_iconst (n := 1) (v := 1) (by decide +kernel) (by decide) ?_
        refine jj_goto (off := 4) (tgt := 111) (by decide +kernel) (by decide) ?_
        exact jj_iret .boolean (by decide +kernel) rfl rfl ⟨Or.inr (Or.inl ⟨rfl, Or.inr rfl⟩), hs⟩
      · skip
        refine jj_aload_n (j := 0) (by decide +kernel) rfl ?_
        obtain ⟨ki, va, pl, fa, fp, ne, hg⟩ := hs.gr hG.2
        refine jj_getfield 3 ck_GR fl_GR_68 (by decide) (by decide +kernel) hg rfl ?_
        refine jj_sipush (n := 304) (v := 304) (by decide +kernel) (by decide) ?_
        refine jj_icmp_eq (off := 13) (tgt := 106) (by decide +kernel) (by decide) (fun c5 => ?_) (fun c5 => ?_)
        · skip
          refine jj_iconst (n := 1) (v := 1) (by decide +kernel) (by decide) ?_
          refine jj_goto (off := 4) (tgt := 111) (by decide +kernel) (by decide) ?_
          exact jj_iret .boolean (by decide +kernel) rfl rfl ⟨Or.inr (Or.inl ⟨rfl, Or.inr rfl⟩), hs⟩
        · skip
          refine jj_aload_n (j := 0) (by decide +kernel) rfl ?_
          obtain ⟨ki, va, pl, fa, fp, ne, hg⟩ := hs.gr hG.2
          refine jj_getfield 3 ck_GR fl_GR_68 (by decide) (by decide +kernel) hg rfl ?_
          refine jj_sipush (n := 300) (v := 300) (by decide +kernel) (by decide) ?_
          refine jj_icmp_ne (off := 7) (tgt := 110) (by decide +kernel) (by decide) (fun c6 => ?_) (fun c6 => ?_)
          · skip
            refine jj_iconst (n := 0) (v := 0) (by decide +kernel) (by decide) ?_
            exact jj_iret .boolean (by decide +kernel) rfl rfl ⟨Or.inr (Or.inl ⟨rfl, Or.inl rfl⟩), hs⟩
          · skip
            refine jj_iconst (n := 1) (v := 1) (by decide +kernel) (by decide) ?_
            refine jj_goto (off := 4) (tgt := 111) (by decide +kernel) (by decide) ?_
            exact jj_iret .boolean (by decide +kernel) rfl rfl ⟨Or.inr (Or.inl ⟨rfl, Or.inr rfl⟩), hs⟩
  · skip
    refine jj_aload_n (j := 0) (by decide +kernel) rfl ?_
    obtain ⟨ki, va, pl, fa, fp, ne, hg⟩ := hs.gr hG.2
    refine jj_getfield 3 ck_GR fl_GR_68 (by decide) (by decide +kernel) hg rfl ?_
    refine jj_sipush (n := 263) (v := 263) (by decide +kernel) (by decide) ?_
    refine jj_icmp_eq (off := 13) (tgt := 132) (by decide +kernel) (by decide) (fun c7 => ?_) (fun c7 => ?_)
    · skip
      refine jj_iconst (n := 1) (v := 1) (by decide +kernel) (by decide) ?_
      refine jj_goto (off := 4) (tgt := 137) (by decide +kernel) (by decide) ?_
      exact jj_iret .boolean (by decide +kernel) rfl rfl ⟨Or.inr (Or.inl ⟨rfl, Or.inr rfl⟩), hs⟩
    · skip
      refine jj_aload_n (j := 0) (by decide +kernel) rfl ?_
      obtain ⟨ki, va, pl, fa, fp, ne, hg⟩ := hs.gr hG.2
      refine jj_getfield 3 ck_GR fl_GR_68 (by decide) (by decide +kernel) hg rfl ?_
      refine jj_sipush (n := 307) (v := 307) (by decide +kernel) (by decide) ?_
      refine jj_icmp_ne (off := 7) (tgt := 136) (by decide +kernel) (by decide) (fun c8 => ?_) (fun c8 => ?_)
      · skip
        refine jj_iconst (n := 0) (v := 0) (by decide +kernel) (by decide) ?_
        exact jj_iret .boolean (by decide +kernel) rfl rfl ⟨Or.inr (Or.inl ⟨rfl, Or.inl rfl⟩), hs⟩
      · skip
        refine jj_iconst (n := 1) (v := 1) (by decide +kernel) (by decide) ?_
        refine jj_goto (off := 4) (tgt := 137) (by decide +kernel) (by decide) ?_
        exact jj_iret .boolean (by decide +kernel) rfl rfl ⟨Or.inr (Or.inl ⟨rfl, Or.inr rfl⟩), hs⟩
  · skip
    refine jj_aload_n (j := 0) (by decide +kernel) rfl ?_
    obtain ⟨ki, va, pl, fa, fp, ne, hg⟩ := hs.gr hG.2
    refine jj_getfield 3 ck_GR fl_GR_68 (by decide) (by decide +kernel) hg rfl ?_
    refine jj_sipush (n := 140) (v := 140) (by decide +kernel) (by decide) ?_
    refine jj_icmp_eq (off := 13) (tgt := 158) (by decide +kernel) (by decide) (fun c9 => ?_) (fun c9 => ?_)
    · skip
      refine jj_iconst (n := 1) (v := 1) (by decide +kernel) (by decide) ?_
      refine jj_goto (off := 4) (tgt := 163) (by decide +kernel) (by decide) ?_
      exact jj_iret .boolean (by decide +kernel) rfl rfl ⟨Or.inr (Or.inl ⟨rfl, Or.inr rfl⟩), hs⟩
    · skip
      refine jj_aload_n (j := 0) (by decide +kernel) rfl ?_
      obtain ⟨ki, va, pl, fa, fp, ne, hg⟩ := hs.gr hG.2
      refine jj_getfield 3 ck_GR fl_GR_68 (by decide) (by decide +kernel) hg rfl ?_
      refine jj_sipush (n := 292) (v := 292) (by decide +kernel) (by decide) ?_
      refine jj_icmp_ne (off := 7) (tgt := 162) (by decide +kernel) (by decide) (fun c10 => ?_) (fun c10 => ?_)
      · skip
        refine jj_iconst (n := 0) (v := 0) (by decide +kernel) (by decide) ?_
        exact jj_iret .boolean (by decide +kernel) rfl rfl ⟨Or.inr (Or.inl ⟨rfl, Or.inl rfl⟩), hs⟩
      · skip
        refine jj_iconst (n := 1) (v := 1) (by decide +kernel) (by decide) ?_
        refine jj_goto (off := 4) (tgt := 163) (by decide +kernel) (by decide) ?_
        exact jj_iret .boolean (by decide +kernel) rfl rfl ⟨Or.inr (Or.inl ⟨rfl, Or.inr rfl⟩), hs⟩
  · skip
    refine jj_aload_n (j := 0) (by decide +kernel) rfl ?_
    obtain ⟨ki, va, pl, fa, fp, ne, hg⟩ := hs.gr hG.2
    refine jj_getfield 3 ck_GR fl_GR_68 (by decide) (by decide +kernel) hg rfl ?_
    refine jj_sipush (n := 140) (v := 140) (by decide +kernel) (by decide) ?_
    refine jj_icmp_eq (off := 113) (tgt := 284) (by decide +kernel) (by decide) (fun c11 => ?_) (fun c11 => ?_)
    · skip
      refine jj_iconst (n := 1) (v := 1) (by decide +kernel) (by decide) ?_
      refine jj_goto (off := 4) (tgt := 289) (by decide +kernel) (by decide) ?_
      exact jj_iret .boolean (by decide +kernel) rfl rfl ⟨Or.inr (Or.inl ⟨rfl, Or.inr rfl⟩), hs⟩
    · skip
      refine jj_aload_n (j := 0) (by decide +kernel) rfl ?_
      obtain ⟨ki, va, pl, fa, fp, ne, hg⟩ := hs.gr hG.2
      refine jj_getfield 3 ck_GR fl_GR_68 (by decide) (by decide +kernel) hg rfl ?_
      refine jj_sipush (n := 272) (v := 272) (by decide +kernel) (by decide) ?_
      refine jj_icmp_eq (off := 103) (tgt := 284) (by decide +kernel) (by decide) (fun c12 => ?_) (fun c12 => ?_)
      · skip
        refine jj_iconst (n := 1) (v := 1) (by decide +kernel) (by decide) ?_
        refine jj_goto (off := 4) (tgt := 289) (by decide +kernel) (by decide) ?_
        exact jj_iret .boolean (by decide +kernel) rfl rfl ⟨Or.inr (Or.inl ⟨rfl, Or.inr rfl⟩), hs⟩
      · skip
        refine jj_aload_n (j := 0) (by decide +kernel) rfl ?_
        obtain ⟨ki, va, pl, fa, fp, ne, hg⟩ := hs.gr hG.2
        refine jj_getfield 3 ck_GR fl_GR_68 (by decide) (by decide +kernel) hg rfl ?_
        refine jj_sipush (n := 262) (v := 262) (by decide +kernel) (by decide) ?_
        refine jj_icmp_eq (off := 93) (tgt := 284) (by decide +kernel) (by decide) (fun c13 => ?_) (fun c13 => ?_)
        · skip
          refine jj_iconst (n := 1) (v := 1) (by decide +kernel) (by decide) ?_
          refine jj_goto (off := 4) (tgt := 289) (by decide +kernel) (by decide) ?_
          exact jj_iret .boolean (by decide +kernel) rfl rfl ⟨Or.inr (Or.inl ⟨rfl, Or.inr rfl⟩), hs⟩
        · skip
          refine jj_aload_n (j := 0) (by decide +kernel) rfl ?_
          obtain ⟨ki, va, pl, fa, fp, ne, hg⟩ := hs.gr hG.2
          refine jj_getfield 3 ck_GR fl_GR_68 (by decide) (by decide +kernel) hg rfl ?_
          refine jj_sipush (n := 269) (v := 269) (by decide +kernel) (by decide) ?_
          refine jj_icmp_eq (off := 83) (tgt := 284) (by decide +kernel) (by decide) (fun c14 => ?_) (fun c14 => ?_)
          · skip
            refine jj_iconst (n := 1) (v := 1) (by decide +kernel) (by decide) ?_
            refine jj_goto (off := 4) (tgt := 289) (by decide +kernel) (by decide) ?_
            exact jj_iret .boolean (by decide +kernel) rfl rfl ⟨Or.inr (Or.inl ⟨rfl, Or.inr rfl⟩), hs⟩
          · skip
            refine jj_aload_n (j := 0) (by decide +kernel) rfl ?_
            obtain ⟨ki, va, pl, fa, fp, ne, hg⟩ := hs.gr hG.2
            refine jj_getfield 3 ck_GR fl_GR_68 (by decide) (by decide +kernel) hg rfl ?_
            refine jj_sipush (n := 310) (v := 310) (by decide +kernel) (by decide) ?_
            refine jj_icmp_eq (off := 73) (tgt := 284) (by decide +kernel) (by decide) (fun c15 => ?_) (fun c15 => ?_)
            · skip
              refine jj_iconst (n := 1) (v := 1) (by decide +kernel) (by decide) ?_
              refine jj_goto (off := 4) (tgt := 289) (by decide +kernel) (by decide) ?_
              exact jj_iret .boolean (by decide +kernel) rfl rfl ⟨Or.inr (Or.inl ⟨rfl, Or.inr rfl⟩), hs⟩
            · skip
              refine jj_aload_n (j := 0) (by decide +kernel) rfl ?_
              obtain ⟨ki, va, pl, fa, fp, ne, hg⟩ := hs.gr hG.2
              refine jj_getfield 3 ck_GR fl_GR_68 (by decide) (by decide +kernel) hg rfl ?_
              refine jj_sipush (n := 277) (v := 277) (by decide +kernel) (by decide) ?_
              refine jj_icmp_eq (off := 63) (tgt := 284) (by decide +kernel) (by decide) (fun c16 => ?_) (fun c16 => ?_)
              · skip
                refine jj_iconst (n := 1) (v := 1) (by decide +kernel) (by decide) ?_
                refine jj_goto (off := 4) (tgt := 289) (by decide +kernel) (by decide) ?_
                exact jj_iret .boolean (by decide +kernel) rfl rfl ⟨Or.inr (Or.inl ⟨rfl, Or.inr rfl⟩), hs⟩
              · skip
                refine jj_aload_n (j := 0) (by decide +kernel) rfl ?_
                obtain ⟨ki, va, pl, fa, fp, ne, hg⟩ := hs.gr hG.2
                refine jj_getfield 3 ck_GR fl_GR_68 (by decide) (by decide +kernel) hg rfl ?_
                refine jj_sipush (n := 268) (v := 268) (by decide +kernel) (by decide) ?_
                refine jj_icmp_eq (off := 53) (tgt := 284) (by decide +kernel) (by decide) (fun c17 => ?_) (fun c17 => ?_)
                · skip
                  refine jj_iconst (n := 1) (v := 1) (by decide +kernel) (by decide) ?_
                  refine jj_goto (off := 4) (tgt := 289) (by decide +kernel) (by decide) ?_
                  exact jj_iret .boolean (by decide +kernel) rfl rfl ⟨Or.inr (Or.inl ⟨rfl, Or.inr rfl⟩), hs⟩
                · skip
                  refine jj_aload_n (j := 0) (by decide +kernel) rfl ?_
                  obtain ⟨ki, va, pl, fa, fp, ne, hg⟩ := hs.gr hG.2
                  refine jj_getfield 3 ck_GR fl_GR_68 (by decide) (by decide +kernel) hg rfl ?_
                  refine jj_sipush (n := 281) (v := 281) (by decide +kernel) (by decide) ?_
                  refine jj_icmp_eq (off := 43) (tgt := 284) (by decide +kernel) (by decide) (fun c18 => ?_) (fun c18 => ?_)
                  · skip
                    refine jj_iconst (n := 1) (v := 1) (by decide +kernel) (by decide) ?_
                    refine jj_goto (off := 4) (tgt := 289) (by decide +kernel) (by decide) ?_
                    exact jj_iret .boolean (by decide +kernel) rfl rfl ⟨Or.inr (Or.inl ⟨rfl, Or.inr rfl⟩), hs⟩
                  · skip
                    refine jj_aload_n (j := 0) (by decide +kernel) rfl ?_
                    obtain ⟨ki, va, pl, fa, fp, ne, hg⟩ := hs.gr hG.2
                    refine jj_getfield 3 ck_GR fl_GR_68 (by decide) (by decide +kernel) hg rfl ?_
                    refine jj_sipush (n := 308) (v := 308) (by decide +kernel) (by decide) ?_
                    refine jj_icmp_eq (off := 33) (tgt := 284) (by decide +kernel) (by decide) (fun c19 => ?_) (fun c19 => ?_)
                    · skip
                      refine jj_iconst (n := 1) (v := 1) (by decide +kernel) (by decide) ?_
                      refine jj_goto (off := 4) (tgt := 289) (by decide +kernel) (by decide) ?_
                      exact jj_iret .boolean (by decide +kernel) rfl rfl ⟨Or.inr (Or.inl ⟨rfl, Or.inr rfl⟩), hs⟩
                    · skip
                      refine jj_aload_n (j := 0) (by decide +kernel) rfl ?_
                      obtain ⟨ki, va, pl, fa, fp, ne, hg⟩ := hs.gr hG.2
                      refine jj_getfield 3 ck_GR fl_GR_68 (by decide) (by decide +kernel) hg rfl ?_
                      refine jj_sipush (n := 284) (v := 284) (by decide +kernel) (by decide) ?_
                      refine jj_icmp_eq (off := 23) (tgt := 284) (by decide +kernel) (by decide) (fun c20 => ?_) (fun c20 => ?_)
                      · skip
                        refine jj_iconst (n := 1) (v := 1) (by decide +kernel) (by decide) ?_
                        refine jj_goto (off := 4) (tgt := 289) (by decide +kernel) (by decide) ?_
                        exact jj_iret .boolean (by decide +kernel) rfl rfl ⟨Or.inr (Or.inl ⟨rfl, Or.inr rfl⟩), hs⟩
                      · skip
                        refine jj_aload_n (j := 0) (by decide +kernel) rfl ?_
                        obtain ⟨ki, va, pl, fa, fp, ne, hg⟩ := hs.gr hG.2
                        refine jj_getfield 3 ck_GR fl_GR_68 (by decide) (by decide +kernel) hg rfl ?_
                        refine jj_sipush (n := 296) (v := 296) (by decide +kernel) (by decide) ?_
                        refine jj_icmp_eq (off := 13) (tgt := 284) (by decide +kernel) (by decide) (fun c21 => ?_) (fun c21 => ?_)
                        · skip
                          refine jj_iconst (n := 1) (v := 1) (by decide +kernel) (by decide) ?_
                          refine jj_goto (off := 4) (tgt := 289) (by decide +kernel) (by decide) ?_
                          exact jj_iret .boolean (by decide +kernel) rfl rfl ⟨Or.inr (Or.inl ⟨rfl, Or.inr rfl⟩), hs⟩
                        · skip
                          refine jj_aload_n (j := 0) (by decide +kernel) rfl ?_
                          obtain ⟨ki, va, pl, fa, fp, ne, hg⟩ := hs.gr hG.2
                          refine jj_getfield 3 ck_GR fl_GR_68 (by decide) (by decide +kernel) hg rfl ?_
                          refine jj_sipush (n := 259) (v := 259) (by decide +kernel) (by decide) ?_
                          refine jj_icmp_ne (off := 7) (tgt := 288) (by decide +kernel) (by decide) (fun c22 => ?_) (fun c22 => ?_)
                          · skip
                            refine jj_iconst (n := 0) (v := 0) (by decide +kernel) (by decide) ?_
                            exact jj_iret .boolean (by decide +kernel) rfl rfl ⟨Or.inr (Or.inl ⟨rfl, Or.inl rfl⟩), hs⟩
                          · skip
                            refine jj_iconst (n := 1) (v := 1) (by decide +kernel) (by decide) ?_
                            refine jj_goto (off := 4) (tgt := 289) (by decide +kernel) (by decide) ?_
                            exact jj_iret .boolean (by decide +kernel) rfl rfl ⟨Or.inr (Or.inl ⟨rfl, Or.inr rfl⟩), hs⟩
theorem s_GR_canBegin {l : Launch} {G : jj_G} {X : sy_X} {K o N d : Nat} {x1 : Int32} {h : jj_H} (hG : sy_G G X) (hdd : 1 ≤ d) (hs : Sy G X K o N h) : jj_Q l G y_GR_canBegin d [.ref (X.2.2.1 12), .int x1] h (sy_F 2 false G X K o N) :=
  jj_Q.of (by decide +kernel) (Nat.le_of_ble_eq_true rfl) (b_GR_canBegin_0 hG hdd hs)
set_option maxRecDepth 100000 in
set_option maxHeartbeats 4000000 in
theorem b_GR_emptyList_0 {l : Launch} {G : jj_G} {X : sy_X} {K o N d : Nat} {h : jj_H} (hG : sy_G G X) (hdd : 9 ≤ d) (hs : Sy G X K o N h) : jj_P l G y_GR_emptyList d (sy_F 0 true G X K o N) 0 [some (.ref (X.2.2.1 12))] [] h := by
  refine jj_aload_n (j := 0) (by decide +kernel) rfl ?_
  refine jj_bipush (n := 48) (v := 48) (by decide +kernel) (by decide) ?_
  refine jj_iconst (n := 0) (v := 0) (by decide +kernel) (by decide) ?_
  refine jj_iconst (n := 0) (v := 0) (by decide +kernel) (by decide) ?_
  refine sy_cv (s_CU_tell (d := d - 1) hG (by omega) hs) (fun o1 h1 hC => jj_callU ok_CU_tell ml_GR_64 sm_GR_CU_tell rfl im_CU_tell se_GR_CU_tell_u (by decide +kernel) (hs.rcGR hG.2) rfl (by omega) (Nat.le_of_ble_eq_true rfl) hC) rfl (fun _ _ _ q => ⟨rfl, rfl, _, q⟩) (fun h hs => ?_)
  exact jj_vret (by decide +kernel) rfl ⟨rfl, hs⟩
theorem s_GR_emptyList {l : Launch} {G : jj_G} {X : sy_X} {K o N d : Nat} {h : jj_H} (hG : sy_G G X) (hdd : 9 ≤ d) (hs : Sy G X K o N h) : jj_Q l G y_GR_emptyList d [.ref (X.2.2.1 12)] h (sy_F 0 true G X K o N) :=
  jj_Q.of (by decide +kernel) (Nat.le_of_ble_eq_true rfl) (b_GR_emptyList_0 hG hdd hs)
set_option maxRecDepth 100000 in
set_option maxHeartbeats 4000000 in
theorem b_GR_signInFront_0 {l : Launch} {G : jj_G} {X : sy_X} {K o N d : Nat} {h : jj_H} (hG : sy_G G X) (hdd : 9 ≤ d) (hs : Sy G X K o N h) : jj_P l G y_GR_signInFront d (sy_F 0 true G X K o N) 0 [some (.ref (X.2.2.1 12))] [] h := by
  refine jj_aload_n (j := 0) (by decide +kernel) rfl ?_
  obtain ⟨ki, va, pl, fa, fp, ne, hg⟩ := hs.gr hG.2
  refine jj_getfield 3 ck_GR fl_GR_68 (by decide) (by decide +kernel) hg rfl ?_
  refine jj_bipush (n := 45) (v := 45) (by decide +kernel) (by decide) ?_
  refine jj_icmp_ne (off := 19) (tgt := 25) (by decide +kernel) (by decide) (fun c1 => ?_) (fun c1 => ?_)
  · skip
    refine jj_aload_n (j := 0) (by decide +kernel) rfl ?_
    obtain ⟨ki, va, pl, fa, fp, ne, hg⟩ := hs.gr hG.2
    refine jj_getfield 3 ck_GR fl_GR_68 (by decide) (by decide +kernel) hg rfl ?_
    refine jj_bipush (n := 43) (v := 43) (by decide +kernel) (by decide) ?_
    refine jj_icmp_ne (off := 16) (tgt := 47) (by decide +kernel) (by decide) (fun c2 => ?_) (fun c2 => ?_)
    · skip
      exact jj_vret (by decide +kernel) rfl ⟨rfl, hs⟩
    · skip
      refine jj_aload_n (j := 0) (by decide +kernel) rfl ?_
      obtain ⟨ki, va, pl, fa, fp, ne, hg⟩ := hs.gr hG.2
      refine jj_getfield 2 ck_GR fl_GR_23 (by decide) (by decide +kernel) hg rfl ?_
      refine jj_bipush (n := 22) (v := 22) (by decide +kernel) (by decide) ?_
      refine sy_cv (s_row_add (d := d - 1) (t := 6) hG.1 hs (by decide) (sy_o hG.2) (by decide) (by omega)) (fun o1 h1 hC => jj_callV ok_IR_add ml_GR_137 im_IR_add se_IR_IR_add (by decide +kernel) (hs.rcR (t := 6) (by decide) (sy_o hG.2)) rfl (by omega) (Nat.le_of_ble_eq_true rfl) hC) rfl (fun q => by cases q) (fun h hs => ?_)
      refine jj_aload_n (j := 0) (by decide +kernel) rfl ?_
      refine sy_cv (s_CU_take (d := d - 1) hG (by omega) hs) (fun o1 h1 hC => jj_callU ok_CU_take ml_GR_134 sm_GR_CU_take rfl im_CU_take se_GR_CU_take_u (by decide +kernel) (hs.rcGR hG.2) rfl (by omega) (Nat.le_of_ble_eq_true rfl) hC) rfl (fun _ _ _ q => ⟨rfl, rfl, _, q⟩) (fun h hs => ?_)
      exact jj_vret (by decide +kernel) rfl ⟨rfl, hs⟩
  · skip
    refine jj_aload_n (j := 0) (by decide +kernel) rfl ?_
    obtain ⟨ki, va, pl, fa, fp, ne, hg⟩ := hs.gr hG.2
    refine jj_getfield 2 ck_GR fl_GR_23 (by decide) (by decide +kernel) hg rfl ?_
    refine jj_bipush (n := 21) (v := 21) (by decide +kernel) (by decide) ?_
    refine sy_cv (s_row_add (d := d - 1) (t := 6) hG.1 hs (by decide) (sy_o hG.2) (by decide) (by omega)) (fun o1 h1 hC => jj_callV ok_IR_add ml_GR_137 im_IR_add se_IR_IR_add (by decide +kernel) (hs.rcR (t := 6) (by decide) (sy_o hG.2)) rfl (by omega) (Nat.le_of_ble_eq_true rfl) hC) rfl (fun q => by cases q) (fun h hs => ?_)
    refine jj_aload_n (j := 0) (by decide +kernel) rfl ?_
    refine sy_cv (s_CU_take (d := d - 1) hG (by omega) hs) (fun o1 h1 hC => jj_callU ok_CU_take ml_GR_134 sm_GR_CU_take rfl im_CU_take se_GR_CU_take_u (by decide +kernel) (hs.rcGR hG.2) rfl (by omega) (Nat.le_of_ble_eq_true rfl) hC) rfl (fun _ _ _ q => ⟨rfl, rfl, _, q⟩) (fun h hs => ?_)
    refine jj_goto (off := 25) (tgt := 47) (by decide +kernel) (by decide) ?_
    exact jj_vret (by decide +kernel) rfl ⟨rfl, hs⟩
theorem s_GR_signInFront {l : Launch} {G : jj_G} {X : sy_X} {K o N d : Nat} {h : jj_H} (hG : sy_G G X) (hdd : 9 ≤ d) (hs : Sy G X K o N h) : jj_Q l G y_GR_signInFront d [.ref (X.2.2.1 12)] h (sy_F 0 true G X K o N) :=
  jj_Q.of (by decide +kernel) (Nat.le_of_ble_eq_true rfl) (b_GR_signInFront_0 hG hdd hs)
set_option maxRecDepth 100000 in
set_option maxHeartbeats 4000000 in
theorem b_GR_operatorThatJoins_16 {l : Launch} {G : jj_G} {X : sy_X} {K o N d : Nat} {x1 : Int32} (hG : sy_G G X) (hdd : 3 ≤ d) : ∀ (n : Nat) (x2 : Int32) (x3 : Int32) (x4 : Int32) (h : jj_H), (2147483647 - x4.toInt).toNat < n → Sy G X K o N h → jj_P l G y_GR_operatorThatJoins d (sy_F 1 false G X K o N) 16 [some (.ref (X.2.2.1 12)), some (.int x1), some (.int x2), some (.int x3), some (.int x4), none] [] h := by
  intro n
  induction n with
  | zero => intro x2 x3 x4 h hn; exact absurd hn (Nat.not_lt_zero _)
  | succ n ih =>
    intro x2 x3 x4 h hn hs
    refine jj_iload (i := 4) (by decide +kernel) rfl ?_
    refine jj_aload_n (j := 0) (by decide +kernel) rfl ?_
    obtain ⟨ki, va, pl, fa, fp, ne, hg⟩ := hs.gr hG.2
    refine jj_getfield 2 ck_GR fl_GR_23 (by decide) (by decide +kernel) hg rfl ?_
    refine sy_ci (s_row_size (d := d - 1) (t := 6) hs (by decide) (sy_o hG.2)) (fun o1 h1 hC => jj_callV ok_IR_size ml_GR_143 im_IR_size se_IR_IR_size (by decide +kernel) (hs.rcR (t := 6) (by decide) (sy_o hG.2)) rfl (by omega) (Nat.le_of_ble_eq_true rfl) hC) (by decide) rfl (fun q => by cases q) (fun v1 h hv1 hs => ?_)
    refine jj_icmp_ge (off := 46) (tgt := 71) (by decide +kernel) (by decide) (fun c2 => ?_) (fun c2 => ?_)
    · skip
      refine jj_iload_n (j := 2) (by decide +kernel) rfl ?_
      exact jj_iret .int (by decide +kernel) rfl rfl ⟨Or.inl rfl, hs⟩
    · skip
      have hdec := up_lt (Int32.not_le.mp c2) hn
      refine jj_iload_n (j := 2) (by decide +kernel) rfl ?_
      refine jj_iconst (n := (-1)) (v := (-1)) (by decide +kernel) (by decide) ?_
      refine jj_icmp_eq (off := 41) (tgt := 71) (by decide +kernel) (by decide) (fun c3 => ?_) (fun c3 => ?_)
      · skip
        refine jj_iload_n (j := 2) (by decide +kernel) rfl ?_
        exact jj_iret .int (by decide +kernel) rfl rfl ⟨Or.inl rfl, hs⟩
      · skip
        refine jj_aload_n (j := 0) (by decide +kernel) rfl ?_
        obtain ⟨ki, va, pl, fa, fp, ne, hg⟩ := hs.gr hG.2
        refine jj_getfield 2 ck_GR fl_GR_23 (by decide) (by decide +kernel) hg rfl ?_
        refine jj_iload (i := 4) (by decide +kernel) rfl ?_
        refine sy_ci (s_row_at (d := d - 1) (t := 6) hG.1 hs (by decide) (sy_o hG.2)) (fun o1 h1 hC => jj_callV ok_IR_at ml_GR_140 im_IR_at se_IR_IR_at (by decide +kernel) (hs.rcR (t := 6) (by decide) (sy_o hG.2)) rfl (by omega) (Nat.le_of_ble_eq_true rfl) hC) (by decide) rfl (fun q => by cases q) (fun v4 h _ hs => ?_)
        refine jj_istore (i := 5) (by decide +kernel) (by decide) rfl ?_
        refine jj_iload (i := 5) (by decide +kernel) rfl ?_
        refine sy_ci (s_GR_levelOf (d := d - 1) hG (by omega) hs) (fun o1 h1 hC => jj_callS ok_GR_levelOf ml_GR_238 st_GR_levelOf (by decide +kernel) rfl (by omega) (Nat.le_of_ble_eq_true rfl) hC) (by decide) rfl (fun q => by cases q) (fun v5 h _ hs => ?_)
        refine jj_iload_n (j := 3) (by decide +kernel) rfl ?_
        refine jj_icmp_ne (off := 15) (tgt := 65) (by decide +kernel) (by decide) (fun c6 => ?_) (fun c6 => ?_)
        · skip
          refine jj_iinc (i := 4) (n := 1) (by decide +kernel) rfl rfl (by decide) rfl ?_
          refine jj_goto (off := (-52)) (tgt := 16) (by decide +kernel) (by decide) ?_
          exact jj_wk (js_s (js_s (js_s (js_s (js_s (js_n js_0)))))) (ih _ _ _ _ hdec hs)
        · skip
          refine jj_iload (i := 5) (by decide +kernel) rfl ?_
          refine jj_iload_n (j := 2) (by decide +kernel) rfl ?_
          refine jj_iload_n (j := 3) (by decide +kernel) rfl ?_
          refine sy_ci (s_GR_mayFollow (d := d - 1) hG (by omega) hs) (fun o1 h1 hC => jj_callS ok_GR_mayFollow ml_GR_256 st_GR_mayFollow (by decide +kernel) rfl (by omega) (Nat.le_of_ble_eq_true rfl) hC) (by decide) rfl (fun q => by cases q) (fun v7 h _ hs => ?_)
          refine jj_if_ne (off := 5) (tgt := 65) (by decide +kernel) (by decide) (fun c8 => ?_) (fun c8 => ?_)
          · skip
            refine jj_iinc (i := 4) (n := 1) (by decide +kernel) rfl rfl (by decide) rfl ?_
            refine jj_goto (off := (-52)) (tgt := 16) (by decide +kernel) (by decide) ?_
            exact jj_wk (js_s (js_s (js_s (js_s (js_s (js_n js_0)))))) (ih _ _ _ _ hdec hs)
          · skip
            refine jj_iconst (n := (-1)) (v := (-1)) (by decide +kernel) (by decide) ?_
            exact jj_iret .int (by decide +kernel) rfl rfl ⟨Or.inl rfl, hs⟩
set_option maxRecDepth 100000 in
set_option maxHeartbeats 4000000 in
theorem b_GR_operatorThatJoins_0 {l : Launch} {G : jj_G} {X : sy_X} {K o N d : Nat} {x1 : Int32} {h : jj_H} (hG : sy_G G X) (hdd : 3 ≤ d) (hs : Sy G X K o N h) : jj_P l G y_GR_operatorThatJoins d (sy_F 1 false G X K o N) 0 [some (.ref (X.2.2.1 12)), some (.int x1), none, none, none, none] [] h := by
  refine jj_aload_n (j := 0) (by decide +kernel) rfl ?_
  obtain ⟨ki, va, pl, fa, fp, ne, hg⟩ := hs.gr hG.2
  refine jj_getfield 3 ck_GR fl_GR_68 (by decide) (by decide +kernel) hg rfl ?_
  refine sy_ci (s_GR_operatorOf (d := d - 1) hG (by omega) hs) (fun o1 h1 hC => jj_callS ok_GR_operatorOf ml_GR_253 st_GR_operatorOf (by decide +kernel) rfl (by omega) (Nat.le_of_ble_eq_true rfl) hC) (by decide) rfl (fun q => by cases q) (fun v1 h _ hs => ?_)
  refine jj_istore_n (j := 2) (by decide +kernel) (by decide) rfl ?_
  refine jj_iload_n (j := 2) (by decide +kernel) rfl ?_
  refine sy_ci (s_GR_levelOf (d := d - 1) hG (by omega) hs) (fun o1 h1 hC => jj_callS ok_GR_levelOf ml_GR_238 st_GR_levelOf (by decide +kernel) rfl (by omega) (Nat.le_of_ble_eq_true rfl) hC) (by decide) rfl (fun q => by cases q) (fun v2 h _ hs => ?_)
  refine jj_istore_n (j := 3) (by decide +kernel) (by decide) rfl ?_
  refine jj_iload_n (j := 1) (by decide +kernel) rfl ?_
  refine jj_istore (i := 4) (by decide +kernel) (by decide) rfl ?_
  exact jj_wk (js_s (js_s (js_s (js_s (js_s (js_n js_0)))))) (b_GR_operatorThatJoins_16 hG hdd _ _ _ _ _ (Nat.lt_succ_self _) hs)
theorem s_GR_operatorThatJoins {l : Launch} {G : jj_G} {X : sy_X} {K o N d : Nat} {x1 : Int32} {h : jj_H} (hG : sy_G G X) (hdd : 3 ≤ d) (hs : Sy G X K o N h) : jj_Q l G y_GR_operatorThatJoins d [.ref (X.2.2.1 12), .int x1] h (sy_F 1 false G X K o N) :=
  jj_Q.of (by decide +kernel) (Nat.le_of_ble_eq_true rfl) (b_GR_operatorThatJoins_0 hG hdd hs)
set_option maxRecDepth 100000 in
set_option maxHeartbeats 4000000 in
theorem b_GR_tellPending_10 {l : Launch} {G : jj_G} {X : sy_X} {K o N d : Nat} {x1 x2 : Int32} (hG : sy_G G X) (hx1 : 0 ≤ x1) (hdd : 9 ≤ d) : ∀ (n : Nat) (x3 : Int32) (h : jj_H), (x3.toInt + 1).toNat < n → Sy G X K o N h → jj_P l G y_GR_tellPending d (sy_F 0 true G X K o N) 10 [some (.ref (X.2.2.1 12)), some (.int x1), some (.int x2), some (.int x3), none] [] h := by
  intro n
  induction n with
  | zero => intro x3 h hn; exact absurd hn (Nat.not_lt_zero _)
  | succ n ih =>
    intro x3 h hn hs
    refine jj_iload_n (j := 3) (by decide +kernel) rfl ?_
    refine jj_iload_n (j := 1) (by decide +kernel) rfl ?_
    refine jj_icmp_lt (off := 87) (tgt := 99) (by decide +kernel) (by decide) (fun c1 => ?_) (fun c1 => ?_)
    · skip
      exact jj_vret (by decide +kernel) rfl ⟨rfl, hs⟩
    · skip
      have hdec := dn_lt hx1 (Int32.not_lt.mp c1) hn
      refine jj_aload_n (j := 0) (by decide +kernel) rfl ?_
      obtain ⟨ki, va, pl, fa, fp, ne, hg⟩ := hs.gr hG.2
      refine jj_getfield 2 ck_GR fl_GR_23 (by decide) (by decide +kernel) hg rfl ?_
      refine jj_iload_n (j := 3) (by decide +kernel) rfl ?_
      refine sy_ci (s_row_at (d := d - 1) (t := 6) hG.1 hs (by decide) (sy_o hG.2)) (fun o1 h1 hC => jj_callV ok_IR_at ml_GR_140 im_IR_at se_IR_IR_at (by decide +kernel) (hs.rcR (t := 6) (by decide) (sy_o hG.2)) rfl (by omega) (Nat.le_of_ble_eq_true rfl) hC) (by decide) rfl (fun q => by cases q) (fun v2 h _ hs => ?_)
      refine sy_ci (s_GR_levelOf (d := d - 1) hG (by omega) hs) (fun o1 h1 hC => jj_callS ok_GR_levelOf ml_GR_238 st_GR_levelOf (by decide +kernel) rfl (by omega) (Nat.le_of_ble_eq_true rfl) hC) (by decide) rfl (fun q => by cases q) (fun v3 h _ hs => ?_)
      refine jj_iload_n (j := 2) (by decide +kernel) rfl ?_
      refine jj_icmp_lt (off := 72) (tgt := 99) (by decide +kernel) (by decide) (fun c4 => ?_) (fun c4 => ?_)
      · skip
        exact jj_vret (by decide +kernel) rfl ⟨rfl, hs⟩
      · skip
        refine jj_aload_n (j := 0) (by decide +kernel) rfl ?_
        obtain ⟨ki, va, pl, fa, fp, ne, hg⟩ := hs.gr hG.2
        refine jj_getfield 2 ck_GR fl_GR_23 (by decide) (by decide +kernel) hg rfl ?_
        refine jj_iload_n (j := 3) (by decide +kernel) rfl ?_
        refine sy_ci (s_row_at (d := d - 1) (t := 6) hG.1 hs (by decide) (sy_o hG.2)) (fun o1 h1 hC => jj_callV ok_IR_at ml_GR_140 im_IR_at se_IR_IR_at (by decide +kernel) (hs.rcR (t := 6) (by decide) (sy_o hG.2)) rfl (by omega) (Nat.le_of_ble_eq_true rfl) hC) (by decide) rfl (fun q => by cases q) (fun v5 h _ hs => ?_)
        refine jj_istore (i := 4) (by decide +kernel) (by decide) rfl ?_
        refine jj_aload_n (j := 0) (by decide +kernel) rfl ?_
        obtain ⟨ki, va, pl, fa, fp, ne, hg⟩ := hs.gr hG.2
        refine jj_getfield 2 ck_GR fl_GR_23 (by decide) (by decide +kernel) hg rfl ?_
        refine jj_iload_n (j := 3) (by decide +kernel) rfl ?_
        refine sy_cv (s_row_cut (d := d - 1) (t := 6) hs (by decide) (sy_o hG.2) (by decide)) (fun o1 h1 hC => jj_callV ok_IR_cutTo ml_GR_87 im_IR_cutTo se_IR_IR_cutTo (by decide +kernel) (hs.rcR (t := 6) (by decide) (sy_o hG.2)) rfl (by omega) (Nat.le_of_ble_eq_true rfl) hC) rfl (fun q => by cases q) (fun h hs => ?_)
        refine jj_iload (i := 4) (by decide +kernel) rfl ?_
        refine jj_bipush (n := 21) (v := 21) (by decide +kernel) (by decide) ?_
        refine jj_icmp_ne (off := 14) (tgt := 66) (by decide +kernel) (by decide) (fun c6 => ?_) (fun c6 => ?_)
        · skip
          refine jj_iload (i := 4) (by decide +kernel) rfl ?_
          refine jj_bipush (n := 22) (v := 22) (by decide +kernel) (by decide) ?_
          refine jj_icmp_ne (off := 14) (tgt := 84) (by decide +kernel) (by decide) (fun c7 => ?_) (fun c7 => ?_)
          · skip
            refine jj_aload_n (j := 0) (by decide +kernel) rfl ?_
            refine jj_bipush (n := 21) (v := 21) (by decide +kernel) (by decide) ?_
            refine jj_iload (i := 4) (by decide +kernel) rfl ?_
            refine jj_iconst (n := 2) (v := 2) (by decide +kernel) (by decide) ?_
            refine sy_cv (s_CU_tell (d := d - 1) hG (by omega) hs) (fun o1 h1 hC => jj_callU ok_CU_tell ml_GR_64 sm_GR_CU_tell rfl im_CU_tell se_GR_CU_tell_u (by decide +kernel) (hs.rcGR hG.2) rfl (by omega) (Nat.le_of_ble_eq_true rfl) hC) rfl (fun _ _ _ q => ⟨rfl, rfl, _, q⟩) (fun h hs => ?_)
            refine jj_iinc (i := 3) (n := (-1)) (by decide +kernel) rfl rfl (by decide) rfl ?_
            refine jj_goto (off := (-86)) (tgt := 10) (by decide +kernel) (by decide) ?_
            exact jj_wk (js_s (js_s (js_s (js_s (js_n js_0))))) (ih _ _ hdec hs)
          · skip
            refine jj_aload_n (j := 0) (by decide +kernel) rfl ?_
            refine jj_bipush (n := 20) (v := 20) (by decide +kernel) (by decide) ?_
            refine jj_iconst (n := 2) (v := 2) (by decide +kernel) (by decide) ?_
            refine jj_iconst (n := 1) (v := 1) (by decide +kernel) (by decide) ?_
            refine sy_cv (s_CU_tell (d := d - 1) hG (by omega) hs) (fun o1 h1 hC => jj_callU ok_CU_tell ml_GR_64 sm_GR_CU_tell rfl im_CU_tell se_GR_CU_tell_u (by decide +kernel) (hs.rcGR hG.2) rfl (by omega) (Nat.le_of_ble_eq_true rfl) hC) rfl (fun _ _ _ q => ⟨rfl, rfl, _, q⟩) (fun h hs => ?_)
            refine jj_goto (off := 12) (tgt := 93) (by decide +kernel) (by decide) ?_
            refine jj_iinc (i := 3) (n := (-1)) (by decide +kernel) rfl rfl (by decide) rfl ?_
            refine jj_goto (off := (-86)) (tgt := 10) (by decide +kernel) (by decide) ?_
            exact jj_wk (js_s (js_s (js_s (js_s (js_n js_0))))) (ih _ _ hdec hs)
        · skip
          refine jj_aload_n (j := 0) (by decide +kernel) rfl ?_
          refine jj_bipush (n := 20) (v := 20) (by decide +kernel) (by decide) ?_
          refine jj_iconst (n := 1) (v := 1) (by decide +kernel) (by decide) ?_
          refine jj_iconst (n := 1) (v := 1) (by decide +kernel) (by decide) ?_
          refine sy_cv (s_CU_tell (d := d - 1) hG (by omega) hs) (fun o1 h1 hC => jj_callU ok_CU_tell ml_GR_64 sm_GR_CU_tell rfl im_CU_tell se_GR_CU_tell_u (by decide +kernel) (hs.rcGR hG.2) rfl (by omega) (Nat.le_of_ble_eq_true rfl) hC) rfl (fun _ _ _ q => ⟨rfl, rfl, _, q⟩) (fun h hs => ?_)
          refine jj_goto (off := 30) (tgt := 93) (by decide +kernel) (by decide) ?_
          refine jj_iinc (i := 3) (n := (-1)) (by decide +kernel) rfl rfl (by decide) rfl ?_
          refine jj_goto (off := (-86)) (tgt := 10) (by decide +kernel) (by decide) ?_
          exact jj_wk (js_s (js_s (js_s (js_s (js_n js_0))))) (ih _ _ hdec hs)
set_option maxRecDepth 100000 in
set_option maxHeartbeats 4000000 in
theorem b_GR_tellPending_0 {l : Launch} {G : jj_G} {X : sy_X} {K o N d : Nat} {x1 x2 : Int32} {h : jj_H} (hG : sy_G G X) (hx1 : 0 ≤ x1) (hdd : 9 ≤ d) (hs : Sy G X K o N h) : jj_P l G y_GR_tellPending d (sy_F 0 true G X K o N) 0 [some (.ref (X.2.2.1 12)), some (.int x1), some (.int x2), none, none] [] h := by
  refine jj_aload_n (j := 0) (by decide +kernel) rfl ?_
  obtain ⟨ki, va, pl, fa, fp, ne, hg⟩ := hs.gr hG.2
  refine jj_getfield 2 ck_GR fl_GR_23 (by decide) (by decide +kernel) hg rfl ?_
  refine sy_ci (s_row_size (d := d - 1) (t := 6) hs (by decide) (sy_o hG.2)) (fun o1 h1 hC => jj_callV ok_IR_size ml_GR_143 im_IR_size se_IR_IR_size (by decide +kernel) (hs.rcR (t := 6) (by decide) (sy_o hG.2)) rfl (by omega) (Nat.le_of_ble_eq_true rfl) hC) (by decide) rfl (fun q => by cases q) (fun v1 h hv1 hs => ?_)
  refine jj_iconst (n := 1) (v := 1) (by decide +kernel) (by decide) ?_
  refine jj_isub (by decide +kernel) ?_
  refine jj_istore_n (j := 3) (by decide +kernel) (by decide) rfl ?_
  exact jj_wk (js_s (js_s (js_s (js_s (js_n js_0))))) (b_GR_tellPending_10 hG hx1 hdd _ _ _ (Nat.lt_succ_self _) hs)
theorem s_GR_tellPending {l : Launch} {G : jj_G} {X : sy_X} {K o N d : Nat} {x1 x2 : Int32} {h : jj_H} (hG : sy_G G X) (hx1 : 0 ≤ x1) (hdd : 9 ≤ d) (hs : Sy G X K o N h) : jj_Q l G y_GR_tellPending d [.ref (X.2.2.1 12), .int x1, .int x2] h (sy_F 0 true G X K o N) :=
  jj_Q.of (by decide +kernel) (Nat.le_of_ble_eq_true rfl) (b_GR_tellPending_0 hG hx1 hdd hs)
set_option maxRecDepth 100000 in
set_option maxHeartbeats 4000000 in
theorem b_GR_rowOfSigns_18 {l : Launch} {G : jj_G} {X : sy_X} {K o N d : Nat} (hG : sy_G G X) (hdd : 11 ≤ d) : ∀ (n : Nat) (x1 : Int32) (x2 : Int32) (x3 : Int32) (h : jj_H), (2147483647 - x3.toInt).toNat < n → Sy G X K o N h → jj_P l G y_GR_rowOfSigns d (sy_F 0 true G X K o N) 18 [some (.ref (X.2.2.1 12)), some (.int x1), some (.int x2), some (.int x3)] [] h := by
  intro n
  induction n with
  | zero => intro x1 x2 x3 h hn; exact absurd hn (Nat.not_lt_zero _)
  | succ n ih =>
    intro x1 x2 x3 h hn hs
    refine jj_iload_n (j := 3) (by decide +kernel) rfl ?_
    refine jj_iload_n (j := 2) (by decide +kernel) rfl ?_
    refine jj_icmp_ge (off := 28) (tgt := 48) (by decide +kernel) (by decide) (fun c1 => ?_) (fun c1 => ?_)
    · skip
      refine jj_aload_n (j := 0) (by decide +kernel) rfl ?_
      refine jj_iconst (n := 4) (v := 4) (by decide +kernel) (by decide) ?_
      refine jj_iconst (n := 0) (v := 0) (by decide +kernel) (by decide) ?_
      refine jj_iload_n (j := 2) (by decide +kernel) rfl ?_
      refine sy_cv (s_CU_tell (d := d - 1) hG (by omega) hs) (fun o1 h1 hC => jj_callU ok_CU_tell ml_GR_64 sm_GR_CU_tell rfl im_CU_tell se_GR_CU_tell_u (by decide +kernel) (hs.rcGR hG.2) rfl (by omega) (Nat.le_of_ble_eq_true rfl) hC) rfl (fun _ _ _ q => ⟨rfl, rfl, _, q⟩) (fun h hs => ?_)
      exact jj_vret (by decide +kernel) rfl ⟨rfl, hs⟩
    · skip
      have hdec := up_lt (Int32.not_le.mp c1) hn
      refine jj_aload_n (j := 0) (by decide +kernel) rfl ?_
      refine jj_iconst (n := 3) (v := 3) (by decide +kernel) (by decide) ?_
      refine jj_aload_n (j := 0) (by decide +kernel) rfl ?_
      obtain ⟨ki, va, pl, fa, fp, ne, hg⟩ := hs.gr hG.2
      refine jj_getfield 0 ck_GR fl_GR_9 (by decide) (by decide +kernel) hg rfl ?_
      refine jj_iload_n (j := 1) (by decide +kernel) rfl ?_
      refine jj_iload_n (j := 3) (by decide +kernel) rfl ?_
      refine jj_iadd (by decide +kernel) ?_
      refine sy_ci (s_row_at (d := d - 1) (t := 0) hG.1 hs (by decide) (sy_o hG.2)) (fun o1 h1 hC => jj_callV ok_IR_at ml_GR_140 im_IR_at se_IR_IR_at (by decide +kernel) (hs.rcR (t := 0) (by decide) (sy_o hG.2)) rfl (by omega) (Nat.le_of_ble_eq_true rfl) hC) (by decide) rfl (fun q => by cases q) (fun v2 h _ hs => ?_)
      refine sy_ci (s_ST_signOf (d := d - 1) hG (by omega) hs) (fun o1 h1 hC => jj_callSN (index := 250) (host := "SourceTree") ok_ST_signOf (List.mem_of_getElem? (i := 5) rfl) st_ST_signOf (by decide +kernel) rfl (by omega) (Nat.le_of_ble_eq_true rfl) hC) (by decide) rfl (fun q => by cases q) (fun v3 h _ hs => ?_)
      refine jj_iconst (n := 0) (v := 0) (by decide +kernel) (by decide) ?_
      refine sy_cv (s_CU_tell (d := d - 1) hG (by omega) hs) (fun o1 h1 hC => jj_callU ok_CU_tell ml_GR_64 sm_GR_CU_tell rfl im_CU_tell se_GR_CU_tell_u (by decide +kernel) (hs.rcGR hG.2) rfl (by omega) (Nat.le_of_ble_eq_true rfl) hC) rfl (fun _ _ _ q => ⟨rfl, rfl, _, q⟩) (fun h hs => ?_)
      refine jj_iinc (i := 3) (n := 1) (by decide +kernel) rfl rfl (by decide) rfl ?_
      refine jj_goto (off := (-27)) (tgt := 18) (by decide +kernel) (by decide) ?_
      exact jj_wk (js_s (js_s (js_s (js_s js_0)))) (ih _ _ _ _ hdec hs)
set_option maxRecDepth 100000 in
set_option maxHeartbeats 4000000 in
theorem b_GR_rowOfSigns_0 {l : Launch} {G : jj_G} {X : sy_X} {K o N d : Nat} {h : jj_H} (hG : sy_G G X) (hdd : 11 ≤ d) (hs : Sy G X K o N h) : jj_P l G y_GR_rowOfSigns d (sy_F 0 true G X K o N) 0 [some (.ref (X.2.2.1 12)), none, none, none] [] h := by
  refine jj_aload_n (j := 0) (by decide +kernel) rfl ?_
  obtain ⟨ki, va, pl, fa, fp, ne, hg⟩ := hs.gr hG.2
  refine jj_getfield 5 ck_GR fl_GR_247 (by decide) (by decide +kernel) hg rfl ?_
  refine jj_iconst (n := 1) (v := 1) (by decide +kernel) (by decide) ?_
  refine jj_iadd (by decide +kernel) ?_
  refine jj_istore_n (j := 1) (by decide +kernel) (by decide) rfl ?_
  refine jj_aload_n (j := 0) (by decide +kernel) rfl ?_
  obtain ⟨ki, va, pl, fa, fp, ne, hg⟩ := hs.gr hG.2
  refine jj_getfield 4 ck_GR fl_GR_162 (by decide) (by decide +kernel) hg rfl ?_
  refine jj_istore_n (j := 2) (by decide +kernel) (by decide) rfl ?_
  refine jj_aload_n (j := 0) (by decide +kernel) rfl ?_
  refine sy_cv (s_CU_take (d := d - 1) hG (by omega) hs) (fun o1 h1 hC => jj_callU ok_CU_take ml_GR_134 sm_GR_CU_take rfl im_CU_take se_GR_CU_take_u (by decide +kernel) (hs.rcGR hG.2) rfl (by omega) (Nat.le_of_ble_eq_true rfl) hC) rfl (fun _ _ _ q => ⟨rfl, rfl, _, q⟩) (fun h hs => ?_)
  refine jj_iconst (n := 0) (v := 0) (by decide +kernel) (by decide) ?_
  refine jj_istore_n (j := 3) (by decide +kernel) (by decide) rfl ?_
  exact jj_wk (js_s (js_s (js_s (js_s js_0)))) (b_GR_rowOfSigns_18 hG hdd _ _ _ _ _ (Nat.lt_succ_self _) hs)
theorem s_GR_rowOfSigns {l : Launch} {G : jj_G} {X : sy_X} {K o N d : Nat} {h : jj_H} (hG : sy_G G X) (hdd : 11 ≤ d) (hs : Sy G X K o N h) : jj_Q l G y_GR_rowOfSigns d [.ref (X.2.2.1 12)] h (sy_F 0 true G X K o N) :=
  jj_Q.of (by decide +kernel) (Nat.le_of_ble_eq_true rfl) (b_GR_rowOfSigns_0 hG hdd hs)
set_option maxRecDepth 100000 in
set_option maxHeartbeats 4000000 in
theorem b_GR_behindName_122 {l : Launch} {G : jj_G} {X : sy_X} {K o N d : Nat} {m : Nat} {x1 x2 : Int32} {h : jj_H} {x3 x4 : Int32} (hG : sy_G G X) (ho : o + m = 40) (hE : 0 < m → sy_Ex l G X N (m - 1)) (hdd : 12 + 10 * m ≤ d) (hm : 0 < m) (hs : Sy G X K (o + 1) N h) : jj_P l G y_GR_behindName d (sy_F 0 true G X K o N) 122 [some (.ref (X.2.2.1 12)), some (.int x1), some (.int x2), some (.int x3), some (.int x4), none] [] h := by
  refine jj_aload_n (j := 0) (by decide +kernel) rfl ?_
  refine jj_bipush (n := 41) (v := 41) (by decide +kernel) (by decide) ?_
  refine sy_cv (s_CU_expect (d := d - 1) hG (by omega) hs) (fun o1 h1 hC => jj_callU ok_CU_expect ml_GR_102 sm_GR_CU_expect rfl im_CU_expect se_GR_CU_expect_u (by decide +kernel) (hs.rcGR hG.2) rfl (by omega) (Nat.le_of_ble_eq_true rfl) hC) rfl (fun _ _ _ q => ⟨rfl, rfl, _, q⟩) (fun h hs => ?_)
  refine jj_aload_n (j := 0) (by decide +kernel) rfl ?_
  refine sy_cv (s_CU_leave (d := d - 1) hG.2 hs) (fun o1 h1 hC => jj_callU ok_CU_leave ml_GR_205 sm_GR_CU_leave rfl im_CU_leave se_GR_CU_leave_u (by decide +kernel) (hs.rcGR hG.2) rfl (by omega) (Nat.le_of_ble_eq_true rfl) hC) rfl (fun q => by cases q) (fun h hs => ?_)
  refine jj_aload_n (j := 0) (by decide +kernel) rfl ?_
  refine jj_iload_n (j := 3) (by decide +kernel) rfl ?_
  refine jj_iload_n (j := 1) (by decide +kernel) rfl ?_
  refine jj_iload (i := 4) (by decide +kernel) rfl ?_
  refine sy_cv (s_CU_tell (d := d - 1) hG (by omega) hs) (fun o1 h1 hC => jj_callU ok_CU_tell ml_GR_64 sm_GR_CU_tell rfl im_CU_tell se_GR_CU_tell_u (by decide +kernel) (hs.rcGR hG.2) rfl (by omega) (Nat.le_of_ble_eq_true rfl) hC) rfl (fun _ _ _ q => ⟨rfl, rfl, _, q⟩) (fun h hs => ?_)
  exact jj_vret (by decide +kernel) rfl ⟨rfl, hs⟩
set_option maxRecDepth 100000 in
set_option maxHeartbeats 4000000 in
theorem b_GR_behindName_92 {l : Launch} {G : jj_G} {X : sy_X} {K o N d : Nat} {m : Nat} {x1 x2 : Int32} (hG : sy_G G X) (ho : o + m = 40) (hE : 0 < m → sy_Ex l G X N (m - 1)) (hdd : 12 + 10 * m ≤ d) (hm : 0 < m) : ∀ (n : Nat) (x3 : Int32) (x4 : Int32) (x5 : Int32) (h : jj_H), (2147483647 - x5.toInt).toNat < n → Sy G X K (o + 1) N h → jj_P l G y_GR_behindName d (sy_F 0 true G X K o N) 92 [some (.ref (X.2.2.1 12)), some (.int x1), some (.int x2), some (.int x3), some (.int x4), some (.int x5)] [] h := by
  intro n
  induction n with
  | zero => intro x3 x4 x5 h hn; exact absurd hn (Nat.not_lt_zero _)
  | succ n ih =>
    intro x3 x4 x5 h hn hs
    refine jj_iload (i := 5) (by decide +kernel) rfl ?_
    refine jj_sipush (n := 16385) (v := 16385) (by decide +kernel) (by decide) ?_
    refine jj_icmp_ge (off := 25) (tgt := 122) (by decide +kernel) (by decide) (fun c1 => ?_) (fun c1 => ?_)
    · skip
      exact jj_wk (js_s (js_s (js_s (js_s (js_s (js_n js_0)))))) (b_GR_behindName_122 hG ho hE hdd hm hs)
    · skip
      have hdec := up_lt (Int32.not_le.mp c1) hn
      refine jj_aload_n (j := 0) (by decide +kernel) rfl ?_
      refine jj_bipush (n := 44) (v := 44) (by decide +kernel) (by decide) ?_
      refine sy_ci (s_CU_accept (d := d - 1) hG (by omega) hs) (fun o1 h1 hC => jj_callU ok_CU_accept ml_GR_80 sm_GR_CU_accept rfl im_CU_accept se_GR_CU_accept_u (by decide +kernel) (hs.rcGR hG.2) rfl (by omega) (Nat.le_of_ble_eq_true rfl) hC) (by decide) rfl (fun _ _ _ q => ⟨rfl, rfl, _, q⟩) (fun v2 h _ hs => ?_)
      refine jj_if_eq (off := 16) (tgt := 122) (by decide +kernel) (by decide) (fun c3 => ?_) (fun c3 => ?_)
      · skip
        exact jj_wk (js_s (js_s (js_s (js_s (js_s (js_n js_0)))))) (b_GR_behindName_122 hG ho hE hdd hm hs)
      · skip
        refine jj_aload_n (j := 0) (by decide +kernel) rfl ?_
        refine sy_cv (hE hm _ _ _ (d - 1) (by omega) hs (by omega)) (fun o1 h1 hC => jj_callV ok_GR_expression ml_GR_149 im_GR_expression se_GR_GR_expression (by decide +kernel) (hs.rcGR hG.2) rfl (by omega) (Nat.le_of_ble_eq_true rfl) hC) rfl (fun _ _ _ q => ⟨rfl, rfl, _, q⟩) (fun h hs => ?_)
        refine jj_iinc (i := 4) (n := 1) (by decide +kernel) rfl rfl (by decide) rfl ?_
        refine jj_iinc (i := 5) (n := 1) (by decide +kernel) rfl rfl (by decide) rfl ?_
        refine jj_goto (off := (-27)) (tgt := 92) (by decide +kernel) (by decide) ?_
        exact jj_wk (js_s (js_s (js_s (js_s (js_s (js_s js_0)))))) (ih _ _ _ _ hdec hs)
set_option maxRecDepth 100000 in
set_option maxHeartbeats 4000000 in
theorem b_GR_behindName_61 {l : Launch} {G : jj_G} {X : sy_X} {K o N d : Nat} {m : Nat} {x1 x2 : Int32} {h : jj_H} {y0 : Int32} (hG : sy_G G X) (ho : o + m = 40) (hE : 0 < m → sy_Ex l G X N (m - 1)) (hdd : 12 + 10 * m ≤ d) (hm : 0 < m) (hs : Sy G X K (o + 1) N h) : jj_P l G y_GR_behindName d (sy_F 0 true G X K o N) 61 [some (.ref (X.2.2.1 12)), some (.int x1), some (.int x2), none, none, none] [.int y0] h := by
  refine jj_istore_n (j := 3) (by decide +kernel) (by decide) rfl ?_
  refine jj_iconst (n := 1) (v := 1) (by decide +kernel) (by decide) ?_
  refine jj_istore (i := 4) (by decide +kernel) (by decide) rfl ?_
  refine jj_iload_n (j := 3) (by decide +kernel) rfl ?_
  refine jj_bipush (n := 22) (v := 22) (by decide +kernel) (by decide) ?_
  refine jj_icmp_eq (off := 17) (tgt := 85) (by decide +kernel) (by decide) (fun c1 => ?_) (fun c1 => ?_)
  · skip
    refine jj_iload_n (j := 2) (by decide +kernel) rfl ?_
    refine jj_if_eq (off := 36) (tgt := 122) (by decide +kernel) (by decide) (fun c2 => ?_) (fun c2 => ?_)
    · skip
      exact jj_wk (js_s (js_s (js_s (js_s (js_s (js_n js_0)))))) (b_GR_behindName_122 hG ho hE hdd hm hs)
    · skip
      refine jj_iconst (n := 0) (v := 0) (by decide +kernel) (by decide) ?_
      refine jj_istore (i := 5) (by decide +kernel) (by decide) rfl ?_
      exact jj_wk (js_s (js_s (js_s (js_s (js_s (js_s js_0)))))) (b_GR_behindName_92 hG ho hE hdd hm _ _ _ _ _ (Nat.lt_succ_self _) hs)
  · skip
    refine jj_aload_n (j := 0) (by decide +kernel) rfl ?_
    refine sy_cv (s_CU_take (d := d - 1) hG (by omega) hs) (fun o1 h1 hC => jj_callU ok_CU_take ml_GR_134 sm_GR_CU_take rfl im_CU_take se_GR_CU_take_u (by decide +kernel) (hs.rcGR hG.2) rfl (by omega) (Nat.le_of_ble_eq_true rfl) hC) rfl (fun _ _ _ q => ⟨rfl, rfl, _, q⟩) (fun h hs => ?_)
    refine jj_aload_n (j := 0) (by decide +kernel) rfl ?_
    refine sy_cv (hE hm _ _ _ (d - 1) (by omega) hs (by omega)) (fun o1 h1 hC => jj_callV ok_GR_expression ml_GR_149 im_GR_expression se_GR_GR_expression (by decide +kernel) (hs.rcGR hG.2) rfl (by omega) (Nat.le_of_ble_eq_true rfl) hC) rfl (fun _ _ _ q => ⟨rfl, rfl, _, q⟩) (fun h hs => ?_)
    refine jj_iconst (n := 2) (v := 2) (by decide +kernel) (by decide) ?_
    refine jj_istore (i := 4) (by decide +kernel) (by decide) rfl ?_
    refine jj_goto (off := 40) (tgt := 122) (by decide +kernel) (by decide) ?_
    exact jj_wk (js_s (js_s (js_s (js_s (js_s (js_n js_0)))))) (b_GR_behindName_122 hG ho hE hdd hm hs)
set_option maxRecDepth 100000 in
set_option maxHeartbeats 4000000 in
theorem b_GR_behindName_0 {l : Launch} {G : jj_G} {X : sy_X} {K o N d : Nat} {m : Nat} {x1 x2 : Int32} {h : jj_H} (hG : sy_G G X) (ho : o + m = 40) (hE : 0 < m → sy_Ex l G X N (m - 1)) (hdd : 12 + 10 * m ≤ d) (hs : Sy G X K o N h) : jj_P l G y_GR_behindName d (sy_F 0 true G X K o N) 0 [some (.ref (X.2.2.1 12)), some (.int x1), some (.int x2), none, none, none] [] h := by
  refine jj_aload_n (j := 0) (by decide +kernel) rfl ?_
  obtain ⟨ki, va, pl, fa, fp, ne, hg⟩ := hs.gr hG.2
  refine jj_getfield 3 ck_GR fl_GR_68 (by decide) (by decide +kernel) hg rfl ?_
  refine jj_bipush (n := 40) (v := 40) (by decide +kernel) (by decide) ?_
  refine jj_icmp_eq (off := 11) (tgt := 17) (by decide +kernel) (by decide) (fun c1 => ?_) (fun c1 => ?_)
  · skip
    refine jj_aload_n (j := 0) (by decide +kernel) rfl ?_
    refine sy_ce (s_CU_enter (d := d - 1) (m := m) hG.2 (by omega) hs (by omega)) (fun o1 h1 hC => jj_callU ok_CU_enter ml_GR_202 sm_GR_CU_enter rfl im_CU_enter se_GR_CU_enter_u (by decide +kernel) (hs.rcGR hG.2) rfl (by omega) (Nat.le_of_ble_eq_true rfl) hC) rfl (fun _ _ q => ⟨rfl, rfl, _, q⟩) (fun h hm hs => ?_)
    refine jj_aload_n (j := 0) (by decide +kernel) rfl ?_
    refine sy_cv (s_CU_take (d := d - 1) hG (by omega) hs) (fun o1 h1 hC => jj_callU ok_CU_take ml_GR_134 sm_GR_CU_take rfl im_CU_take se_GR_CU_take_u (by decide +kernel) (hs.rcGR hG.2) rfl (by omega) (Nat.le_of_ble_eq_true rfl) hC) rfl (fun _ _ _ q => ⟨rfl, rfl, _, q⟩) (fun h hs => ?_)
    refine jj_aload_n (j := 0) (by decide +kernel) rfl ?_
    refine sy_cv (hE hm _ _ _ (d - 1) (by omega) hs (by omega)) (fun o1 h1 hC => jj_callV ok_GR_expression ml_GR_149 im_GR_expression se_GR_GR_expression (by decide +kernel) (hs.rcGR hG.2) rfl (by omega) (Nat.le_of_ble_eq_true rfl) hC) rfl (fun _ _ _ q => ⟨rfl, rfl, _, q⟩) (fun h hs => ?_)
    refine jj_aload_n (j := 0) (by decide +kernel) rfl ?_
    obtain ⟨ki, va, pl, fa, fp, ne, hg⟩ := hs.gr hG.2
    refine jj_getfield 3 ck_GR fl_GR_68 (by decide) (by decide +kernel) hg rfl ?_
    refine jj_sipush (n := 302) (v := 302) (by decide +kernel) (by decide) ?_
    refine jj_icmp_ne (off := 8) (tgt := 44) (by decide +kernel) (by decide) (fun c2 => ?_) (fun c2 => ?_)
    · skip
      refine jj_aload_n (j := 0) (by decide +kernel) rfl ?_
      obtain ⟨ki, va, pl, fa, fp, ne, hg⟩ := hs.gr hG.2
      refine jj_getfield 3 ck_GR fl_GR_68 (by decide) (by decide +kernel) hg rfl ?_
      refine jj_sipush (n := 264) (v := 264) (by decide +kernel) (by decide) ?_
      refine jj_icmp_ne (off := 8) (tgt := 59) (by decide +kernel) (by decide) (fun c3 => ?_) (fun c3 => ?_)
      · skip
        refine jj_bipush (n := 22) (v := 22) (by decide +kernel) (by decide) ?_
        exact jj_wk (js_s (js_s (js_s (js_n (js_n (js_n js_0)))))) (b_GR_behindName_61 hG ho hE hdd hm hs)
      · skip
        refine jj_bipush (n := 24) (v := 24) (by decide +kernel) (by decide) ?_
        refine jj_goto (off := 5) (tgt := 61) (by decide +kernel) (by decide) ?_
        exact jj_wk (js_s (js_s (js_s (js_n (js_n (js_n js_0)))))) (b_GR_behindName_61 hG ho hE hdd hm hs)
    · skip
      refine jj_bipush (n := 23) (v := 23) (by decide +kernel) (by decide) ?_
      refine jj_goto (off := 20) (tgt := 61) (by decide +kernel) (by decide) ?_
      exact jj_wk (js_s (js_s (js_s (js_n (js_n (js_n js_0)))))) (b_GR_behindName_61 hG ho hE hdd hm hs)
  · skip
    refine jj_aload_n (j := 0) (by decide +kernel) rfl ?_
    refine jj_iconst (n := 1) (v := 1) (by decide +kernel) (by decide) ?_
    refine jj_iload_n (j := 1) (by decide +kernel) rfl ?_
    refine jj_iconst (n := 0) (v := 0) (by decide +kernel) (by decide) ?_
    refine sy_cv (s_CU_tell (d := d - 1) hG (by omega) hs) (fun o1 h1 hC => jj_callU ok_CU_tell ml_GR_64 sm_GR_CU_tell rfl im_CU_tell se_GR_CU_tell_u (by decide +kernel) (hs.rcGR hG.2) rfl (by omega) (Nat.le_of_ble_eq_true rfl) hC) rfl (fun _ _ _ q => ⟨rfl, rfl, _, q⟩) (fun h hs => ?_)
    exact jj_vret (by decide +kernel) rfl ⟨rfl, hs⟩
theorem s_GR_behindName {l : Launch} {G : jj_G} {X : sy_X} {K o N d : Nat} {m : Nat} {x1 x2 : Int32} {h : jj_H} (hG : sy_G G X) (ho : o + m = 40) (hE : 0 < m → sy_Ex l G X N (m - 1)) (hdd : 12 + 10 * m ≤ d) (hs : Sy G X K o N h) : jj_Q l G y_GR_behindName d [.ref (X.2.2.1 12), .int x1, .int x2] h (sy_F 0 true G X K o N) :=
  jj_Q.of (by decide +kernel) (Nat.le_of_ble_eq_true rfl) (b_GR_behindName_0 hG ho hE hdd hs)
set_option maxRecDepth 100000 in
set_option maxHeartbeats 4000000 in
theorem b_GR_primary_0 {l : Launch} {G : jj_G} {X : sy_X} {K o N d : Nat} {m : Nat} {h : jj_H} (hG : sy_G G X) (ho : o + m = 40) (hE : 0 < m → sy_Ex l G X N (m - 1)) (hdd : 13 + 10 * m ≤ d) (hs : Sy G X K o N h) : jj_P l G y_GR_primary d (sy_F 0 true G X K o N) 0 [some (.ref (X.2.2.1 12)), none] [] h := by
  refine jj_aload_n (j := 0) (by decide +kernel) rfl ?_
  obtain ⟨ki, va, pl, fa, fp, ne, hg⟩ := hs.gr hG.2
  refine jj_getfield 4 ck_GR fl_GR_162 (by decide) (by decide +kernel) hg rfl ?_
  refine jj_istore_n (j := 1) (by decide +kernel) (by decide) rfl ?_
  refine jj_aload_n (j := 0) (by decide +kernel) rfl ?_
  obtain ⟨ki, va, pl, fa, fp, ne, hg⟩ := hs.gr hG.2
  refine jj_getfield 3 ck_GR fl_GR_68 (by decide) (by decide +kernel) hg rfl ?_
  refine jj_lookupAny (dflt := 154) (ps := #[(40, 51), (140, 111), (141, 76), (142, 90), (143, 104)]) (len := 51) (ts := [60, 85, 99, 113, 120, 163]) (by decide +kernel) (by decide) (by decide +kernel) (jt_c ?_ (jt_c ?_ (jt_c ?_ (jt_c ?_ (jt_c ?_ (jt_c ?_ jt_0))))))
  · skip
    refine jj_aload_n (j := 0) (by decide +kernel) rfl ?_
    refine sy_ce (s_CU_enter (d := d - 1) (m := m) hG.2 (by omega) hs (by omega)) (fun o1 h1 hC => jj_callU ok_CU_enter ml_GR_202 sm_GR_CU_enter rfl im_CU_enter se_GR_CU_enter_u (by decide +kernel) (hs.rcGR hG.2) rfl (by omega) (Nat.le_of_ble_eq_true rfl) hC) rfl (fun _ _ q => ⟨rfl, rfl, _, q⟩) (fun h hm hs => ?_)
    refine jj_aload_n (j := 0) (by decide +kernel) rfl ?_
    refine sy_cv (s_CU_take (d := d - 1) hG (by omega) hs) (fun o1 h1 hC => jj_callU ok_CU_take ml_GR_134 sm_GR_CU_take rfl im_CU_take se_GR_CU_take_u (by decide +kernel) (hs.rcGR hG.2) rfl (by omega) (Nat.le_of_ble_eq_true rfl) hC) rfl (fun _ _ _ q => ⟨rfl, rfl, _, q⟩) (fun h hs => ?_)
    refine jj_aload_n (j := 0) (by decide +kernel) rfl ?_
    refine sy_cv (hE hm _ _ _ (d - 1) (by omega) hs (by omega)) (fun o1 h1 hC => jj_callV ok_GR_expression ml_GR_149 im_GR_expression se_GR_GR_expression (by decide +kernel) (hs.rcGR hG.2) rfl (by omega) (Nat.le_of_ble_eq_true rfl) hC) rfl (fun _ _ _ q => ⟨rfl, rfl, _, q⟩) (fun h hs => ?_)
    refine jj_aload_n (j := 0) (by decide +kernel) rfl ?_
    refine jj_bipush (n := 41) (v := 41) (by decide +kernel) (by decide) ?_
    refine sy_cv (s_CU_expect (d := d - 1) hG (by omega) hs) (fun o1 h1 hC => jj_callU ok_CU_expect ml_GR_102 sm_GR_CU_expect rfl im_CU_expect se_GR_CU_expect_u (by decide +kernel) (hs.rcGR hG.2) rfl (by omega) (Nat.le_of_ble_eq_true rfl) hC) rfl (fun _ _ _ q => ⟨rfl, rfl, _, q⟩) (fun h hs => ?_)
    refine jj_aload_n (j := 0) (by decide +kernel) rfl ?_
    refine sy_cv (s_CU_leave (d := d - 1) hG.2 hs) (fun o1 h1 hC => jj_callU ok_CU_leave ml_GR_205 sm_GR_CU_leave rfl im_CU_leave se_GR_CU_leave_u (by decide +kernel) (hs.rcGR hG.2) rfl (by omega) (Nat.le_of_ble_eq_true rfl) hC) rfl (fun q => by cases q) (fun h hs => ?_)
    refine jj_goto (off := 86) (tgt := 168) (by decide +kernel) (by decide) ?_
    exact jj_vret (by decide +kernel) rfl ⟨rfl, hs⟩
  · skip
    refine jj_aload_n (j := 0) (by decide +kernel) rfl ?_
    refine sy_cv (s_CU_take (d := d - 1) hG (by omega) hs) (fun o1 h1 hC => jj_callU ok_CU_take ml_GR_134 sm_GR_CU_take rfl im_CU_take se_GR_CU_take_u (by decide +kernel) (hs.rcGR hG.2) rfl (by omega) (Nat.le_of_ble_eq_true rfl) hC) rfl (fun _ _ _ q => ⟨rfl, rfl, _, q⟩) (fun h hs => ?_)
    refine jj_aload_n (j := 0) (by decide +kernel) rfl ?_
    refine jj_iconst (n := 2) (v := 2) (by decide +kernel) (by decide) ?_
    refine jj_iload_n (j := 1) (by decide +kernel) rfl ?_
    refine jj_iconst (n := 0) (v := 0) (by decide +kernel) (by decide) ?_
    refine sy_cv (s_CU_tell (d := d - 1) hG (by omega) hs) (fun o1 h1 hC => jj_callU ok_CU_tell ml_GR_64 sm_GR_CU_tell rfl im_CU_tell se_GR_CU_tell_u (by decide +kernel) (hs.rcGR hG.2) rfl (by omega) (Nat.le_of_ble_eq_true rfl) hC) rfl (fun _ _ _ q => ⟨rfl, rfl, _, q⟩) (fun h hs => ?_)
    refine jj_goto (off := 72) (tgt := 168) (by decide +kernel) (by decide) ?_
    exact jj_vret (by decide +kernel) rfl ⟨rfl, hs⟩
  · skip
    refine jj_aload_n (j := 0) (by decide +kernel) rfl ?_
    refine sy_cv (s_CU_take (d := d - 1) hG (by omega) hs) (fun o1 h1 hC => jj_callU ok_CU_take ml_GR_134 sm_GR_CU_take rfl im_CU_take se_GR_CU_take_u (by decide +kernel) (hs.rcGR hG.2) rfl (by omega) (Nat.le_of_ble_eq_true rfl) hC) rfl (fun _ _ _ q => ⟨rfl, rfl, _, q⟩) (fun h hs => ?_)
    refine jj_aload_n (j := 0) (by decide +kernel) rfl ?_
    refine jj_iconst (n := 3) (v := 3) (by decide +kernel) (by decide) ?_
    refine jj_iload_n (j := 1) (by decide +kernel) rfl ?_
    refine jj_iconst (n := 0) (v := 0) (by decide +kernel) (by decide) ?_
    refine sy_cv (s_CU_tell (d := d - 1) hG (by omega) hs) (fun o1 h1 hC => jj_callU ok_CU_tell ml_GR_64 sm_GR_CU_tell rfl im_CU_tell se_GR_CU_tell_u (by decide +kernel) (hs.rcGR hG.2) rfl (by omega) (Nat.le_of_ble_eq_true rfl) hC) rfl (fun _ _ _ q => ⟨rfl, rfl, _, q⟩) (fun h hs => ?_)
    refine jj_goto (off := 58) (tgt := 168) (by decide +kernel) (by decide) ?_
    exact jj_vret (by decide +kernel) rfl ⟨rfl, hs⟩
  · skip
    refine jj_aload_n (j := 0) (by decide +kernel) rfl ?_
    refine sy_cv (s_GR_rowOfSigns (d := d - 1) hG (by omega) hs) (fun o1 h1 hC => jj_callV ok_GR_rowOfSigns ml_GR_244 im_GR_rowOfSigns se_GR_GR_rowOfSigns (by decide +kernel) (hs.rcGR hG.2) rfl (by omega) (Nat.le_of_ble_eq_true rfl) hC) rfl (fun _ _ _ q => ⟨rfl, rfl, _, q⟩) (fun h hs => ?_)
    refine jj_goto (off := 51) (tgt := 168) (by decide +kernel) (by decide) ?_
    exact jj_vret (by decide +kernel) rfl ⟨rfl, hs⟩
  · skip
    refine jj_aload_n (j := 0) (by decide +kernel) rfl ?_
    refine sy_cv (s_CU_take (d := d - 1) hG (by omega) hs) (fun o1 h1 hC => jj_callU ok_CU_take ml_GR_134 sm_GR_CU_take rfl im_CU_take se_GR_CU_take_u (by decide +kernel) (hs.rcGR hG.2) rfl (by omega) (Nat.le_of_ble_eq_true rfl) hC) rfl (fun _ _ _ q => ⟨rfl, rfl, _, q⟩) (fun h hs => ?_)
    refine jj_aload_n (j := 0) (by decide +kernel) rfl ?_
    refine jj_bipush (n := 39) (v := 39) (by decide +kernel) (by decide) ?_
    refine sy_ci (s_CU_accept (d := d - 1) hG (by omega) hs) (fun o1 h1 hC => jj_callU ok_CU_accept ml_GR_80 sm_GR_CU_accept rfl im_CU_accept se_GR_CU_accept_u (by decide +kernel) (hs.rcGR hG.2) rfl (by omega) (Nat.le_of_ble_eq_true rfl) hC) (by decide) rfl (fun _ _ _ q => ⟨rfl, rfl, _, q⟩) (fun v1 h _ hs => ?_)
    refine jj_if_eq (off := 24) (tgt := 154) (by decide +kernel) (by decide) (fun c2 => ?_) (fun c2 => ?_)
    · skip
      refine jj_aload_n (j := 0) (by decide +kernel) rfl ?_
      refine jj_iload_n (j := 1) (by decide +kernel) rfl ?_
      refine jj_iconst (n := 1) (v := 1) (by decide +kernel) (by decide) ?_
      refine sy_cv (s_GR_behindName (d := d - 1) (m := m) hG (by omega) hE (by omega) hs) (fun o1 h1 hC => jj_callV ok_GR_behindName ml_GR_186 im_GR_behindName se_GR_GR_behindName (by decide +kernel) (hs.rcGR hG.2) rfl (by omega) (Nat.le_of_ble_eq_true rfl) hC) rfl (fun _ _ _ q => ⟨rfl, rfl, _, q⟩) (fun h hs => ?_)
      refine jj_goto (off := 8) (tgt := 168) (by decide +kernel) (by decide) ?_
      exact jj_vret (by decide +kernel) rfl ⟨rfl, hs⟩
    · skip
      refine jj_aload_n (j := 0) (by decide +kernel) rfl ?_
      refine jj_iconst (n := 1) (v := 1) (by decide +kernel) (by decide) ?_
      refine jj_aload_n (j := 0) (by decide +kernel) rfl ?_
      refine sy_ci (s_CU_takeName (d := d - 1) hG (by omega) hs) (fun o1 h1 hC => jj_callU ok_CU_takeName ml_GR_61 sm_GR_CU_takeName rfl im_CU_takeName se_GR_CU_takeName_u (by decide +kernel) (hs.rcGR hG.2) rfl (by omega) (Nat.le_of_ble_eq_true rfl) hC) (by decide) rfl (fun _ _ _ q => ⟨rfl, rfl, _, q⟩) (fun v3 h _ hs => ?_)
      refine jj_iconst (n := 0) (v := 0) (by decide +kernel) (by decide) ?_
      refine sy_cv (s_CU_tell (d := d - 1) hG (by omega) hs) (fun o1 h1 hC => jj_callU ok_CU_tell ml_GR_64 sm_GR_CU_tell rfl im_CU_tell se_GR_CU_tell_u (by decide +kernel) (hs.rcGR hG.2) rfl (by omega) (Nat.le_of_ble_eq_true rfl) hC) rfl (fun _ _ _ q => ⟨rfl, rfl, _, q⟩) (fun h hs => ?_)
      refine jj_aload_n (j := 0) (by decide +kernel) rfl ?_
      refine jj_bipush (n := 25) (v := 25) (by decide +kernel) (by decide) ?_
      refine jj_iload_n (j := 1) (by decide +kernel) rfl ?_
      refine jj_iconst (n := 1) (v := 1) (by decide +kernel) (by decide) ?_
      refine sy_cv (s_CU_tell (d := d - 1) hG (by omega) hs) (fun o1 h1 hC => jj_callU ok_CU_tell ml_GR_64 sm_GR_CU_tell rfl im_CU_tell se_GR_CU_tell_u (by decide +kernel) (hs.rcGR hG.2) rfl (by omega) (Nat.le_of_ble_eq_true rfl) hC) rfl (fun _ _ _ q => ⟨rfl, rfl, _, q⟩) (fun h hs => ?_)
      refine jj_goto (off := 17) (tgt := 168) (by decide +kernel) (by decide) ?_
      exact jj_vret (by decide +kernel) rfl ⟨rfl, hs⟩
  · skip
    refine jj_aload_n (j := 0) (by decide +kernel) rfl ?_
    refine jj_iconst (n := 3) (v := 3) (by decide +kernel) (by decide) ?_
    exact sy_cx (s_CU_raise (d := d - 1) hG.2 hs (by omega)) (fun o1 h1 hC => jj_callU ok_CU_raise ml_GR_93 sm_GR_CU_raise rfl im_CU_raise se_GR_CU_raise_u (by decide +kernel) (hs.rcGR hG.2) rfl (by omega) (Nat.le_of_ble_eq_true rfl) hC) rfl (fun _ _ q => ⟨rfl, rfl, _, q⟩)
theorem s_GR_primary {l : Launch} {G : jj_G} {X : sy_X} {K o N d : Nat} {m : Nat} {h : jj_H} (hG : sy_G G X) (ho : o + m = 40) (hE : 0 < m → sy_Ex l G X N (m - 1)) (hdd : 13 + 10 * m ≤ d) (hs : Sy G X K o N h) : jj_Q l G y_GR_primary d [.ref (X.2.2.1 12)] h (sy_F 0 true G X K o N) :=
  jj_Q.of (by decide +kernel) (Nat.le_of_ble_eq_true rfl) (b_GR_primary_0 hG ho hE hdd hs)
set_option maxRecDepth 100000 in
set_option maxHeartbeats 4000000 in
theorem b_GR_factor_0 {l : Launch} {G : jj_G} {X : sy_X} {K o N d : Nat} {m : Nat} {h : jj_H} (hG : sy_G G X) (ho : o + m = 40) (hE : 0 < m → sy_Ex l G X N (m - 1)) (hdd : 14 + 10 * m ≤ d) (hs : Sy G X K o N h) : jj_P l G y_GR_factor d (sy_F 0 true G X K o N) 0 [some (.ref (X.2.2.1 12))] [] h := by
  refine jj_aload_n (j := 0) (by decide +kernel) rfl ?_
  refine jj_sipush (n := 283) (v := 283) (by decide +kernel) (by decide) ?_
  refine sy_ci (s_CU_accept (d := d - 1) hG (by omega) hs) (fun o1 h1 hC => jj_callU ok_CU_accept ml_GR_80 sm_GR_CU_accept rfl im_CU_accept se_GR_CU_accept_u (by decide +kernel) (hs.rcGR hG.2) rfl (by omega) (Nat.le_of_ble_eq_true rfl) hC) (by decide) rfl (fun _ _ _ q => ⟨rfl, rfl, _, q⟩) (fun v1 h _ hs => ?_)
  refine jj_if_eq (off := 18) (tgt := 25) (by decide +kernel) (by decide) (fun c2 => ?_) (fun c2 => ?_)
  · skip
    refine jj_aload_n (j := 0) (by decide +kernel) rfl ?_
    refine jj_sipush (n := 256) (v := 256) (by decide +kernel) (by decide) ?_
    refine sy_ci (s_CU_accept (d := d - 1) hG (by omega) hs) (fun o1 h1 hC => jj_callU ok_CU_accept ml_GR_80 sm_GR_CU_accept rfl im_CU_accept se_GR_CU_accept_u (by decide +kernel) (hs.rcGR hG.2) rfl (by omega) (Nat.le_of_ble_eq_true rfl) hC) (by decide) rfl (fun _ _ _ q => ⟨rfl, rfl, _, q⟩) (fun v3 h _ hs => ?_)
    refine jj_if_eq (off := 18) (tgt := 50) (by decide +kernel) (by decide) (fun c4 => ?_) (fun c4 => ?_)
    · skip
      refine jj_aload_n (j := 0) (by decide +kernel) rfl ?_
      refine sy_cv (s_GR_primary (d := d - 1) (m := m) hG (by omega) hE (by omega) hs) (fun o1 h1 hC => jj_callV ok_GR_primary ml_GR_196 im_GR_primary se_GR_GR_primary (by decide +kernel) (hs.rcGR hG.2) rfl (by omega) (Nat.le_of_ble_eq_true rfl) hC) rfl (fun _ _ _ q => ⟨rfl, rfl, _, q⟩) (fun h hs => ?_)
      exact jj_vret (by decide +kernel) rfl ⟨rfl, hs⟩
    · skip
      refine jj_aload_n (j := 0) (by decide +kernel) rfl ?_
      refine sy_cv (s_GR_primary (d := d - 1) (m := m) hG (by omega) hE (by omega) hs) (fun o1 h1 hC => jj_callV ok_GR_primary ml_GR_196 im_GR_primary se_GR_GR_primary (by decide +kernel) (hs.rcGR hG.2) rfl (by omega) (Nat.le_of_ble_eq_true rfl) hC) rfl (fun _ _ _ q => ⟨rfl, rfl, _, q⟩) (fun h hs => ?_)
      refine jj_aload_n (j := 0) (by decide +kernel) rfl ?_
      refine jj_bipush (n := 20) (v := 20) (by decide +kernel) (by decide) ?_
      refine jj_iconst (n := 3) (v := 3) (by decide +kernel) (by decide) ?_
      refine jj_iconst (n := 1) (v := 1) (by decide +kernel) (by decide) ?_
      refine sy_cv (s_CU_tell (d := d - 1) hG (by omega) hs) (fun o1 h1 hC => jj_callU ok_CU_tell ml_GR_64 sm_GR_CU_tell rfl im_CU_tell se_GR_CU_tell_u (by decide +kernel) (hs.rcGR hG.2) rfl (by omega) (Nat.le_of_ble_eq_true rfl) hC) rfl (fun _ _ _ q => ⟨rfl, rfl, _, q⟩) (fun h hs => ?_)
      refine jj_goto (off := 7) (tgt := 54) (by decide +kernel) (by decide) ?_
      exact jj_vret (by decide +kernel) rfl ⟨rfl, hs⟩
  · skip
    refine jj_aload_n (j := 0) (by decide +kernel) rfl ?_
    refine sy_cv (s_GR_primary (d := d - 1) (m := m) hG (by omega) hE (by omega) hs) (fun o1 h1 hC => jj_callV ok_GR_primary ml_GR_196 im_GR_primary se_GR_GR_primary (by decide +kernel) (hs.rcGR hG.2) rfl (by omega) (Nat.le_of_ble_eq_true rfl) hC) rfl (fun _ _ _ q => ⟨rfl, rfl, _, q⟩) (fun h hs => ?_)
    refine jj_aload_n (j := 0) (by decide +kernel) rfl ?_
    refine jj_bipush (n := 20) (v := 20) (by decide +kernel) (by decide) ?_
    refine jj_iconst (n := 0) (v := 0) (by decide +kernel) (by decide) ?_
    refine jj_iconst (n := 1) (v := 1) (by decide +kernel) (by decide) ?_
    refine sy_cv (s_CU_tell (d := d - 1) hG (by omega) hs) (fun o1 h1 hC => jj_callU ok_CU_tell ml_GR_64 sm_GR_CU_tell rfl im_CU_tell se_GR_CU_tell_u (by decide +kernel) (hs.rcGR hG.2) rfl (by omega) (Nat.le_of_ble_eq_true rfl) hC) rfl (fun _ _ _ q => ⟨rfl, rfl, _, q⟩) (fun h hs => ?_)
    refine jj_goto (off := 32) (tgt := 54) (by decide +kernel) (by decide) ?_
    exact jj_vret (by decide +kernel) rfl ⟨rfl, hs⟩
theorem s_GR_factor {l : Launch} {G : jj_G} {X : sy_X} {K o N d : Nat} {m : Nat} {h : jj_H} (hG : sy_G G X) (ho : o + m = 40) (hE : 0 < m → sy_Ex l G X N (m - 1)) (hdd : 14 + 10 * m ≤ d) (hs : Sy G X K o N h) : jj_Q l G y_GR_factor d [.ref (X.2.2.1 12)] h (sy_F 0 true G X K o N) :=
  jj_Q.of (by decide +kernel) (Nat.le_of_ble_eq_true rfl) (b_GR_factor_0 hG ho hE hdd hs)
set_option maxRecDepth 100000 in
set_option maxHeartbeats 4000000 in
theorem b_GR_expression_27 {l : Launch} {G : jj_G} {X : sy_X} {K o N d : Nat} {m : Nat} {h : jj_H} {x1 x2 x3 : Int32} (hG : sy_G G X) (ho : o + m = 40) (hE : 0 < m → sy_Ex l G X N (m - 1)) (hdd : 15 + 10 * m ≤ d) (hx1 : 0 ≤ x1) {n : Nat} (ih : ∀ (x1 : Int32) (x2 : Int32) (x3 : Int32) (h : jj_H), (2147483647 - x3.toInt).toNat < n → 0 ≤ x1 → Sy G X K o N h → jj_P l G y_GR_expression d (sy_F 0 true G X K o N) 12 [some (.ref (X.2.2.1 12)), some (.int x1), some (.int x2), some (.int x3), none, none] [] h) (hdec : (2147483647 - (x3 + Int32.ofInt 1).toInt).toNat < n) (hs : Sy G X K o N h) : jj_P l G y_GR_expression d (sy_F 0 true G X K o N) 27 [some (.ref (X.2.2.1 12)), some (.int x1), some (.int x2), some (.int x3), none, none] [] h := by
  refine jj_aload_n (j := 0) (by decide +kernel) rfl ?_
  refine sy_cv (s_GR_factor (d := d - 1) (m := m) hG (by omega) hE (by omega) hs) (fun o1 h1 hC => jj_callV ok_GR_factor ml_GR_232 im_GR_factor se_GR_GR_factor (by decide +kernel) (hs.rcGR hG.2) rfl (by omega) (Nat.le_of_ble_eq_true rfl) hC) rfl (fun _ _ _ q => ⟨rfl, rfl, _, q⟩) (fun h hs => ?_)
  refine jj_aload_n (j := 0) (by decide +kernel) rfl ?_
  refine jj_iload_n (j := 1) (by decide +kernel) rfl ?_
  refine sy_ci (s_GR_operatorThatJoins (d := d - 1) hG (by omega) hs) (fun o1 h1 hC => jj_callV ok_GR_operatorThatJoins ml_GR_235 im_GR_operatorThatJoins se_GR_GR_operatorThatJoins (by decide +kernel) (hs.rcGR hG.2) rfl (by omega) (Nat.le_of_ble_eq_true rfl) hC) (by decide) rfl (fun q => by cases q) (fun v1 h _ hs => ?_)
  refine jj_istore (i := 4) (by decide +kernel) (by decide) rfl ?_
  refine jj_iload (i := 4) (by decide +kernel) rfl ?_
  refine sy_ci (s_GR_levelOf (d := d - 1) hG (by omega) hs) (fun o1 h1 hC => jj_callS ok_GR_levelOf ml_GR_238 st_GR_levelOf (by decide +kernel) rfl (by omega) (Nat.le_of_ble_eq_true rfl) hC) (by decide) rfl (fun q => by cases q) (fun v2 h _ hs => ?_)
  refine jj_istore (i := 5) (by decide +kernel) (by decide) rfl ?_
  refine jj_aload_n (j := 0) (by decide +kernel) rfl ?_
  refine jj_iload_n (j := 1) (by decide +kernel) rfl ?_
  refine jj_iload (i := 5) (by decide +kernel) rfl ?_
  refine sy_cv (s_GR_tellPending (d := d - 1) hG hx1 (by omega) hs) (fun o1 h1 hC => jj_callV ok_GR_tellPending ml_GR_241 im_GR_tellPending se_GR_GR_tellPending (by decide +kernel) (hs.rcGR hG.2) rfl (by omega) (Nat.le_of_ble_eq_true rfl) hC) rfl (fun _ _ _ q => ⟨rfl, rfl, _, q⟩) (fun h hs => ?_)
  refine jj_iload (i := 4) (by decide +kernel) rfl ?_
  refine jj_iconst (n := (-1)) (v := (-1)) (by decide +kernel) (by decide) ?_
  refine jj_icmp_ne (off := 4) (tgt := 59) (by decide +kernel) (by decide) (fun c3 => ?_) (fun c3 => ?_)
  · skip
    refine jj_aload_n (j := 0) (by decide +kernel) rfl ?_
    obtain ⟨ki, va, pl, fa, fp, ne, hg⟩ := hs.gr hG.2
    refine jj_getfield 2 ck_GR fl_GR_23 (by decide) (by decide +kernel) hg rfl ?_
    refine jj_iload (i := 4) (by decide +kernel) rfl ?_
    refine sy_cv (s_row_add (d := d - 1) (t := 6) hG.1 hs (by decide) (sy_o hG.2) (by decide) (by omega)) (fun o1 h1 hC => jj_callV ok_IR_add ml_GR_137 im_IR_add se_IR_IR_add (by decide +kernel) (hs.rcR (t := 6) (by decide) (sy_o hG.2)) rfl (by omega) (Nat.le_of_ble_eq_true rfl) hC) rfl (fun q => by cases q) (fun h hs => ?_)
    refine jj_aload_n (j := 0) (by decide +kernel) rfl ?_
    refine sy_cv (s_CU_take (d := d - 1) hG (by omega) hs) (fun o1 h1 hC => jj_callU ok_CU_take ml_GR_134 sm_GR_CU_take rfl im_CU_take se_GR_CU_take_u (by decide +kernel) (hs.rcGR hG.2) rfl (by omega) (Nat.le_of_ble_eq_true rfl) hC) rfl (fun _ _ _ q => ⟨rfl, rfl, _, q⟩) (fun h hs => ?_)
    refine jj_iload (i := 5) (by decide +kernel) rfl ?_
    refine jj_iconst (n := 4) (v := 4) (by decide +kernel) (by decide) ?_
    refine jj_icmp_ge (off := 7) (tgt := 82) (by decide +kernel) (by decide) (fun c4 => ?_) (fun c4 => ?_)
    · skip
      refine jj_iconst (n := 0) (v := 0) (by decide +kernel) (by decide) ?_
      refine jj_istore_n (j := 2) (by decide +kernel) (by decide) rfl ?_
      refine jj_iinc (i := 3) (n := 1) (by decide +kernel) rfl rfl (by decide) rfl ?_
      refine jj_goto (off := (-75)) (tgt := 12) (by decide +kernel) (by decide) ?_
      exact jj_wk (js_s (js_s (js_s (js_s (js_n (js_n js_0)))))) (ih _ _ _ _ hdec hx1 hs)
    · skip
      refine jj_iconst (n := 1) (v := 1) (by decide +kernel) (by decide) ?_
      refine jj_goto (off := 4) (tgt := 83) (by decide +kernel) (by decide) ?_
      refine jj_istore_n (j := 2) (by decide +kernel) (by decide) rfl ?_
      refine jj_iinc (i := 3) (n := 1) (by decide +kernel) rfl rfl (by decide) rfl ?_
      refine jj_goto (off := (-75)) (tgt := 12) (by decide +kernel) (by decide) ?_
      exact jj_wk (js_s (js_s (js_s (js_s (js_n (js_n js_0)))))) (ih _ _ _ _ hdec hx1 hs)
  · skip
    exact jj_vret (by decide +kernel) rfl ⟨rfl, hs⟩
set_option maxRecDepth 100000 in
set_option maxHeartbeats 4000000 in
theorem b_GR_expression_12 {l : Launch} {G : jj_G} {X : sy_X} {K o N d : Nat} {m : Nat} (hG : sy_G G X) (ho : o + m = 40) (hE : 0 < m → sy_Ex l G X N (m - 1)) (hdd : 15 + 10 * m ≤ d) : ∀ (n : Nat) (x1 : Int32) (x2 : Int32) (x3 : Int32) (h : jj_H), (2147483647 - x3.toInt).toNat < n → 0 ≤ x1 → Sy G X K o N h → jj_P l G y_GR_expression d (sy_F 0 true G X K o N) 12 [some (.ref (X.2.2.1 12)), some (.int x1), some (.int x2), some (.int x3), none, none] [] h := by
  intro n
  induction n with
  | zero => intro x1 x2 x3 h hn; exact absurd hn (Nat.not_lt_zero _)
  | succ n ih =>
    intro x1 x2 x3 h hn hx1 hs
    refine jj_iload_n (j := 3) (by decide +kernel) rfl ?_
    refine jj_sipush (n := 16385) (v := 16385) (by decide +kernel) (by decide) ?_
    refine jj_icmp_ge (off := 74) (tgt := 90) (by decide +kernel) (by decide) (fun c1 => ?_) (fun c1 => ?_)
    · skip
      exact jj_vret (by decide +kernel) rfl ⟨rfl, hs⟩
    · skip
      have hdec := up_lt (Int32.not_le.mp c1) hn
      refine jj_iload_n (j := 2) (by decide +kernel) rfl ?_
      refine jj_if_eq (off := 7) (tgt := 27) (by decide +kernel) (by decide) (fun c2 => ?_) (fun c2 => ?_)
      · skip
        exact jj_wk (js_s (js_s (js_s (js_s (js_n (js_n js_0)))))) (b_GR_expression_27 hG ho hE hdd hx1 ih hdec hs)
      · skip
        refine jj_aload_n (j := 0) (by decide +kernel) rfl ?_
        refine sy_cv (s_GR_signInFront (d := d - 1) hG (by omega) hs) (fun o1 h1 hC => jj_callV ok_GR_signInFront ml_GR_229 im_GR_signInFront se_GR_GR_signInFront (by decide +kernel) (hs.rcGR hG.2) rfl (by omega) (Nat.le_of_ble_eq_true rfl) hC) rfl (fun _ _ _ q => ⟨rfl, rfl, _, q⟩) (fun h hs => ?_)
        exact jj_wk (js_s (js_s (js_s (js_s (js_n (js_n js_0)))))) (b_GR_expression_27 hG ho hE hdd hx1 ih hdec hs)
set_option maxRecDepth 100000 in
set_option maxHeartbeats 4000000 in
theorem b_GR_expression_0 {l : Launch} {G : jj_G} {X : sy_X} {K o N d : Nat} {m : Nat} {h : jj_H} (hG : sy_G G X) (ho : o + m = 40) (hE : 0 < m → sy_Ex l G X N (m - 1)) (hdd : 15 + 10 * m ≤ d) (hs : Sy G X K o N h) : jj_P l G y_GR_expression d (sy_F 0 true G X K o N) 0 [some (.ref (X.2.2.1 12)), none, none, none, none, none] [] h := by
  refine jj_aload_n (j := 0) (by decide +kernel) rfl ?_
  obtain ⟨ki, va, pl, fa, fp, ne, hg⟩ := hs.gr hG.2
  refine jj_getfield 2 ck_GR fl_GR_23 (by decide) (by decide +kernel) hg rfl ?_
  refine sy_ci (s_row_size (d := d - 1) (t := 6) hs (by decide) (sy_o hG.2)) (fun o1 h1 hC => jj_callV ok_IR_size ml_GR_143 im_IR_size se_IR_IR_size (by decide +kernel) (hs.rcR (t := 6) (by decide) (sy_o hG.2)) rfl (by omega) (Nat.le_of_ble_eq_true rfl) hC) (by decide) rfl (fun q => by cases q) (fun v1 h hv1 hs => ?_)
  refine jj_istore_n (j := 1) (by decide +kernel) (by decide) rfl ?_
  refine jj_iconst (n := 1) (v := 1) (by decide +kernel) (by decide) ?_
  refine jj_istore_n (j := 2) (by decide +kernel) (by decide) rfl ?_
  refine jj_iconst (n := 0) (v := 0) (by decide +kernel) (by decide) ?_
  refine jj_istore_n (j := 3) (by decide +kernel) (by decide) rfl ?_
  exact jj_wk (js_s (js_s (js_s (js_s (js_n (js_n js_0)))))) (b_GR_expression_12 hG ho hE hdd _ _ _ _ _ (Nat.lt_succ_self _) (hv1 rfl) hs)
theorem s_GR_expression {l : Launch} {G : jj_G} {X : sy_X} {K o N d : Nat} {m : Nat} {h : jj_H} (hG : sy_G G X) (ho : o + m = 40) (hE : 0 < m → sy_Ex l G X N (m - 1)) (hdd : 15 + 10 * m ≤ d) (hs : Sy G X K o N h) : jj_Q l G y_GR_expression d [.ref (X.2.2.1 12)] h (sy_F 0 true G X K o N) :=
  jj_Q.of (by decide +kernel) (Nat.le_of_ble_eq_true rfl) (b_GR_expression_0 hG ho hE hdd hs)
theorem expr_all {l : Launch} {G : jj_G} {X : sy_X} {N : Nat} (hG : sy_G G X) : ∀ m, sy_Ex l G X N m := by
  intro m
  induction m with
  | zero => exact fun K o h d ho hs hdd => s_GR_expression hG ho (fun q => absurd q (by decide)) hdd hs
  | succ m ih => exact fun K o h d ho hs hdd => s_GR_expression hG ho (fun _ => ih) hdd hs
end
section
set_option maxRecDepth 100000 in
set_option maxHeartbeats 4000000 in
theorem b_GR_takeDirection_0 {l : Launch} {G : jj_G} {X : sy_X} {K o N d : Nat} {h : jj_H} (hG : sy_G G X) (hdd : 10 ≤ d) (hs : Sy G X K o N h) : jj_P l G y_GR_takeDirection d (sy_F 2 true G X K o N) 0 [some (.ref (X.2.2.1 12))] [] h := by
  refine jj_aload_n (j := 0) (by decide +kernel) rfl ?_
  refine jj_sipush (n := 264) (v := 264) (by decide +kernel) (by decide) ?_
  refine sy_ci (s_CU_accept (d := d - 1) hG (by omega) hs) (fun o1 h1 hC => jj_callU ok_CU_accept ml_GR_80 sm_GR_CU_accept rfl im_CU_accept se_GR_CU_accept_u (by decide +kernel) (hs.rcGR hG.2) rfl (by omega) (Nat.le_of_ble_eq_true rfl) hC) (by decide) rfl (fun _ _ _ q => ⟨rfl, rfl, _, q⟩) (fun v1 h _ hs => ?_)
  refine jj_if_eq (off := 5) (tgt := 12) (by decide +kernel) (by decide) (fun c2 => ?_) (fun c2 => ?_)
  · skip
    refine jj_aload_n (j := 0) (by decide +kernel) rfl ?_
    refine jj_sipush (n := 302) (v := 302) (by decide +kernel) (by decide) ?_
    refine sy_cv (s_CU_expect (d := d - 1) hG (by omega) hs) (fun o1 h1 hC => jj_callU ok_CU_expect ml_GR_102 sm_GR_CU_expect rfl im_CU_expect se_GR_CU_expect_u (by decide +kernel) (hs.rcGR hG.2) rfl (by omega) (Nat.le_of_ble_eq_true rfl) hC) rfl (fun _ _ _ q => ⟨rfl, rfl, _, q⟩) (fun h hs => ?_)
    refine jj_iconst (n := 0) (v := 0) (by decide +kernel) (by decide) ?_
    exact jj_iret .boolean (by decide +kernel) rfl rfl ⟨Or.inr (Or.inl ⟨rfl, Or.inl rfl⟩), hs⟩
  · skip
    refine jj_iconst (n := 1) (v := 1) (by decide +kernel) (by decide) ?_
    exact jj_iret .boolean (by decide +kernel) rfl rfl ⟨Or.inr (Or.inl ⟨rfl, Or.inr rfl⟩), hs⟩
theorem s_GR_takeDirection {l : Launch} {G : jj_G} {X : sy_X} {K o N d : Nat} {h : jj_H} (hG : sy_G G X) (hdd : 10 ≤ d) (hs : Sy G X K o N h) : jj_Q l G y_GR_takeDirection d [.ref (X.2.2.1 12)] h (sy_F 2 true G X K o N) :=
  jj_Q.of (by decide +kernel) (Nat.le_of_ble_eq_true rfl) (b_GR_takeDirection_0 hG hdd hs)
set_option maxRecDepth 100000 in
set_option maxHeartbeats 4000000 in
theorem b_GR_nameBehindEnd_0 {l : Launch} {G : jj_G} {X : sy_X} {K o N d : Nat} {x1 : Int32} {h : jj_H} (hG : sy_G G X) (hdd : 10 ≤ d) (hs : Sy G X K o N h) : jj_P l G y_GR_nameBehindEnd d (sy_F 0 true G X K o N) 0 [some (.ref (X.2.2.1 12)), some (.int x1)] [] h := by
  refine jj_aload_n (j := 0) (by decide +kernel) rfl ?_
  obtain ⟨ki, va, pl, fa, fp, ne, hg⟩ := hs.gr hG.2
  refine jj_getfield 3 ck_GR fl_GR_68 (by decide) (by decide +kernel) hg rfl ?_
  refine jj_sipush (n := 140) (v := 140) (by decide +kernel) (by decide) ?_
  refine jj_icmp_ne (off := 21) (tgt := 28) (by decide +kernel) (by decide) (fun c1 => ?_) (fun c1 => ?_)
  · skip
    exact jj_vret (by decide +kernel) rfl ⟨rfl, hs⟩
  · skip
    refine jj_aload_n (j := 0) (by decide +kernel) rfl ?_
    obtain ⟨ki, va, pl, fa, fp, ne, hg⟩ := hs.gr hG.2
    refine jj_getfield 4 ck_GR fl_GR_162 (by decide) (by decide +kernel) hg rfl ?_
    refine jj_iload_n (j := 1) (by decide +kernel) rfl ?_
    refine jj_icmp_eq (off := 9) (tgt := 24) (by decide +kernel) (by decide) (fun c2 => ?_) (fun c2 => ?_)
    · skip
      refine jj_aload_n (j := 0) (by decide +kernel) rfl ?_
      refine sy_cv (s_CU_take (d := d - 1) hG (by omega) hs) (fun o1 h1 hC => jj_callU ok_CU_take ml_GR_134 sm_GR_CU_take rfl im_CU_take se_GR_CU_take_u (by decide +kernel) (hs.rcGR hG.2) rfl (by omega) (Nat.le_of_ble_eq_true rfl) hC) rfl (fun _ _ _ q => ⟨rfl, rfl, _, q⟩) (fun h hs => ?_)
      exact jj_vret (by decide +kernel) rfl ⟨rfl, hs⟩
    · skip
      refine jj_aload_n (j := 0) (by decide +kernel) rfl ?_
      refine jj_bipush (n := 6) (v := 6) (by decide +kernel) (by decide) ?_
      exact sy_cx (s_CU_raise (d := d - 1) hG.2 hs (by omega)) (fun o1 h1 hC => jj_callU ok_CU_raise ml_GR_93 sm_GR_CU_raise rfl im_CU_raise se_GR_CU_raise_u (by decide +kernel) (hs.rcGR hG.2) rfl (by omega) (Nat.le_of_ble_eq_true rfl) hC) rfl (fun _ _ q => ⟨rfl, rfl, _, q⟩)
theorem s_GR_nameBehindEnd {l : Launch} {G : jj_G} {X : sy_X} {K o N d : Nat} {x1 : Int32} {h : jj_H} (hG : sy_G G X) (hdd : 10 ≤ d) (hs : Sy G X K o N h) : jj_Q l G y_GR_nameBehindEnd d [.ref (X.2.2.1 12), .int x1] h (sy_F 0 true G X K o N) :=
  jj_Q.of (by decide +kernel) (Nat.le_of_ble_eq_true rfl) (b_GR_nameBehindEnd_0 hG hdd hs)
set_option maxRecDepth 100000 in
set_option maxHeartbeats 4000000 in
theorem b_GR_declaredNames_54 {l : Launch} {G : jj_G} {X : sy_X} {K o N d : Nat} {h : jj_H} {x1 : Int32} (hG : sy_G G X) (hdd : 10 ≤ d) (hs : Sy G X K o N h) : jj_P l G y_GR_declaredNames d (sy_F 0 true G X K o N) 54 [some (.ref (X.2.2.1 12)), some (.int x1)] [] h := by
  refine jj_aload_n (j := 0) (by decide +kernel) rfl ?_
  refine jj_bipush (n := 58) (v := 58) (by decide +kernel) (by decide) ?_
  refine sy_cv (s_CU_expect (d := d - 1) hG (by omega) hs) (fun o1 h1 hC => jj_callU ok_CU_expect ml_GR_102 sm_GR_CU_expect rfl im_CU_expect se_GR_CU_expect_u (by decide +kernel) (hs.rcGR hG.2) rfl (by omega) (Nat.le_of_ble_eq_true rfl) hC) rfl (fun _ _ _ q => ⟨rfl, rfl, _, q⟩) (fun h hs => ?_)
  exact jj_vret (by decide +kernel) rfl ⟨rfl, hs⟩
set_option maxRecDepth 100000 in
set_option maxHeartbeats 4000000 in
theorem b_GR_declaredNames_21 {l : Launch} {G : jj_G} {X : sy_X} {K o N d : Nat} (hG : sy_G G X) (hdd : 10 ≤ d) : ∀ (n : Nat) (x1 : Int32) (h : jj_H), (2147483647 - x1.toInt).toNat < n → Sy G X K o N h → jj_P l G y_GR_declaredNames d (sy_F 0 true G X K o N) 21 [some (.ref (X.2.2.1 12)), some (.int x1)] [] h := by
  intro n
  induction n with
  | zero => intro x1 h hn; exact absurd hn (Nat.not_lt_zero _)
  | succ n ih =>
    intro x1 h hn hs
    refine jj_iload_n (j := 1) (by decide +kernel) rfl ?_
    refine jj_sipush (n := 16385) (v := 16385) (by decide +kernel) (by decide) ?_
    refine jj_icmp_ge (off := 29) (tgt := 54) (by decide +kernel) (by decide) (fun c1 => ?_) (fun c1 => ?_)
    · skip
      exact jj_wk (js_s (js_s js_0)) (b_GR_declaredNames_54 hG hdd hs)
    · skip
      have hdec := up_lt (Int32.not_le.mp c1) hn
      refine jj_aload_n (j := 0) (by decide +kernel) rfl ?_
      refine jj_bipush (n := 44) (v := 44) (by decide +kernel) (by decide) ?_
      refine sy_ci (s_CU_accept (d := d - 1) hG (by omega) hs) (fun o1 h1 hC => jj_callU ok_CU_accept ml_GR_80 sm_GR_CU_accept rfl im_CU_accept se_GR_CU_accept_u (by decide +kernel) (hs.rcGR hG.2) rfl (by omega) (Nat.le_of_ble_eq_true rfl) hC) (by decide) rfl (fun _ _ _ q => ⟨rfl, rfl, _, q⟩) (fun v2 h _ hs => ?_)
      refine jj_if_eq (off := 20) (tgt := 54) (by decide +kernel) (by decide) (fun c3 => ?_) (fun c3 => ?_)
      · skip
        exact jj_wk (js_s (js_s js_0)) (b_GR_declaredNames_54 hG hdd hs)
      · skip
        refine jj_aload_n (j := 0) (by decide +kernel) rfl ?_
        obtain ⟨ki, va, pl, fa, fp, ne, hg⟩ := hs.gr hG.2
        refine jj_getfield 1 ck_GR fl_GR_20 (by decide) (by decide +kernel) hg rfl ?_
        refine jj_aload_n (j := 0) (by decide +kernel) rfl ?_
        refine sy_ci (s_CU_takeName (d := d - 1) hG (by omega) hs) (fun o1 h1 hC => jj_callU ok_CU_takeName ml_GR_61 sm_GR_CU_takeName rfl im_CU_takeName se_GR_CU_takeName_u (by decide +kernel) (hs.rcGR hG.2) rfl (by omega) (Nat.le_of_ble_eq_true rfl) hC) (by decide) rfl (fun _ _ _ q => ⟨rfl, rfl, _, q⟩) (fun v4 h _ hs => ?_)
        refine sy_cv (s_row_add (d := d - 1) (t := 5) hG.1 hs (by decide) (sy_o hG.2) (by decide) (by omega)) (fun o1 h1 hC => jj_callV ok_IR_add ml_GR_137 im_IR_add se_IR_IR_add (by decide +kernel) (hs.rcR (t := 5) (by decide) (sy_o hG.2)) rfl (by omega) (Nat.le_of_ble_eq_true rfl) hC) rfl (fun q => by cases q) (fun h hs => ?_)
        refine jj_iinc (i := 1) (n := 1) (by decide +kernel) rfl rfl (by decide) rfl ?_
        refine jj_goto (off := (-30)) (tgt := 21) (by decide +kernel) (by decide) ?_
        exact jj_wk (js_s (js_s js_0)) (ih _ _ hdec hs)
set_option maxRecDepth 100000 in
set_option maxHeartbeats 4000000 in
theorem b_GR_declaredNames_0 {l : Launch} {G : jj_G} {X : sy_X} {K o N d : Nat} {h : jj_H} (hG : sy_G G X) (hdd : 10 ≤ d) (hs : Sy G X K o N h) : jj_P l G y_GR_declaredNames d (sy_F 0 true G X K o N) 0 [some (.ref (X.2.2.1 12)), none] [] h := by
  refine jj_aload_n (j := 0) (by decide +kernel) rfl ?_
  obtain ⟨ki, va, pl, fa, fp, ne, hg⟩ := hs.gr hG.2
  refine jj_getfield 1 ck_GR fl_GR_20 (by decide) (by decide +kernel) hg rfl ?_
  refine jj_iconst (n := 0) (v := 0) (by decide +kernel) (by decide) ?_
  refine sy_cv (s_row_cut (d := d - 1) (t := 5) hs (by decide) (sy_o hG.2) (by decide)) (fun o1 h1 hC => jj_callV ok_IR_cutTo ml_GR_87 im_IR_cutTo se_IR_IR_cutTo (by decide +kernel) (hs.rcR (t := 5) (by decide) (sy_o hG.2)) rfl (by omega) (Nat.le_of_ble_eq_true rfl) hC) rfl (fun q => by cases q) (fun h hs => ?_)
  refine jj_aload_n (j := 0) (by decide +kernel) rfl ?_
  obtain ⟨ki, va, pl, fa, fp, ne, hg⟩ := hs.gr hG.2
  refine jj_getfield 1 ck_GR fl_GR_20 (by decide) (by decide +kernel) hg rfl ?_
  refine jj_aload_n (j := 0) (by decide +kernel) rfl ?_
  refine sy_ci (s_CU_takeName (d := d - 1) hG (by omega) hs) (fun o1 h1 hC => jj_callU ok_CU_takeName ml_GR_61 sm_GR_CU_takeName rfl im_CU_takeName se_GR_CU_takeName_u (by decide +kernel) (hs.rcGR hG.2) rfl (by omega) (Nat.le_of_ble_eq_true rfl) hC) (by decide) rfl (fun _ _ _ q => ⟨rfl, rfl, _, q⟩) (fun v1 h _ hs => ?_)
  refine sy_cv (s_row_add (d := d - 1) (t := 5) hG.1 hs (by decide) (sy_o hG.2) (by decide) (by omega)) (fun o1 h1 hC => jj_callV ok_IR_add ml_GR_137 im_IR_add se_IR_IR_add (by decide +kernel) (hs.rcR (t := 5) (by decide) (sy_o hG.2)) rfl (by omega) (Nat.le_of_ble_eq_true rfl) hC) rfl (fun q => by cases q) (fun h hs => ?_)
  refine jj_iconst (n := 0) (v := 0) (by decide +kernel) (by decide) ?_
  refine jj_istore_n (j := 1) (by decide +kernel) (by decide) rfl ?_
  exact jj_wk (js_s (js_s js_0)) (b_GR_declaredNames_21 hG hdd _ _ _ (Nat.lt_succ_self _) hs)
theorem s_GR_declaredNames {l : Launch} {G : jj_G} {X : sy_X} {K o N d : Nat} {h : jj_H} (hG : sy_G G X) (hdd : 10 ≤ d) (hs : Sy G X K o N h) : jj_Q l G y_GR_declaredNames d [.ref (X.2.2.1 12)] h (sy_F 0 true G X K o N) :=
  jj_Q.of (by decide +kernel) (Nat.le_of_ble_eq_true rfl) (b_GR_declaredNames_0 hG hdd hs)
set_option maxRecDepth 100000 in
set_option maxHeartbeats 4000000 in
theorem b_GR_tellDeclared_23 {l : Launch} {G : jj_G} {X : sy_X} {K o N d : Nat} {x1 x2 x3 : Int32} (hG : sy_G G X) (hdd : 10 ≤ d) : ∀ (n : Nat) (x4 : Int32) (x5 : Int32) (h : jj_H), (2147483647 - x5.toInt).toNat < n → 0 ≤ x4 → Sy G X K o N h → jj_P l G y_GR_tellDeclared d (sy_F 1 true G X K o N) 23 [some (.ref (X.2.2.1 12)), some (.int x1), some (.int x2), some (.int x3), some (.int x4), some (.int x5)] [] h := by
  intro n
  induction n with
  | zero => intro x4 x5 h hn; exact absurd hn (Nat.not_lt_zero _)
  | succ n ih =>
    intro x4 x5 h hn hx4 hs
    refine jj_iload (i := 5) (by decide +kernel) rfl ?_
    refine jj_aload_n (j := 0) (by decide +kernel) rfl ?_
    obtain ⟨ki, va, pl, fa, fp, ne, hg⟩ := hs.gr hG.2
    refine jj_getfield 1 ck_GR fl_GR_20 (by decide) (by decide +kernel) hg rfl ?_
    refine sy_ci (s_row_size (d := d - 1) (t := 5) hs (by decide) (sy_o hG.2)) (fun o1 h1 hC => jj_callV ok_IR_size ml_GR_143 im_IR_size se_IR_IR_size (by decide +kernel) (hs.rcR (t := 5) (by decide) (sy_o hG.2)) rfl (by omega) (Nat.le_of_ble_eq_true rfl) hC) (by decide) rfl (fun q => by cases q) (fun v1 h hv1 hs => ?_)
    refine jj_icmp_ge (off := 31) (tgt := 63) (by decide +kernel) (by decide) (fun c2 => ?_) (fun c2 => ?_)
    · skip
      refine jj_aload_n (j := 0) (by decide +kernel) rfl ?_
      obtain ⟨ki, va, pl, fa, fp, ne, hg⟩ := hs.gr hG.2
      refine jj_getfield 1 ck_GR fl_GR_20 (by decide) (by decide +kernel) hg rfl ?_
      refine sy_ci (s_row_size (d := d - 1) (t := 5) hs (by decide) (sy_o hG.2)) (fun o1 h1 hC => jj_callV ok_IR_size ml_GR_143 im_IR_size se_IR_IR_size (by decide +kernel) (hs.rcR (t := 5) (by decide) (sy_o hG.2)) rfl (by omega) (Nat.le_of_ble_eq_true rfl) hC) (by decide) rfl (fun q => by cases q) (fun v3 h hv3 hs => ?_)
      exact jj_iret .int (by decide +kernel) rfl rfl ⟨Or.inl rfl, hs⟩
    · skip
      have hdec := up_lt (Int32.not_le.mp c2) hn
      refine jj_aload_n (j := 0) (by decide +kernel) rfl ?_
      refine jj_iload_n (j := 3) (by decide +kernel) rfl ?_
      refine jj_iload (i := 4) (by decide +kernel) rfl ?_
      refine sy_cv (s_CU_tellAgain (d := d - 1) hG (by omega) hs) (fun o1 h1 hC => jj_callU ok_CU_tellAgain ml_GR_146 sm_GR_CU_tellAgain rfl im_CU_tellAgain se_GR_CU_tellAgain_u (by decide +kernel) (hs.rcGR hG.2) rfl (by omega) (Nat.le_of_ble_eq_true rfl) hC) rfl (fun _ _ _ q => ⟨rfl, rfl, _, q⟩) (fun h hs => ?_)
      refine jj_aload_n (j := 0) (by decide +kernel) rfl ?_
      refine jj_iload_n (j := 1) (by decide +kernel) rfl ?_
      refine jj_aload_n (j := 0) (by decide +kernel) rfl ?_
      obtain ⟨ki, va, pl, fa, fp, ne, hg⟩ := hs.gr hG.2
      refine jj_getfield 1 ck_GR fl_GR_20 (by decide) (by decide +kernel) hg rfl ?_
      refine jj_iload (i := 5) (by decide +kernel) rfl ?_
      refine sy_ci (s_row_at (d := d - 1) (t := 5) hG.1 hs (by decide) (sy_o hG.2)) (fun o1 h1 hC => jj_callV ok_IR_at ml_GR_140 im_IR_at se_IR_IR_at (by decide +kernel) (hs.rcR (t := 5) (by decide) (sy_o hG.2)) rfl (by omega) (Nat.le_of_ble_eq_true rfl) hC) (by decide) rfl (fun q => by cases q) (fun v4 h _ hs => ?_)
      refine jj_iload_n (j := 2) (by decide +kernel) rfl ?_
      refine sy_cv (s_CU_tell (d := d - 1) hG (by omega) hs) (fun o1 h1 hC => jj_callU ok_CU_tell ml_GR_64 sm_GR_CU_tell rfl im_CU_tell se_GR_CU_tell_u (by decide +kernel) (hs.rcGR hG.2) rfl (by omega) (Nat.le_of_ble_eq_true rfl) hC) rfl (fun _ _ _ q => ⟨rfl, rfl, _, q⟩) (fun h hs => ?_)
      refine jj_iinc (i := 5) (n := 1) (by decide +kernel) rfl rfl (by decide) rfl ?_
      refine jj_goto (off := (-37)) (tgt := 23) (by decide +kernel) (by decide) ?_
      exact jj_wk (js_s (js_s (js_s (js_s (js_s (js_s js_0)))))) (ih _ _ _ hdec hx4 hs)
set_option maxRecDepth 100000 in
set_option maxHeartbeats 4000000 in
theorem b_GR_tellDeclared_0 {l : Launch} {G : jj_G} {X : sy_X} {K o N d : Nat} {x1 x2 x3 : Int32} {h : jj_H} (hG : sy_G G X) (hdd : 10 ≤ d) (hs : Sy G X K o N h) : jj_P l G y_GR_tellDeclared d (sy_F 1 true G X K o N) 0 [some (.ref (X.2.2.1 12)), some (.int x1), some (.int x2), some (.int x3), none, none] [] h := by
  refine jj_aload_n (j := 0) (by decide +kernel) rfl ?_
  refine sy_ci (s_CU_told (d := d - 1) hG (by omega) hs) (fun o1 h1 hC => jj_callU ok_CU_told ml_GR_121 sm_GR_CU_told rfl im_CU_told se_GR_CU_told_u (by decide +kernel) (hs.rcGR hG.2) rfl (by omega) (Nat.le_of_ble_eq_true rfl) hC) (by decide) rfl (fun q => by cases q) (fun v1 h hv1 hs => ?_)
  refine jj_istore (i := 4) (by decide +kernel) (by decide) rfl ?_
  refine jj_aload_n (j := 0) (by decide +kernel) rfl ?_
  refine jj_iload_n (j := 1) (by decide +kernel) rfl ?_
  refine jj_aload_n (j := 0) (by decide +kernel) rfl ?_
  obtain ⟨ki, va, pl, fa, fp, ne, hg⟩ := hs.gr hG.2
  refine jj_getfield 1 ck_GR fl_GR_20 (by decide) (by decide +kernel) hg rfl ?_
  refine jj_iconst (n := 0) (v := 0) (by decide +kernel) (by decide) ?_
  refine sy_ci (s_row_at (d := d - 1) (t := 5) hG.1 hs (by decide) (sy_o hG.2)) (fun o1 h1 hC => jj_callV ok_IR_at ml_GR_140 im_IR_at se_IR_IR_at (by decide +kernel) (hs.rcR (t := 5) (by decide) (sy_o hG.2)) rfl (by omega) (Nat.le_of_ble_eq_true rfl) hC) (by decide) rfl (fun q => by cases q) (fun v2 h _ hs => ?_)
  refine jj_iload_n (j := 2) (by decide +kernel) rfl ?_
  refine sy_cv (s_CU_tell (d := d - 1) hG (by omega) hs) (fun o1 h1 hC => jj_callU ok_CU_tell ml_GR_64 sm_GR_CU_tell rfl im_CU_tell se_GR_CU_tell_u (by decide +kernel) (hs.rcGR hG.2) rfl (by omega) (Nat.le_of_ble_eq_true rfl) hC) rfl (fun _ _ _ q => ⟨rfl, rfl, _, q⟩) (fun h hs => ?_)
  refine jj_iconst (n := 1) (v := 1) (by decide +kernel) (by decide) ?_
  refine jj_istore (i := 5) (by decide +kernel) (by decide) rfl ?_
  exact jj_wk (js_s (js_s (js_s (js_s (js_s (js_s js_0)))))) (b_GR_tellDeclared_23 hG hdd _ _ _ _ (Nat.lt_succ_self _) (hv1 rfl) hs)
theorem s_GR_tellDeclared {l : Launch} {G : jj_G} {X : sy_X} {K o N d : Nat} {x1 x2 x3 : Int32} {h : jj_H} (hG : sy_G G X) (hdd : 10 ≤ d) (hs : Sy G X K o N h) : jj_Q l G y_GR_tellDeclared d [.ref (X.2.2.1 12), .int x1, .int x2, .int x3] h (sy_F 1 true G X K o N) :=
  jj_Q.of (by decide +kernel) (Nat.le_of_ble_eq_true rfl) (b_GR_tellDeclared_0 hG hdd hs)
set_option maxRecDepth 100000 in
set_option maxHeartbeats 4000000 in
theorem b_GR_expressionBehind_0 {l : Launch} {G : jj_G} {X : sy_X} {K o N d : Nat} {m : Nat} {x1 : Int32} {h : jj_H} (hG : sy_G G X) (ho : o + m = 40) (hdd : 16 + 10 * m ≤ d) (hs : Sy G X K o N h) : jj_P l G y_GR_expressionBehind d (sy_F 0 true G X K o N) 0 [some (.ref (X.2.2.1 12)), some (.int x1)] [] h := by
  refine jj_aload_n (j := 0) (by decide +kernel) rfl ?_
  refine jj_iload_n (j := 1) (by decide +kernel) rfl ?_
  refine sy_ci (s_CU_accept (d := d - 1) hG (by omega) hs) (fun o1 h1 hC => jj_callU ok_CU_accept ml_GR_80 sm_GR_CU_accept rfl im_CU_accept se_GR_CU_accept_u (by decide +kernel) (hs.rcGR hG.2) rfl (by omega) (Nat.le_of_ble_eq_true rfl) hC) (by decide) rfl (fun _ _ _ q => ⟨rfl, rfl, _, q⟩) (fun v1 h _ hs => ?_)
  refine jj_if_eq (off := 10) (tgt := 15) (by decide +kernel) (by decide) (fun c2 => ?_) (fun c2 => ?_)
  · skip
    refine jj_aload_n (j := 0) (by decide +kernel) rfl ?_
    refine sy_cv (s_CU_tellNothing (d := d - 1) hG (by omega) hs) (fun o1 h1 hC => jj_callU ok_CU_tellNothing ml_GR_152 sm_GR_CU_tellNothing rfl im_CU_tellNothing se_GR_CU_tellNothing_u (by decide +kernel) (hs.rcGR hG.2) rfl (by omega) (Nat.le_of_ble_eq_true rfl) hC) rfl (fun _ _ _ q => ⟨rfl, rfl, _, q⟩) (fun h hs => ?_)
    exact jj_vret (by decide +kernel) rfl ⟨rfl, hs⟩
  · skip
    refine jj_aload_n (j := 0) (by decide +kernel) rfl ?_
    refine sy_cv (expr_all hG m _ _ _ (d - 1) (by omega) hs (by omega)) (fun o1 h1 hC => jj_callV ok_GR_expression ml_GR_149 im_GR_expression se_GR_GR_expression (by decide +kernel) (hs.rcGR hG.2) rfl (by omega) (Nat.le_of_ble_eq_true rfl) hC) rfl (fun _ _ _ q => ⟨rfl, rfl, _, q⟩) (fun h hs => ?_)
    refine jj_goto (off := 7) (tgt := 19) (by decide +kernel) (by decide) ?_
    exact jj_vret (by decide +kernel) rfl ⟨rfl, hs⟩
theorem s_GR_expressionBehind {l : Launch} {G : jj_G} {X : sy_X} {K o N d : Nat} {m : Nat} {x1 : Int32} {h : jj_H} (hG : sy_G G X) (ho : o + m = 40) (hdd : 16 + 10 * m ≤ d) (hs : Sy G X K o N h) : jj_Q l G y_GR_expressionBehind d [.ref (X.2.2.1 12), .int x1] h (sy_F 0 true G X K o N) :=
  jj_Q.of (by decide +kernel) (Nat.le_of_ble_eq_true rfl) (b_GR_expressionBehind_0 hG ho hdd hs)
set_option maxRecDepth 100000 in
set_option maxHeartbeats 4000000 in
theorem b_GR_type_95 {l : Launch} {G : jj_G} {X : sy_X} {K o N d : Nat} {m : Nat} {h : jj_H} {x1 : Int32} (hG : sy_G G X) (ho : o + m = 40) (hdd : 16 + 10 * m ≤ d) (hs : Sy G X K o N h) : jj_P l G y_GR_type d (sy_F 0 true G X K o N) 95 [some (.ref (X.2.2.1 12)), some (.int x1), none] [] h := by
  refine jj_aload_n (j := 0) (by decide +kernel) rfl ?_
  refine jj_bipush (n := 10) (v := 10) (by decide +kernel) (by decide) ?_
  refine jj_iload_n (j := 1) (by decide +kernel) rfl ?_
  refine jj_iconst (n := 0) (v := 0) (by decide +kernel) (by decide) ?_
  refine sy_cv (s_CU_tell (d := d - 1) hG (by omega) hs) (fun o1 h1 hC => jj_callU ok_CU_tell ml_GR_64 sm_GR_CU_tell rfl im_CU_tell se_GR_CU_tell_u (by decide +kernel) (hs.rcGR hG.2) rfl (by omega) (Nat.le_of_ble_eq_true rfl) hC) rfl (fun _ _ _ q => ⟨rfl, rfl, _, q⟩) (fun h hs => ?_)
  exact jj_vret (by decide +kernel) rfl ⟨rfl, hs⟩
set_option maxRecDepth 100000 in
set_option maxHeartbeats 4000000 in
theorem b_GR_type_47 {l : Launch} {G : jj_G} {X : sy_X} {K o N d : Nat} {m : Nat} {h : jj_H} {x1 x2 y1 : Int32} (hG : sy_G G X) (ho : o + m = 40) (hdd : 16 + 10 * m ≤ d) (hs : Sy G X K o N h) : jj_P l G y_GR_type d (sy_F 0 true G X K o N) 47 [some (.ref (X.2.2.1 12)), some (.int x1), some (.int x2)] [.int y1, .ref (X.2.2.1 12)] h := by
  refine jj_iconst (n := 5) (v := 5) (by decide +kernel) (by decide) ?_
  refine jj_iconst (n := 2) (v := 2) (by decide +kernel) (by decide) ?_
  refine sy_cv (s_CU_tell (d := d - 1) hG (by omega) hs) (fun o1 h1 hC => jj_callU ok_CU_tell ml_GR_64 sm_GR_CU_tell rfl im_CU_tell se_GR_CU_tell_u (by decide +kernel) (hs.rcGR hG.2) rfl (by omega) (Nat.le_of_ble_eq_true rfl) hC) rfl (fun _ _ _ q => ⟨rfl, rfl, _, q⟩) (fun h hs => ?_)
  refine jj_goto (off := 51) (tgt := 103) (by decide +kernel) (by decide) ?_
  exact jj_vret (by decide +kernel) rfl ⟨rfl, hs⟩
set_option maxRecDepth 100000 in
set_option maxHeartbeats 4000000 in
theorem b_GR_type_0 {l : Launch} {G : jj_G} {X : sy_X} {K o N d : Nat} {m : Nat} {h : jj_H} (hG : sy_G G X) (ho : o + m = 40) (hdd : 16 + 10 * m ≤ d) (hs : Sy G X K o N h) : jj_P l G y_GR_type d (sy_F 0 true G X K o N) 0 [some (.ref (X.2.2.1 12)), none, none] [] h := by
  refine jj_aload_n (j := 0) (by decide +kernel) rfl ?_
  refine sy_ci (s_CU_takeName (d := d - 1) hG (by omega) hs) (fun o1 h1 hC => jj_callU ok_CU_takeName ml_GR_61 sm_GR_CU_takeName rfl im_CU_takeName se_GR_CU_takeName_u (by decide +kernel) (hs.rcGR hG.2) rfl (by omega) (Nat.le_of_ble_eq_true rfl) hC) (by decide) rfl (fun _ _ _ q => ⟨rfl, rfl, _, q⟩) (fun v1 h _ hs => ?_)
  refine jj_istore_n (j := 1) (by decide +kernel) (by decide) rfl ?_
  refine jj_iload_n (j := 1) (by decide +kernel) rfl ?_
  refine jj_iconst (n := 5) (v := 5) (by decide +kernel) (by decide) ?_
  refine jj_icmp_ne (off := 48) (tgt := 55) (by decide +kernel) (by decide) (fun c2 => ?_) (fun c2 => ?_)
  · skip
    refine jj_iload_n (j := 1) (by decide +kernel) rfl ?_
    refine jj_if_ne (off := 39) (tgt := 95) (by decide +kernel) (by decide) (fun c3 => ?_) (fun c3 => ?_)
    · skip
      exact jj_wk (js_s (js_s (js_n js_0))) (b_GR_type_95 hG ho hdd hs)
    · skip
      refine jj_aload_n (j := 0) (by decide +kernel) rfl ?_
      refine jj_sipush (n := 293) (v := 293) (by decide +kernel) (by decide) ?_
      refine sy_ci (s_CU_accept (d := d - 1) hG (by omega) hs) (fun o1 h1 hC => jj_callU ok_CU_accept ml_GR_80 sm_GR_CU_accept rfl im_CU_accept se_GR_CU_accept_u (by decide +kernel) (hs.rcGR hG.2) rfl (by omega) (Nat.le_of_ble_eq_true rfl) hC) (by decide) rfl (fun _ _ _ q => ⟨rfl, rfl, _, q⟩) (fun v4 h _ hs => ?_)
      refine jj_if_eq (off := 29) (tgt := 95) (by decide +kernel) (by decide) (fun c5 => ?_) (fun c5 => ?_)
      · skip
        exact jj_wk (js_s (js_s (js_n js_0))) (b_GR_type_95 hG ho hdd hs)
      · skip
        refine jj_aload_n (j := 0) (by decide +kernel) rfl ?_
        refine sy_cv (expr_all hG m _ _ _ (d - 1) (by omega) hs (by omega)) (fun o1 h1 hC => jj_callV ok_GR_expression ml_GR_149 im_GR_expression se_GR_GR_expression (by decide +kernel) (hs.rcGR hG.2) rfl (by omega) (Nat.le_of_ble_eq_true rfl) hC) rfl (fun _ _ _ q => ⟨rfl, rfl, _, q⟩) (fun h hs => ?_)
        refine jj_aload_n (j := 0) (by decide +kernel) rfl ?_
        refine jj_sipush (n := 302) (v := 302) (by decide +kernel) (by decide) ?_
        refine sy_cv (s_CU_expect (d := d - 1) hG (by omega) hs) (fun o1 h1 hC => jj_callU ok_CU_expect ml_GR_102 sm_GR_CU_expect rfl im_CU_expect se_GR_CU_expect_u (by decide +kernel) (hs.rcGR hG.2) rfl (by omega) (Nat.le_of_ble_eq_true rfl) hC) rfl (fun _ _ _ q => ⟨rfl, rfl, _, q⟩) (fun h hs => ?_)
        refine jj_aload_n (j := 0) (by decide +kernel) rfl ?_
        refine sy_cv (expr_all hG m _ _ _ (d - 1) (by omega) hs (by omega)) (fun o1 h1 hC => jj_callV ok_GR_expression ml_GR_149 im_GR_expression se_GR_GR_expression (by decide +kernel) (hs.rcGR hG.2) rfl (by omega) (Nat.le_of_ble_eq_true rfl) hC) rfl (fun _ _ _ q => ⟨rfl, rfl, _, q⟩) (fun h hs => ?_)
        refine jj_aload_n (j := 0) (by decide +kernel) rfl ?_
        refine jj_bipush (n := 11) (v := 11) (by decide +kernel) (by decide) ?_
        refine jj_iconst (n := 0) (v := 0) (by decide +kernel) (by decide) ?_
        refine jj_iconst (n := 2) (v := 2) (by decide +kernel) (by decide) ?_
        refine sy_cv (s_CU_tell (d := d - 1) hG (by omega) hs) (fun o1 h1 hC => jj_callU ok_CU_tell ml_GR_64 sm_GR_CU_tell rfl im_CU_tell se_GR_CU_tell_u (by decide +kernel) (hs.rcGR hG.2) rfl (by omega) (Nat.le_of_ble_eq_true rfl) hC) rfl (fun _ _ _ q => ⟨rfl, rfl, _, q⟩) (fun h hs => ?_)
        refine jj_goto (off := 11) (tgt := 103) (by decide +kernel) (by decide) ?_
        exact jj_vret (by decide +kernel) rfl ⟨rfl, hs⟩
  · skip
    refine jj_aload_n (j := 0) (by decide +kernel) rfl ?_
    refine jj_bipush (n := 40) (v := 40) (by decide +kernel) (by decide) ?_
    refine sy_cv (s_CU_expect (d := d - 1) hG (by omega) hs) (fun o1 h1 hC => jj_callU ok_CU_expect ml_GR_102 sm_GR_CU_expect rfl im_CU_expect se_GR_CU_expect_u (by decide +kernel) (hs.rcGR hG.2) rfl (by omega) (Nat.le_of_ble_eq_true rfl) hC) rfl (fun _ _ _ q => ⟨rfl, rfl, _, q⟩) (fun h hs => ?_)
    refine jj_aload_n (j := 0) (by decide +kernel) rfl ?_
    refine sy_cv (expr_all hG m _ _ _ (d - 1) (by omega) hs (by omega)) (fun o1 h1 hC => jj_callV ok_GR_expression ml_GR_149 im_GR_expression se_GR_GR_expression (by decide +kernel) (hs.rcGR hG.2) rfl (by omega) (Nat.le_of_ble_eq_true rfl) hC) rfl (fun _ _ _ q => ⟨rfl, rfl, _, q⟩) (fun h hs => ?_)
    refine jj_aload_n (j := 0) (by decide +kernel) rfl ?_
    refine sy_ci (s_GR_takeDirection (d := d - 1) hG (by omega) hs) (fun o1 h1 hC => jj_callV ok_GR_takeDirection ml_GR_155 im_GR_takeDirection se_GR_GR_takeDirection (by decide +kernel) (hs.rcGR hG.2) rfl (by omega) (Nat.le_of_ble_eq_true rfl) hC) (by decide) rfl (fun _ _ _ q => ⟨rfl, rfl, _, q⟩) (fun v6 h _ hs => ?_)
    refine jj_istore_n (j := 2) (by decide +kernel) (by decide) rfl ?_
    refine jj_aload_n (j := 0) (by decide +kernel) rfl ?_
    refine sy_cv (expr_all hG m _ _ _ (d - 1) (by omega) hs (by omega)) (fun o1 h1 hC => jj_callV ok_GR_expression ml_GR_149 im_GR_expression se_GR_GR_expression (by decide +kernel) (hs.rcGR hG.2) rfl (by omega) (Nat.le_of_ble_eq_true rfl) hC) rfl (fun _ _ _ q => ⟨rfl, rfl, _, q⟩) (fun h hs => ?_)
    refine jj_aload_n (j := 0) (by decide +kernel) rfl ?_
    refine jj_bipush (n := 41) (v := 41) (by decide +kernel) (by decide) ?_
    refine sy_cv (s_CU_expect (d := d - 1) hG (by omega) hs) (fun o1 h1 hC => jj_callU ok_CU_expect ml_GR_102 sm_GR_CU_expect rfl im_CU_expect se_GR_CU_expect_u (by decide +kernel) (hs.rcGR hG.2) rfl (by omega) (Nat.le_of_ble_eq_true rfl) hC) rfl (fun _ _ _ q => ⟨rfl, rfl, _, q⟩) (fun h hs => ?_)
    refine jj_aload_n (j := 0) (by decide +kernel) rfl ?_
    refine jj_iload_n (j := 2) (by decide +kernel) rfl ?_
    refine jj_if_eq (off := 8) (tgt := 45) (by decide +kernel) (by decide) (fun c7 => ?_) (fun c7 => ?_)
    · skip
      refine jj_bipush (n := 12) (v := 12) (by decide +kernel) (by decide) ?_
      exact jj_wk (js_s (js_s (js_s js_0))) (b_GR_type_47 hG ho hdd hs)
    · skip
      refine jj_bipush (n := 13) (v := 13) (by decide +kernel) (by decide) ?_
      refine jj_goto (off := 5) (tgt := 47) (by decide +kernel) (by decide) ?_
      exact jj_wk (js_s (js_s (js_s js_0))) (b_GR_type_47 hG ho hdd hs)
theorem s_GR_type {l : Launch} {G : jj_G} {X : sy_X} {K o N d : Nat} {m : Nat} {h : jj_H} (hG : sy_G G X) (ho : o + m = 40) (hdd : 16 + 10 * m ≤ d) (hs : Sy G X K o N h) : jj_Q l G y_GR_type d [.ref (X.2.2.1 12)] h (sy_F 0 true G X K o N) :=
  jj_Q.of (by decide +kernel) (Nat.le_of_ble_eq_true rfl) (b_GR_type_0 hG ho hdd hs)
set_option maxRecDepth 100000 in
set_option maxHeartbeats 4000000 in
theorem b_GR_listOfAny_33 {l : Launch} {G : jj_G} {X : sy_X} {K o N d : Nat} {m : Nat} {x1 : Int32} {h : jj_H} {x2 x3 : Int32} (hG : sy_G G X) (ho : o + m = 40) {D : Nat} (hone : sy_One l G X N x1 D m) (hD : 20 ≤ D) (hdd : D + 2 + 10 * m ≤ d) (hs : Sy G X K o N h) : jj_P l G y_GR_listOfAny d (sy_F 0 true G X K o N) 33 [some (.ref (X.2.2.1 12)), some (.int x1), some (.int x2), some (.int x3)] [] h := by
  refine jj_aload_n (j := 0) (by decide +kernel) rfl ?_
  refine jj_bipush (n := 48) (v := 48) (by decide +kernel) (by decide) ?_
  refine jj_iconst (n := 0) (v := 0) (by decide +kernel) (by decide) ?_
  refine jj_iload_n (j := 2) (by decide +kernel) rfl ?_
  refine sy_cv (s_CU_tell (d := d - 1) hG (by omega) hs) (fun o1 h1 hC => jj_callU ok_CU_tell ml_GR_64 sm_GR_CU_tell rfl im_CU_tell se_GR_CU_tell_u (by decide +kernel) (hs.rcGR hG.2) rfl (by omega) (Nat.le_of_ble_eq_true rfl) hC) rfl (fun _ _ _ q => ⟨rfl, rfl, _, q⟩) (fun h hs => ?_)
  exact jj_vret (by decide +kernel) rfl ⟨rfl, hs⟩
set_option maxRecDepth 100000 in
set_option maxHeartbeats 4000000 in
theorem b_GR_listOfAny_4 {l : Launch} {G : jj_G} {X : sy_X} {K o N d : Nat} {m : Nat} {x1 : Int32} (hG : sy_G G X) (ho : o + m = 40) {D : Nat} (hone : sy_One l G X N x1 D m) (hD : 20 ≤ D) (hdd : D + 2 + 10 * m ≤ d) : ∀ (n : Nat) (x2 : Int32) (x3 : Int32) (h : jj_H), (2147483647 - x3.toInt).toNat < n → Sy G X K o N h → jj_P l G y_GR_listOfAny d (sy_F 0 true G X K o N) 4 [some (.ref (X.2.2.1 12)), some (.int x1), some (.int x2), some (.int x3)] [] h := by
  intro n
  induction n with
  | zero => intro x2 x3 h hn; exact absurd hn (Nat.not_lt_zero _)
  | succ n ih =>
    intro x2 x3 h hn hs
    refine jj_iload_n (j := 3) (by decide +kernel) rfl ?_
    refine jj_sipush (n := 16385) (v := 16385) (by decide +kernel) (by decide) ?_
    refine jj_icmp_ge (off := 25) (tgt := 33) (by decide +kernel) (by decide) (fun c1 => ?_) (fun c1 => ?_)
    · skip
      exact jj_wk (js_s (js_s (js_s (js_s js_0)))) (b_GR_listOfAny_33 hG ho hone hD hdd hs)
    · skip
      have hdec := up_lt (Int32.not_le.mp c1) hn
      refine jj_aload_n (j := 0) (by decide +kernel) rfl ?_
      refine jj_iload_n (j := 1) (by decide +kernel) rfl ?_
      refine sy_ci (s_GR_canBegin (d := d - 1) hG (by omega) hs) (fun o1 h1 hC => jj_callV ok_GR_canBegin ml_GR_72 im_GR_canBegin se_GR_GR_canBegin (by decide +kernel) (hs.rcGR hG.2) rfl (by omega) (Nat.le_of_ble_eq_true rfl) hC) (by decide) rfl (fun q => by cases q) (fun v2 h _ hs => ?_)
      refine jj_if_eq (off := 17) (tgt := 33) (by decide +kernel) (by decide) (fun c3 => ?_) (fun c3 => ?_)
      · skip
        exact jj_wk (js_s (js_s (js_s (js_s js_0)))) (b_GR_listOfAny_33 hG ho hone hD hdd hs)
      · skip
        refine jj_iload_n (j := 2) (by decide +kernel) rfl ?_
        refine jj_aload_n (j := 0) (by decide +kernel) rfl ?_
        refine jj_iload_n (j := 1) (by decide +kernel) rfl ?_
        refine sy_ci (hone _ _ _ (d - 1) (by omega) hs (by omega)) (fun o1 h1 hC => jj_callV ok_GR_one ml_GR_76 im_GR_one se_GR_GR_one (by decide +kernel) (hs.rcGR hG.2) rfl (by omega) (Nat.le_of_ble_eq_true rfl) hC) (by decide) rfl (fun _ _ _ q => ⟨rfl, rfl, _, q⟩) (fun v4 h _ hs => ?_)
        refine jj_iadd (by decide +kernel) ?_
        refine jj_istore_n (j := 2) (by decide +kernel) (by decide) rfl ?_
        refine jj_iinc (i := 3) (n := 1) (by decide +kernel) rfl rfl (by decide) rfl ?_
        refine jj_goto (off := (-26)) (tgt := 4) (by decide +kernel) (by decide) ?_
        exact jj_wk (js_s (js_s (js_s (js_s js_0)))) (ih _ _ _ hdec hs)
set_option maxRecDepth 100000 in
set_option maxHeartbeats 4000000 in
theorem b_GR_listOfAny_0 {l : Launch} {G : jj_G} {X : sy_X} {K o N d : Nat} {m : Nat} {x1 : Int32} {h : jj_H} (hG : sy_G G X) (ho : o + m = 40) {D : Nat} (hone : sy_One l G X N x1 D m) (hD : 20 ≤ D) (hdd : D + 2 + 10 * m ≤ d) (hs : Sy G X K o N h) : jj_P l G y_GR_listOfAny d (sy_F 0 true G X K o N) 0 [some (.ref (X.2.2.1 12)), some (.int x1), none, none] [] h := by
  refine jj_iconst (n := 0) (v := 0) (by decide +kernel) (by decide) ?_
  refine jj_istore_n (j := 2) (by decide +kernel) (by decide) rfl ?_
  refine jj_iconst (n := 0) (v := 0) (by decide +kernel) (by decide) ?_
  refine jj_istore_n (j := 3) (by decide +kernel) (by decide) rfl ?_
  exact jj_wk (js_s (js_s (js_s (js_s js_0)))) (b_GR_listOfAny_4 hG ho hone hD hdd _ _ _ _ (Nat.lt_succ_self _) hs)
theorem s_GR_listOfAny {l : Launch} {G : jj_G} {X : sy_X} {K o N d : Nat} {m : Nat} {x1 : Int32} {h : jj_H} (hG : sy_G G X) (ho : o + m = 40) {D : Nat} (hone : sy_One l G X N x1 D m) (hD : 20 ≤ D) (hdd : D + 2 + 10 * m ≤ d) (hs : Sy G X K o N h) : jj_Q l G y_GR_listOfAny d [.ref (X.2.2.1 12), .int x1] h (sy_F 0 true G X K o N) :=
  jj_Q.of (by decide +kernel) (Nat.le_of_ble_eq_true rfl) (b_GR_listOfAny_0 hG ho hone hD hdd hs)
set_option maxRecDepth 100000 in
set_option maxHeartbeats 4000000 in
theorem b_GR_oneOrMore_9 {l : Launch} {G : jj_G} {X : sy_X} {K o N d : Nat} {m : Nat} {x1 x2 : Int32} (hG : sy_G G X) (ho : o + m = 40) {D : Nat} (hone : sy_One l G X N x1 D m) (hD : 20 ≤ D) (hdd : D + 2 + 10 * m ≤ d) : ∀ (n : Nat) (x3 : Int32) (x4 : Int32) (h : jj_H), (2147483647 - x4.toInt).toNat < n → Sy G X K o N h → jj_P l G y_GR_oneOrMore d (sy_F 1 true G X K o N) 9 [some (.ref (X.2.2.1 12)), some (.int x1), some (.int x2), some (.int x3), some (.int x4)] [] h := by
  intro n
  induction n with
  | zero => intro x3 x4 h hn; exact absurd hn (Nat.not_lt_zero _)
  | succ n ih =>
    intro x3 x4 h hn hs
    refine jj_iload (i := 4) (by decide +kernel) rfl ?_
    refine jj_sipush (n := 16385) (v := 16385) (by decide +kernel) (by decide) ?_
    refine jj_icmp_ge (off := 25) (tgt := 39) (by decide +kernel) (by decide) (fun c1 => ?_) (fun c1 => ?_)
    · skip
      refine jj_iload_n (j := 3) (by decide +kernel) rfl ?_
      exact jj_iret .int (by decide +kernel) rfl rfl ⟨Or.inl rfl, hs⟩
    · skip
      have hdec := up_lt (Int32.not_le.mp c1) hn
      refine jj_aload_n (j := 0) (by decide +kernel) rfl ?_
      refine jj_iload_n (j := 2) (by decide +kernel) rfl ?_
      refine sy_ci (s_CU_accept (d := d - 1) hG (by omega) hs) (fun o1 h1 hC => jj_callU ok_CU_accept ml_GR_80 sm_GR_CU_accept rfl im_CU_accept se_GR_CU_accept_u (by decide +kernel) (hs.rcGR hG.2) rfl (by omega) (Nat.le_of_ble_eq_true rfl) hC) (by decide) rfl (fun _ _ _ q => ⟨rfl, rfl, _, q⟩) (fun v2 h _ hs => ?_)
      refine jj_if_eq (off := 17) (tgt := 39) (by decide +kernel) (by decide) (fun c3 => ?_) (fun c3 => ?_)
      · skip
        refine jj_iload_n (j := 3) (by decide +kernel) rfl ?_
        exact jj_iret .int (by decide +kernel) rfl rfl ⟨Or.inl rfl, hs⟩
      · skip
        refine jj_iload_n (j := 3) (by decide +kernel) rfl ?_
        refine jj_aload_n (j := 0) (by decide +kernel) rfl ?_
        refine jj_iload_n (j := 1) (by decide +kernel) rfl ?_
        refine sy_ci (hone _ _ _ (d - 1) (by omega) hs (by omega)) (fun o1 h1 hC => jj_callV ok_GR_one ml_GR_76 im_GR_one se_GR_GR_one (by decide +kernel) (hs.rcGR hG.2) rfl (by omega) (Nat.le_of_ble_eq_true rfl) hC) (by decide) rfl (fun _ _ _ q => ⟨rfl, rfl, _, q⟩) (fun v4 h _ hs => ?_)
        refine jj_iadd (by decide +kernel) ?_
        refine jj_istore_n (j := 3) (by decide +kernel) (by decide) rfl ?_
        refine jj_iinc (i := 4) (n := 1) (by decide +kernel) rfl rfl (by decide) rfl ?_
        refine jj_goto (off := (-27)) (tgt := 9) (by decide +kernel) (by decide) ?_
        exact jj_wk (js_s (js_s (js_s (js_s (js_s js_0))))) (ih _ _ _ hdec hs)
set_option maxRecDepth 100000 in
set_option maxHeartbeats 4000000 in
theorem b_GR_oneOrMore_0 {l : Launch} {G : jj_G} {X : sy_X} {K o N d : Nat} {m : Nat} {x1 x2 : Int32} {h : jj_H} (hG : sy_G G X) (ho : o + m = 40) {D : Nat} (hone : sy_One l G X N x1 D m) (hD : 20 ≤ D) (hdd : D + 2 + 10 * m ≤ d) (hs : Sy G X K o N h) : jj_P l G y_GR_oneOrMore d (sy_F 1 true G X K o N) 0 [some (.ref (X.2.2.1 12)), some (.int x1), some (.int x2), none, none] [] h := by
  refine jj_aload_n (j := 0) (by decide +kernel) rfl ?_
  refine jj_iload_n (j := 1) (by decide +kernel) rfl ?_
  refine sy_ci (hone _ _ _ (d - 1) (by omega) hs (by omega)) (fun o1 h1 hC => jj_callV ok_GR_one ml_GR_76 im_GR_one se_GR_GR_one (by decide +kernel) (hs.rcGR hG.2) rfl (by omega) (Nat.le_of_ble_eq_true rfl) hC) (by decide) rfl (fun _ _ _ q => ⟨rfl, rfl, _, q⟩) (fun v1 h _ hs => ?_)
  refine jj_istore_n (j := 3) (by decide +kernel) (by decide) rfl ?_
  refine jj_iconst (n := 0) (v := 0) (by decide +kernel) (by decide) ?_
  refine jj_istore (i := 4) (by decide +kernel) (by decide) rfl ?_
  exact jj_wk (js_s (js_s (js_s (js_s (js_s js_0))))) (b_GR_oneOrMore_9 hG ho hone hD hdd _ _ _ _ (Nat.lt_succ_self _) hs)
theorem s_GR_oneOrMore {l : Launch} {G : jj_G} {X : sy_X} {K o N d : Nat} {m : Nat} {x1 x2 : Int32} {h : jj_H} (hG : sy_G G X) (ho : o + m = 40) {D : Nat} (hone : sy_One l G X N x1 D m) (hD : 20 ≤ D) (hdd : D + 2 + 10 * m ≤ d) (hs : Sy G X K o N h) : jj_Q l G y_GR_oneOrMore d [.ref (X.2.2.1 12), .int x1, .int x2] h (sy_F 1 true G X K o N) :=
  jj_Q.of (by decide +kernel) (Nat.le_of_ble_eq_true rfl) (b_GR_oneOrMore_0 hG ho hone hD hdd hs)
set_option maxRecDepth 100000 in
set_option maxHeartbeats 4000000 in
theorem b_GR_listOfSome_0 {l : Launch} {G : jj_G} {X : sy_X} {K o N d : Nat} {m : Nat} {x1 x2 : Int32} {h : jj_H} (hG : sy_G G X) (ho : o + m = 40) {D : Nat} (hone : sy_One l G X N x1 D m) (hD : 20 ≤ D) (hdd : D + 3 + 10 * m ≤ d) (hs : Sy G X K o N h) : jj_P l G y_GR_listOfSome d (sy_F 0 true G X K o N) 0 [some (.ref (X.2.2.1 12)), some (.int x1), some (.int x2)] [] h := by
  refine jj_aload_n (j := 0) (by decide +kernel) rfl ?_
  refine jj_bipush (n := 48) (v := 48) (by decide +kernel) (by decide) ?_
  refine jj_iconst (n := 0) (v := 0) (by decide +kernel) (by decide) ?_
  refine jj_aload_n (j := 0) (by decide +kernel) rfl ?_
  refine jj_iload_n (j := 1) (by decide +kernel) rfl ?_
  refine jj_iload_n (j := 2) (by decide +kernel) rfl ?_
  refine sy_ci (s_GR_oneOrMore (d := d - 1) (m := m) hG (by omega) hone hD (by omega) hs) (fun o1 h1 hC => jj_callV ok_GR_oneOrMore ml_GR_83 im_GR_oneOrMore se_GR_GR_oneOrMore (by decide +kernel) (hs.rcGR hG.2) rfl (by omega) (Nat.le_of_ble_eq_true rfl) hC) (by decide) rfl (fun _ _ _ q => ⟨rfl, rfl, _, q⟩) (fun v1 h _ hs => ?_)
  refine sy_cv (s_CU_tell (d := d - 1) hG (by omega) hs) (fun o1 h1 hC => jj_callU ok_CU_tell ml_GR_64 sm_GR_CU_tell rfl im_CU_tell se_GR_CU_tell_u (by decide +kernel) (hs.rcGR hG.2) rfl (by omega) (Nat.le_of_ble_eq_true rfl) hC) rfl (fun _ _ _ q => ⟨rfl, rfl, _, q⟩) (fun h hs => ?_)
  exact jj_vret (by decide +kernel) rfl ⟨rfl, hs⟩
theorem s_GR_listOfSome {l : Launch} {G : jj_G} {X : sy_X} {K o N d : Nat} {m : Nat} {x1 x2 : Int32} {h : jj_H} (hG : sy_G G X) (ho : o + m = 40) {D : Nat} (hone : sy_One l G X N x1 D m) (hD : 20 ≤ D) (hdd : D + 3 + 10 * m ≤ d) (hs : Sy G X K o N h) : jj_Q l G y_GR_listOfSome d [.ref (X.2.2.1 12), .int x1, .int x2] h (sy_F 0 true G X K o N) :=
  jj_Q.of (by decide +kernel) (Nat.le_of_ble_eq_true rfl) (b_GR_listOfSome_0 hG ho hone hD hdd hs)
set_option maxRecDepth 100000 in
set_option maxHeartbeats 4000000 in
theorem b_GR_interfaceList_0 {l : Launch} {G : jj_G} {X : sy_X} {K o N d : Nat} {m : Nat} {x1 x2 : Int32} {h : jj_H} (hG : sy_G G X) (ho : o + m = 40) {D : Nat} (hone : sy_One l G X N x2 D m) (hD : 20 ≤ D) (hdd : D + 4 + 10 * m ≤ d) (hs : Sy G X K o N h) : jj_P l G y_GR_interfaceList d (sy_F 0 true G X K o N) 0 [some (.ref (X.2.2.1 12)), some (.int x1), some (.int x2)] [] h := by
  refine jj_aload_n (j := 0) (by decide +kernel) rfl ?_
  refine jj_iload_n (j := 1) (by decide +kernel) rfl ?_
  refine sy_ci (s_CU_accept (d := d - 1) hG (by omega) hs) (fun o1 h1 hC => jj_callU ok_CU_accept ml_GR_80 sm_GR_CU_accept rfl im_CU_accept se_GR_CU_accept_u (by decide +kernel) (hs.rcGR hG.2) rfl (by omega) (Nat.le_of_ble_eq_true rfl) hC) (by decide) rfl (fun _ _ _ q => ⟨rfl, rfl, _, q⟩) (fun v1 h _ hs => ?_)
  refine jj_if_eq (off := 31) (tgt := 36) (by decide +kernel) (by decide) (fun c2 => ?_) (fun c2 => ?_)
  · skip
    refine jj_aload_n (j := 0) (by decide +kernel) rfl ?_
    refine sy_cv (s_GR_emptyList (d := d - 1) hG (by omega) hs) (fun o1 h1 hC => jj_callV ok_GR_emptyList ml_GR_115 im_GR_emptyList se_GR_GR_emptyList (by decide +kernel) (hs.rcGR hG.2) rfl (by omega) (Nat.le_of_ble_eq_true rfl) hC) rfl (fun _ _ _ q => ⟨rfl, rfl, _, q⟩) (fun h hs => ?_)
    exact jj_vret (by decide +kernel) rfl ⟨rfl, hs⟩
  · skip
    refine jj_aload_n (j := 0) (by decide +kernel) rfl ?_
    refine jj_bipush (n := 40) (v := 40) (by decide +kernel) (by decide) ?_
    refine sy_cv (s_CU_expect (d := d - 1) hG (by omega) hs) (fun o1 h1 hC => jj_callU ok_CU_expect ml_GR_102 sm_GR_CU_expect rfl im_CU_expect se_GR_CU_expect_u (by decide +kernel) (hs.rcGR hG.2) rfl (by omega) (Nat.le_of_ble_eq_true rfl) hC) rfl (fun _ _ _ q => ⟨rfl, rfl, _, q⟩) (fun h hs => ?_)
    refine jj_aload_n (j := 0) (by decide +kernel) rfl ?_
    refine jj_iload_n (j := 2) (by decide +kernel) rfl ?_
    refine jj_bipush (n := 59) (v := 59) (by decide +kernel) (by decide) ?_
    refine sy_cv (s_GR_listOfSome (d := d - 1) (m := m) hG (by omega) hone hD (by omega) hs) (fun o1 h1 hC => jj_callV ok_GR_listOfSome ml_GR_112 im_GR_listOfSome se_GR_GR_listOfSome (by decide +kernel) (hs.rcGR hG.2) rfl (by omega) (Nat.le_of_ble_eq_true rfl) hC) rfl (fun _ _ _ q => ⟨rfl, rfl, _, q⟩) (fun h hs => ?_)
    refine jj_aload_n (j := 0) (by decide +kernel) rfl ?_
    refine jj_bipush (n := 41) (v := 41) (by decide +kernel) (by decide) ?_
    refine sy_cv (s_CU_expect (d := d - 1) hG (by omega) hs) (fun o1 h1 hC => jj_callU ok_CU_expect ml_GR_102 sm_GR_CU_expect rfl im_CU_expect se_GR_CU_expect_u (by decide +kernel) (hs.rcGR hG.2) rfl (by omega) (Nat.le_of_ble_eq_true rfl) hC) rfl (fun _ _ _ q => ⟨rfl, rfl, _, q⟩) (fun h hs => ?_)
    refine jj_aload_n (j := 0) (by decide +kernel) rfl ?_
    refine jj_bipush (n := 59) (v := 59) (by decide +kernel) (by decide) ?_
    refine sy_cv (s_CU_expect (d := d - 1) hG (by omega) hs) (fun o1 h1 hC => jj_callU ok_CU_expect ml_GR_102 sm_GR_CU_expect rfl im_CU_expect se_GR_CU_expect_u (by decide +kernel) (hs.rcGR hG.2) rfl (by omega) (Nat.le_of_ble_eq_true rfl) hC) rfl (fun _ _ _ q => ⟨rfl, rfl, _, q⟩) (fun h hs => ?_)
    refine jj_goto (off := 7) (tgt := 40) (by decide +kernel) (by decide) ?_
    exact jj_vret (by decide +kernel) rfl ⟨rfl, hs⟩
theorem s_GR_interfaceList {l : Launch} {G : jj_G} {X : sy_X} {K o N d : Nat} {m : Nat} {x1 x2 : Int32} {h : jj_H} (hG : sy_G G X) (ho : o + m = 40) {D : Nat} (hone : sy_One l G X N x2 D m) (hD : 20 ≤ D) (hdd : D + 4 + 10 * m ≤ d) (hs : Sy G X K o N h) : jj_Q l G y_GR_interfaceList d [.ref (X.2.2.1 12), .int x1, .int x2] h (sy_F 0 true G X K o N) :=
  jj_Q.of (by decide +kernel) (Nat.le_of_ble_eq_true rfl) (b_GR_interfaceList_0 hG ho hone hD hdd hs)
set_option maxRecDepth 100000 in
set_option maxHeartbeats 4000000 in
theorem b_GR_generic_0 {l : Launch} {G : jj_G} {X : sy_X} {K o N d : Nat} {m : Nat} {h : jj_H} (hG : sy_G G X) (ho : o + m = 40) (hdd : 17 + 10 * m ≤ d) (hs : Sy G X K o N h) : jj_P l G y_GR_generic d (sy_F 1 true G X K o N) 0 [some (.ref (X.2.2.1 12)), none] [] h := by
  refine jj_aload_n (j := 0) (by decide +kernel) rfl ?_
  refine sy_cv (s_GR_declaredNames (d := d - 1) hG (by omega) hs) (fun o1 h1 hC => jj_callV ok_GR_declaredNames ml_GR_118 im_GR_declaredNames se_GR_GR_declaredNames (by decide +kernel) (hs.rcGR hG.2) rfl (by omega) (Nat.le_of_ble_eq_true rfl) hC) rfl (fun _ _ _ q => ⟨rfl, rfl, _, q⟩) (fun h hs => ?_)
  refine jj_aload_n (j := 0) (by decide +kernel) rfl ?_
  refine sy_ci (s_CU_told (d := d - 1) hG (by omega) hs) (fun o1 h1 hC => jj_callU ok_CU_told ml_GR_121 sm_GR_CU_told rfl im_CU_told se_GR_CU_told_u (by decide +kernel) (hs.rcGR hG.2) rfl (by omega) (Nat.le_of_ble_eq_true rfl) hC) (by decide) rfl (fun q => by cases q) (fun v1 h hv1 hs => ?_)
  refine jj_istore_n (j := 1) (by decide +kernel) (by decide) rfl ?_
  refine jj_aload_n (j := 0) (by decide +kernel) rfl ?_
  refine sy_cv (s_GR_type (d := d - 1) (m := m) hG (by omega) (by omega) hs) (fun o1 h1 hC => jj_callV ok_GR_type ml_GR_124 im_GR_type se_GR_GR_type (by decide +kernel) (hs.rcGR hG.2) rfl (by omega) (Nat.le_of_ble_eq_true rfl) hC) rfl (fun _ _ _ q => ⟨rfl, rfl, _, q⟩) (fun h hs => ?_)
  refine jj_aload_n (j := 0) (by decide +kernel) rfl ?_
  refine jj_sipush (n := 128) (v := 128) (by decide +kernel) (by decide) ?_
  refine sy_cv (s_GR_expressionBehind (d := d - 1) (m := m) hG (by omega) (by omega) hs) (fun o1 h1 hC => jj_callV ok_GR_expressionBehind ml_GR_127 im_GR_expressionBehind se_GR_GR_expressionBehind (by decide +kernel) (hs.rcGR hG.2) rfl (by omega) (Nat.le_of_ble_eq_true rfl) hC) rfl (fun _ _ _ q => ⟨rfl, rfl, _, q⟩) (fun h hs => ?_)
  refine jj_aload_n (j := 0) (by decide +kernel) rfl ?_
  refine jj_bipush (n := 71) (v := 71) (by decide +kernel) (by decide) ?_
  refine jj_iconst (n := 2) (v := 2) (by decide +kernel) (by decide) ?_
  refine jj_iload_n (j := 1) (by decide +kernel) rfl ?_
  refine sy_ci (s_GR_tellDeclared (d := d - 1) hG (by omega) hs) (fun o1 h1 hC => jj_callV ok_GR_tellDeclared ml_GR_130 im_GR_tellDeclared se_GR_GR_tellDeclared (by decide +kernel) (hs.rcGR hG.2) rfl (by omega) (Nat.le_of_ble_eq_true rfl) hC) (by decide) rfl (fun _ _ _ q => ⟨rfl, rfl, _, q⟩) (fun v2 h _ hs => ?_)
  exact jj_iret .int (by decide +kernel) rfl rfl ⟨Or.inl rfl, hs⟩
theorem s_GR_generic {l : Launch} {G : jj_G} {X : sy_X} {K o N d : Nat} {m : Nat} {h : jj_H} (hG : sy_G G X) (ho : o + m = 40) (hdd : 17 + 10 * m ≤ d) (hs : Sy G X K o N h) : jj_Q l G y_GR_generic d [.ref (X.2.2.1 12)] h (sy_F 1 true G X K o N) :=
  jj_Q.of (by decide +kernel) (Nat.le_of_ble_eq_true rfl) (b_GR_generic_0 hG ho hdd hs)
set_option maxRecDepth 100000 in
set_option maxHeartbeats 4000000 in
theorem b_GR_port_52 {l : Launch} {G : jj_G} {X : sy_X} {K o N d : Nat} {m : Nat} {h : jj_H} {x1 y0 : Int32} (hG : sy_G G X) (ho : o + m = 40) (hdd : 17 + 10 * m ≤ d) (hx1 : 0 ≤ x1) (hs : Sy G X K o N h) : jj_P l G y_GR_port d (sy_F 1 true G X K o N) 52 [some (.ref (X.2.2.1 12)), some (.int x1), none] [.int y0] h := by
  refine jj_istore_n (j := 2) (by decide +kernel) (by decide) rfl ?_
  refine jj_iload_n (j := 2) (by decide +kernel) rfl ?_
  refine jj_iconst (n := (-1)) (v := (-1)) (by decide +kernel) (by decide) ?_
  refine jj_icmp_ne (off := 8) (tgt := 63) (by decide +kernel) (by decide) (fun c1 => ?_) (fun c1 => ?_)
  · skip
    refine jj_aload_n (j := 0) (by decide +kernel) rfl ?_
    refine sy_cv (s_CU_take (d := d - 1) hG (by omega) hs) (fun o1 h1 hC => jj_callU ok_CU_take ml_GR_134 sm_GR_CU_take rfl im_CU_take se_GR_CU_take_u (by decide +kernel) (hs.rcGR hG.2) rfl (by omega) (Nat.le_of_ble_eq_true rfl) hC) rfl (fun _ _ _ q => ⟨rfl, rfl, _, q⟩) (fun h hs => ?_)
    refine jj_aload_n (j := 0) (by decide +kernel) rfl ?_
    refine jj_iconst (n := 2) (v := 2) (by decide +kernel) (by decide) ?_
    refine jj_iload_n (j := 2) (by decide +kernel) rfl ?_
    refine jj_iconst (n := 0) (v := 0) (by decide +kernel) (by decide) ?_
    refine sy_cv (s_CU_tell (d := d - 1) hG (by omega) hs) (fun o1 h1 hC => jj_callU ok_CU_tell ml_GR_64 sm_GR_CU_tell rfl im_CU_tell se_GR_CU_tell_u (by decide +kernel) (hs.rcGR hG.2) rfl (by omega) (Nat.le_of_ble_eq_true rfl) hC) rfl (fun _ _ _ q => ⟨rfl, rfl, _, q⟩) (fun h hs => ?_)
    refine jj_aload_n (j := 0) (by decide +kernel) rfl ?_
    refine sy_cv (s_GR_type (d := d - 1) (m := m) hG (by omega) (by omega) hs) (fun o1 h1 hC => jj_callV ok_GR_type ml_GR_124 im_GR_type se_GR_GR_type (by decide +kernel) (hs.rcGR hG.2) rfl (by omega) (Nat.le_of_ble_eq_true rfl) hC) rfl (fun _ _ _ q => ⟨rfl, rfl, _, q⟩) (fun h hs => ?_)
    refine jj_aload_n (j := 0) (by decide +kernel) rfl ?_
    refine jj_sipush (n := 128) (v := 128) (by decide +kernel) (by decide) ?_
    refine sy_cv (s_GR_expressionBehind (d := d - 1) (m := m) hG (by omega) (by omega) hs) (fun o1 h1 hC => jj_callV ok_GR_expressionBehind ml_GR_127 im_GR_expressionBehind se_GR_GR_expressionBehind (by decide +kernel) (hs.rcGR hG.2) rfl (by omega) (Nat.le_of_ble_eq_true rfl) hC) rfl (fun _ _ _ q => ⟨rfl, rfl, _, q⟩) (fun h hs => ?_)
    refine jj_aload_n (j := 0) (by decide +kernel) rfl ?_
    refine jj_bipush (n := 72) (v := 72) (by decide +kernel) (by decide) ?_
    refine jj_iconst (n := 3) (v := 3) (by decide +kernel) (by decide) ?_
    refine jj_iload_n (j := 1) (by decide +kernel) rfl ?_
    refine sy_ci (s_GR_tellDeclared (d := d - 1) hG (by omega) hs) (fun o1 h1 hC => jj_callV ok_GR_tellDeclared ml_GR_130 im_GR_tellDeclared se_GR_GR_tellDeclared (by decide +kernel) (hs.rcGR hG.2) rfl (by omega) (Nat.le_of_ble_eq_true rfl) hC) (by decide) rfl (fun _ _ _ q => ⟨rfl, rfl, _, q⟩) (fun v2 h _ hs => ?_)
    exact jj_iret .int (by decide +kernel) rfl rfl ⟨Or.inl rfl, hs⟩
  · skip
    refine jj_aload_n (j := 0) (by decide +kernel) rfl ?_
    refine jj_iconst (n := 3) (v := 3) (by decide +kernel) (by decide) ?_
    exact sy_cx (s_CU_raise (d := d - 1) hG.2 hs (by omega)) (fun o1 h1 hC => jj_callU ok_CU_raise ml_GR_93 sm_GR_CU_raise rfl im_CU_raise se_GR_CU_raise_u (by decide +kernel) (hs.rcGR hG.2) rfl (by omega) (Nat.le_of_ble_eq_true rfl) hC) rfl (fun _ _ q => ⟨rfl, rfl, _, q⟩)
set_option maxRecDepth 100000 in
set_option maxHeartbeats 4000000 in
theorem b_GR_port_0 {l : Launch} {G : jj_G} {X : sy_X} {K o N d : Nat} {m : Nat} {h : jj_H} (hG : sy_G G X) (ho : o + m = 40) (hdd : 17 + 10 * m ≤ d) (hs : Sy G X K o N h) : jj_P l G y_GR_port d (sy_F 1 true G X K o N) 0 [some (.ref (X.2.2.1 12)), none, none] [] h := by
  refine jj_aload_n (j := 0) (by decide +kernel) rfl ?_
  refine sy_cv (s_GR_declaredNames (d := d - 1) hG (by omega) hs) (fun o1 h1 hC => jj_callV ok_GR_declaredNames ml_GR_118 im_GR_declaredNames se_GR_GR_declaredNames (by decide +kernel) (hs.rcGR hG.2) rfl (by omega) (Nat.le_of_ble_eq_true rfl) hC) rfl (fun _ _ _ q => ⟨rfl, rfl, _, q⟩) (fun h hs => ?_)
  refine jj_aload_n (j := 0) (by decide +kernel) rfl ?_
  refine sy_ci (s_CU_told (d := d - 1) hG (by omega) hs) (fun o1 h1 hC => jj_callU ok_CU_told ml_GR_121 sm_GR_CU_told rfl im_CU_told se_GR_CU_told_u (by decide +kernel) (hs.rcGR hG.2) rfl (by omega) (Nat.le_of_ble_eq_true rfl) hC) (by decide) rfl (fun q => by cases q) (fun v1 h hv1 hs => ?_)
  refine jj_istore_n (j := 1) (by decide +kernel) (by decide) rfl ?_
  refine jj_aload_n (j := 0) (by decide +kernel) rfl ?_
  obtain ⟨ki, va, pl, fa, fp, ne, hg⟩ := hs.gr hG.2
  refine jj_getfield 3 ck_GR fl_GR_68 (by decide) (by decide +kernel) hg rfl ?_
  refine jj_sipush (n := 273) (v := 273) (by decide +kernel) (by decide) ?_
  refine jj_icmp_ne (off := 7) (tgt := 23) (by decide +kernel) (by decide) (fun c2 => ?_) (fun c2 => ?_)
  · skip
    refine jj_aload_n (j := 0) (by decide +kernel) rfl ?_
    obtain ⟨ki, va, pl, fa, fp, ne, hg⟩ := hs.gr hG.2
    refine jj_getfield 3 ck_GR fl_GR_68 (by decide) (by decide +kernel) hg rfl ?_
    refine jj_sipush (n := 290) (v := 290) (by decide +kernel) (by decide) ?_
    refine jj_icmp_ne (off := 7) (tgt := 37) (by decide +kernel) (by decide) (fun c3 => ?_) (fun c3 => ?_)
    · skip
      refine jj_aload_n (j := 0) (by decide +kernel) rfl ?_
      obtain ⟨ki, va, pl, fa, fp, ne, hg⟩ := hs.gr hG.2
      refine jj_getfield 3 ck_GR fl_GR_68 (by decide) (by decide +kernel) hg rfl ?_
      refine jj_sipush (n := 275) (v := 275) (by decide +kernel) (by decide) ?_
      refine jj_icmp_ne (off := 7) (tgt := 51) (by decide +kernel) (by decide) (fun c4 => ?_) (fun c4 => ?_)
      · skip
        refine jj_iconst (n := (-1)) (v := (-1)) (by decide +kernel) (by decide) ?_
        exact jj_wk (js_s (js_s (js_n js_0))) (b_GR_port_52 hG ho hdd (hv1 rfl) hs)
      · skip
        refine jj_iconst (n := 2) (v := 2) (by decide +kernel) (by decide) ?_
        refine jj_goto (off := 4) (tgt := 52) (by decide +kernel) (by decide) ?_
        exact jj_wk (js_s (js_s (js_n js_0))) (b_GR_port_52 hG ho hdd (hv1 rfl) hs)
    · skip
      refine jj_iconst (n := 1) (v := 1) (by decide +kernel) (by decide) ?_
      refine jj_goto (off := 18) (tgt := 52) (by decide +kernel) (by decide) ?_
      exact jj_wk (js_s (js_s (js_n js_0))) (b_GR_port_52 hG ho hdd (hv1 rfl) hs)
  · skip
    refine jj_iconst (n := 0) (v := 0) (by decide +kernel) (by decide) ?_
    refine jj_goto (off := 32) (tgt := 52) (by decide +kernel) (by decide) ?_
    exact jj_wk (js_s (js_s (js_n js_0))) (b_GR_port_52 hG ho hdd (hv1 rfl) hs)
theorem s_GR_port {l : Launch} {G : jj_G} {X : sy_X} {K o N d : Nat} {m : Nat} {h : jj_H} (hG : sy_G G X) (ho : o + m = 40) (hdd : 17 + 10 * m ≤ d) (hs : Sy G X K o N h) : jj_Q l G y_GR_port d [.ref (X.2.2.1 12)] h (sy_F 1 true G X K o N) :=
  jj_Q.of (by decide +kernel) (Nat.le_of_ble_eq_true rfl) (b_GR_port_0 hG ho hdd hs)
set_option maxRecDepth 100000 in
set_option maxHeartbeats 4000000 in
theorem b_GR_objects_44 {l : Launch} {G : jj_G} {X : sy_X} {K o N d : Nat} {m : Nat} {x1 : Int32} {h : jj_H} {x2 : Int32} (hG : sy_G G X) (ho : o + m = 40) (hdd : 17 + 10 * m ≤ d) (hx2 : 0 ≤ x2) (hs : Sy G X K o N h) : jj_P l G y_GR_objects d (sy_F 1 true G X K o N) 44 [some (.ref (X.2.2.1 12)), some (.int x1), some (.int x2)] [] h := by
  refine jj_aload_n (j := 0) (by decide +kernel) rfl ?_
  refine jj_bipush (n := 59) (v := 59) (by decide +kernel) (by decide) ?_
  refine sy_cv (s_CU_expect (d := d - 1) hG (by omega) hs) (fun o1 h1 hC => jj_callU ok_CU_expect ml_GR_102 sm_GR_CU_expect rfl im_CU_expect se_GR_CU_expect_u (by decide +kernel) (hs.rcGR hG.2) rfl (by omega) (Nat.le_of_ble_eq_true rfl) hC) rfl (fun _ _ _ q => ⟨rfl, rfl, _, q⟩) (fun h hs => ?_)
  refine jj_aload_n (j := 0) (by decide +kernel) rfl ?_
  refine jj_iload_n (j := 1) (by decide +kernel) rfl ?_
  refine jj_iconst (n := 2) (v := 2) (by decide +kernel) (by decide) ?_
  refine jj_iload_n (j := 2) (by decide +kernel) rfl ?_
  refine sy_ci (s_GR_tellDeclared (d := d - 1) hG (by omega) hs) (fun o1 h1 hC => jj_callV ok_GR_tellDeclared ml_GR_130 im_GR_tellDeclared se_GR_GR_tellDeclared (by decide +kernel) (hs.rcGR hG.2) rfl (by omega) (Nat.le_of_ble_eq_true rfl) hC) (by decide) rfl (fun _ _ _ q => ⟨rfl, rfl, _, q⟩) (fun v1 h _ hs => ?_)
  exact jj_iret .int (by decide +kernel) rfl rfl ⟨Or.inl rfl, hs⟩
set_option maxRecDepth 100000 in
set_option maxHeartbeats 4000000 in
theorem b_GR_objects_0 {l : Launch} {G : jj_G} {X : sy_X} {K o N d : Nat} {m : Nat} {x1 : Int32} {h : jj_H} (hG : sy_G G X) (ho : o + m = 40) (hdd : 17 + 10 * m ≤ d) (hs : Sy G X K o N h) : jj_P l G y_GR_objects d (sy_F 1 true G X K o N) 0 [some (.ref (X.2.2.1 12)), some (.int x1), none] [] h := by
  refine jj_aload_n (j := 0) (by decide +kernel) rfl ?_
  refine sy_cv (s_CU_take (d := d - 1) hG (by omega) hs) (fun o1 h1 hC => jj_callU ok_CU_take ml_GR_134 sm_GR_CU_take rfl im_CU_take se_GR_CU_take_u (by decide +kernel) (hs.rcGR hG.2) rfl (by omega) (Nat.le_of_ble_eq_true rfl) hC) rfl (fun _ _ _ q => ⟨rfl, rfl, _, q⟩) (fun h hs => ?_)
  refine jj_aload_n (j := 0) (by decide +kernel) rfl ?_
  refine sy_cv (s_GR_declaredNames (d := d - 1) hG (by omega) hs) (fun o1 h1 hC => jj_callV ok_GR_declaredNames ml_GR_118 im_GR_declaredNames se_GR_GR_declaredNames (by decide +kernel) (hs.rcGR hG.2) rfl (by omega) (Nat.le_of_ble_eq_true rfl) hC) rfl (fun _ _ _ q => ⟨rfl, rfl, _, q⟩) (fun h hs => ?_)
  refine jj_aload_n (j := 0) (by decide +kernel) rfl ?_
  refine sy_ci (s_CU_told (d := d - 1) hG (by omega) hs) (fun o1 h1 hC => jj_callU ok_CU_told ml_GR_121 sm_GR_CU_told rfl im_CU_told se_GR_CU_told_u (by decide +kernel) (hs.rcGR hG.2) rfl (by omega) (Nat.le_of_ble_eq_true rfl) hC) (by decide) rfl (fun q => by cases q) (fun v1 h hv1 hs => ?_)
  refine jj_istore_n (j := 2) (by decide +kernel) (by decide) rfl ?_
  refine jj_aload_n (j := 0) (by decide +kernel) rfl ?_
  refine sy_cv (s_GR_type (d := d - 1) (m := m) hG (by omega) (by omega) hs) (fun o1 h1 hC => jj_callV ok_GR_type ml_GR_124 im_GR_type se_GR_GR_type (by decide +kernel) (hs.rcGR hG.2) rfl (by omega) (Nat.le_of_ble_eq_true rfl) hC) rfl (fun _ _ _ q => ⟨rfl, rfl, _, q⟩) (fun h hs => ?_)
  refine jj_iload_n (j := 1) (by decide +kernel) rfl ?_
  refine jj_bipush (n := 51) (v := 51) (by decide +kernel) (by decide) ?_
  refine jj_icmp_ne (off := 17) (tgt := 37) (by decide +kernel) (by decide) (fun c2 => ?_) (fun c2 => ?_)
  · skip
    refine jj_aload_n (j := 0) (by decide +kernel) rfl ?_
    refine jj_sipush (n := 128) (v := 128) (by decide +kernel) (by decide) ?_
    refine sy_cv (s_GR_expressionBehind (d := d - 1) (m := m) hG (by omega) (by omega) hs) (fun o1 h1 hC => jj_callV ok_GR_expressionBehind ml_GR_127 im_GR_expressionBehind se_GR_GR_expressionBehind (by decide +kernel) (hs.rcGR hG.2) rfl (by omega) (Nat.le_of_ble_eq_true rfl) hC) rfl (fun _ _ _ q => ⟨rfl, rfl, _, q⟩) (fun h hs => ?_)
    exact jj_wk (js_s (js_s (js_s js_0))) (b_GR_objects_44 hG ho hdd (hv1 rfl) hs)
  · skip
    refine jj_aload_n (j := 0) (by decide +kernel) rfl ?_
    refine jj_sipush (n := 128) (v := 128) (by decide +kernel) (by decide) ?_
    refine sy_cv (s_CU_expect (d := d - 1) hG (by omega) hs) (fun o1 h1 hC => jj_callU ok_CU_expect ml_GR_102 sm_GR_CU_expect rfl im_CU_expect se_GR_CU_expect_u (by decide +kernel) (hs.rcGR hG.2) rfl (by omega) (Nat.le_of_ble_eq_true rfl) hC) rfl (fun _ _ _ q => ⟨rfl, rfl, _, q⟩) (fun h hs => ?_)
    refine jj_aload_n (j := 0) (by decide +kernel) rfl ?_
    refine sy_cv (expr_all hG m _ _ _ (d - 1) (by omega) hs (by omega)) (fun o1 h1 hC => jj_callV ok_GR_expression ml_GR_149 im_GR_expression se_GR_GR_expression (by decide +kernel) (hs.rcGR hG.2) rfl (by omega) (Nat.le_of_ble_eq_true rfl) hC) rfl (fun _ _ _ q => ⟨rfl, rfl, _, q⟩) (fun h hs => ?_)
    refine jj_goto (off := 10) (tgt := 44) (by decide +kernel) (by decide) ?_
    exact jj_wk (js_s (js_s (js_s js_0))) (b_GR_objects_44 hG ho hdd (hv1 rfl) hs)
theorem s_GR_objects {l : Launch} {G : jj_G} {X : sy_X} {K o N d : Nat} {m : Nat} {x1 : Int32} {h : jj_H} (hG : sy_G G X) (ho : o + m = 40) (hdd : 17 + 10 * m ≤ d) (hs : Sy G X K o N h) : jj_Q l G y_GR_objects d [.ref (X.2.2.1 12), .int x1] h (sy_F 1 true G X K o N) :=
  jj_Q.of (by decide +kernel) (Nat.le_of_ble_eq_true rfl) (b_GR_objects_0 hG ho hdd hs)
set_option maxRecDepth 100000 in
set_option maxHeartbeats 4000000 in
theorem b_GR_one_1_0 {l : Launch} {G : jj_G} {X : sy_X} {K o N d : Nat} {m : Nat} {h : jj_H} (hG : sy_G G X) (ho : o + m = 40) (hdd : 20 + 10 * m ≤ d) (hs : Sy G X K o N h) : jj_P l G y_GR_one d (sy_F 1 true G X K o N) 0 [some (.ref (X.2.2.1 12)), some (.int 1)] [] h := by
  refine jj_iload_n (j := 1) (by decide +kernel) rfl ?_
  refine jj_tableIn (dflt := 130) (lo := 0) (hi := 12) (offs := #[73, 79, 84, 89, 89, 94, 100, 106, 112, 118, 124, 130, 67]) (len := 67) (off := 79) (tgt := 80) (by decide +kernel) (by decide) (by decide) (by decide) (by decide) ?_
  refine jj_aload_n (j := 0) (by decide +kernel) rfl ?_
  refine sy_ci (s_GR_generic (d := d - 1) (m := m) hG (by omega) (by omega) hs) (fun o1 h1 hC => jj_callV ok_GR_generic ml_GR_33 im_GR_generic se_GR_GR_generic (by decide +kernel) (hs.rcGR hG.2) rfl (by omega) (Nat.le_of_ble_eq_true rfl) hC) (by decide) rfl (fun _ _ _ q => ⟨rfl, rfl, _, q⟩) (fun v1 h _ hs => ?_)
  exact jj_iret .int (by decide +kernel) rfl rfl ⟨Or.inl rfl, hs⟩
theorem s_GR_one_1 {l : Launch} {G : jj_G} {X : sy_X} {K o N d : Nat} {m : Nat} {h : jj_H} (hG : sy_G G X) (ho : o + m = 40) (hdd : 20 + 10 * m ≤ d) (hs : Sy G X K o N h) : jj_Q l G y_GR_one d [.ref (X.2.2.1 12), .int 1] h (sy_F 1 true G X K o N) :=
  jj_Q.of (by decide +kernel) (Nat.le_of_ble_eq_true rfl) (b_GR_one_1_0 hG ho hdd hs)
theorem one1_all {l : Launch} {G : jj_G} {X : sy_X} {N : Nat} (hG : sy_G G X) (m : Nat) : sy_One l G X N 1 20 m := fun K o h d ho hs hdd => s_GR_one_1 hG ho hdd hs
set_option maxRecDepth 100000 in
set_option maxHeartbeats 4000000 in
theorem b_GR_one_2_0 {l : Launch} {G : jj_G} {X : sy_X} {K o N d : Nat} {m : Nat} {h : jj_H} (hG : sy_G G X) (ho : o + m = 40) (hdd : 20 + 10 * m ≤ d) (hs : Sy G X K o N h) : jj_P l G y_GR_one d (sy_F 1 true G X K o N) 0 [some (.ref (X.2.2.1 12)), some (.int 2)] [] h := by
  refine jj_iload_n (j := 1) (by decide +kernel) rfl ?_
  refine jj_tableIn (dflt := 130) (lo := 0) (hi := 12) (offs := #[73, 79, 84, 89, 89, 94, 100, 106, 112, 118, 124, 130, 67]) (len := 67) (off := 84) (tgt := 85) (by decide +kernel) (by decide) (by decide) (by decide) (by decide) ?_
  refine jj_aload_n (j := 0) (by decide +kernel) rfl ?_
  refine sy_ci (s_GR_port (d := d - 1) (m := m) hG (by omega) (by omega) hs) (fun o1 h1 hC => jj_callV ok_GR_port ml_GR_37 im_GR_port se_GR_GR_port (by decide +kernel) (hs.rcGR hG.2) rfl (by omega) (Nat.le_of_ble_eq_true rfl) hC) (by decide) rfl (fun _ _ _ q => ⟨rfl, rfl, _, q⟩) (fun v1 h _ hs => ?_)
  exact jj_iret .int (by decide +kernel) rfl rfl ⟨Or.inl rfl, hs⟩
theorem s_GR_one_2 {l : Launch} {G : jj_G} {X : sy_X} {K o N d : Nat} {m : Nat} {h : jj_H} (hG : sy_G G X) (ho : o + m = 40) (hdd : 20 + 10 * m ≤ d) (hs : Sy G X K o N h) : jj_Q l G y_GR_one d [.ref (X.2.2.1 12), .int 2] h (sy_F 1 true G X K o N) :=
  jj_Q.of (by decide +kernel) (Nat.le_of_ble_eq_true rfl) (b_GR_one_2_0 hG ho hdd hs)
theorem one2_all {l : Launch} {G : jj_G} {X : sy_X} {N : Nat} (hG : sy_G G X) (m : Nat) : sy_One l G X N 2 20 m := fun K o h d ho hs hdd => s_GR_one_2 hG ho hdd hs
set_option maxRecDepth 100000 in
set_option maxHeartbeats 4000000 in
theorem b_GR_one_11_0 {l : Launch} {G : jj_G} {X : sy_X} {K o N d : Nat} {m : Nat} {h : jj_H} (hG : sy_G G X) (ho : o + m = 40) (hdd : 20 + 10 * m ≤ d) (hs : Sy G X K o N h) : jj_P l G y_GR_one d (sy_F 1 true G X K o N) 0 [some (.ref (X.2.2.1 12)), some (.int 11)] [] h := by
  refine jj_iload_n (j := 1) (by decide +kernel) rfl ?_
  refine jj_tableIn (dflt := 130) (lo := 0) (hi := 12) (offs := #[73, 79, 84, 89, 89, 94, 100, 106, 112, 118, 124, 130, 67]) (len := 67) (off := 130) (tgt := 131) (by decide +kernel) (by decide) (by decide) (by decide) (by decide) ?_
  refine jj_aload_n (j := 0) (by decide +kernel) rfl ?_
  refine jj_iconst (n := 1) (v := 1) (by decide +kernel) (by decide) ?_
  refine jj_aload_n (j := 0) (by decide +kernel) rfl ?_
  refine sy_ci (s_CU_takeName (d := d - 1) hG (by omega) hs) (fun o1 h1 hC => jj_callU ok_CU_takeName ml_GR_61 sm_GR_CU_takeName rfl im_CU_takeName se_GR_CU_takeName_u (by decide +kernel) (hs.rcGR hG.2) rfl (by omega) (Nat.le_of_ble_eq_true rfl) hC) (by decide) rfl (fun _ _ _ q => ⟨rfl, rfl, _, q⟩) (fun v1 h _ hs => ?_)
  refine jj_iconst (n := 0) (v := 0) (by decide +kernel) (by decide) ?_
  refine sy_cv (s_CU_tell (d := d - 1) hG (by omega) hs) (fun o1 h1 hC => jj_callU ok_CU_tell ml_GR_64 sm_GR_CU_tell rfl im_CU_tell se_GR_CU_tell_u (by decide +kernel) (hs.rcGR hG.2) rfl (by omega) (Nat.le_of_ble_eq_true rfl) hC) rfl (fun _ _ _ q => ⟨rfl, rfl, _, q⟩) (fun h hs => ?_)
  refine jj_iconst (n := 1) (v := 1) (by decide +kernel) (by decide) ?_
  exact jj_iret .int (by decide +kernel) rfl rfl ⟨Or.inl rfl, hs⟩
theorem s_GR_one_11 {l : Launch} {G : jj_G} {X : sy_X} {K o N d : Nat} {m : Nat} {h : jj_H} (hG : sy_G G X) (ho : o + m = 40) (hdd : 20 + 10 * m ≤ d) (hs : Sy G X K o N h) : jj_Q l G y_GR_one d [.ref (X.2.2.1 12), .int 11] h (sy_F 1 true G X K o N) :=
  jj_Q.of (by decide +kernel) (Nat.le_of_ble_eq_true rfl) (b_GR_one_11_0 hG ho hdd hs)
theorem one11_all {l : Launch} {G : jj_G} {X : sy_X} {N : Nat} (hG : sy_G G X) (m : Nat) : sy_One l G X N 11 20 m := fun K o h d ho hs hdd => s_GR_one_11 hG ho hdd hs
set_option maxRecDepth 100000 in
set_option maxHeartbeats 4000000 in
theorem b_GR_typeDeclaration_0 {l : Launch} {G : jj_G} {X : sy_X} {K o N d : Nat} {m : Nat} {h : jj_H} (hG : sy_G G X) (ho : o + m = 40) (hdd : 24 + 10 * m ≤ d) (hs : Sy G X K o N h) : jj_P l G y_GR_typeDeclaration d (sy_F 0 true G X K o N) 0 [some (.ref (X.2.2.1 12)), none, none] [] h := by
  refine jj_aload_n (j := 0) (by decide +kernel) rfl ?_
  refine jj_sipush (n := 304) (v := 304) (by decide +kernel) (by decide) ?_
  refine sy_cv (s_CU_expect (d := d - 1) hG (by omega) hs) (fun o1 h1 hC => jj_callU ok_CU_expect ml_GR_102 sm_GR_CU_expect rfl im_CU_expect se_GR_CU_expect_u (by decide +kernel) (hs.rcGR hG.2) rfl (by omega) (Nat.le_of_ble_eq_true rfl) hC) rfl (fun _ _ _ q => ⟨rfl, rfl, _, q⟩) (fun h hs => ?_)
  refine jj_aload_n (j := 0) (by decide +kernel) rfl ?_
  refine sy_ci (s_CU_takeName (d := d - 1) hG (by omega) hs) (fun o1 h1 hC => jj_callU ok_CU_takeName ml_GR_61 sm_GR_CU_takeName rfl im_CU_takeName se_GR_CU_takeName_u (by decide +kernel) (hs.rcGR hG.2) rfl (by omega) (Nat.le_of_ble_eq_true rfl) hC) (by decide) rfl (fun _ _ _ q => ⟨rfl, rfl, _, q⟩) (fun v1 h _ hs => ?_)
  refine jj_istore_n (j := 1) (by decide +kernel) (by decide) rfl ?_
  refine jj_aload_n (j := 0) (by decide +kernel) rfl ?_
  refine jj_sipush (n := 276) (v := 276) (by decide +kernel) (by decide) ?_
  refine sy_cv (s_CU_expect (d := d - 1) hG (by omega) hs) (fun o1 h1 hC => jj_callU ok_CU_expect ml_GR_102 sm_GR_CU_expect rfl im_CU_expect se_GR_CU_expect_u (by decide +kernel) (hs.rcGR hG.2) rfl (by omega) (Nat.le_of_ble_eq_true rfl) hC) rfl (fun _ _ _ q => ⟨rfl, rfl, _, q⟩) (fun h hs => ?_)
  refine jj_aload_n (j := 0) (by decide +kernel) rfl ?_
  refine jj_bipush (n := 40) (v := 40) (by decide +kernel) (by decide) ?_
  refine sy_cv (s_CU_expect (d := d - 1) hG (by omega) hs) (fun o1 h1 hC => jj_callU ok_CU_expect ml_GR_102 sm_GR_CU_expect rfl im_CU_expect se_GR_CU_expect_u (by decide +kernel) (hs.rcGR hG.2) rfl (by omega) (Nat.le_of_ble_eq_true rfl) hC) rfl (fun _ _ _ q => ⟨rfl, rfl, _, q⟩) (fun h hs => ?_)
  refine jj_aload_n (j := 0) (by decide +kernel) rfl ?_
  refine jj_bipush (n := 11) (v := 11) (by decide +kernel) (by decide) ?_
  refine jj_bipush (n := 44) (v := 44) (by decide +kernel) (by decide) ?_
  refine sy_ci (s_GR_oneOrMore (d := d - 1) (m := m) hG (by omega) (one11_all hG m) (by decide) (by omega) hs) (fun o1 h1 hC => jj_callV ok_GR_oneOrMore ml_GR_83 im_GR_oneOrMore se_GR_GR_oneOrMore (by decide +kernel) (hs.rcGR hG.2) rfl (by omega) (Nat.le_of_ble_eq_true rfl) hC) (by decide) rfl (fun _ _ _ q => ⟨rfl, rfl, _, q⟩) (fun v2 h _ hs => ?_)
  refine jj_istore_n (j := 2) (by decide +kernel) (by decide) rfl ?_
  refine jj_aload_n (j := 0) (by decide +kernel) rfl ?_
  refine jj_bipush (n := 41) (v := 41) (by decide +kernel) (by decide) ?_
  refine sy_cv (s_CU_expect (d := d - 1) hG (by omega) hs) (fun o1 h1 hC => jj_callU ok_CU_expect ml_GR_102 sm_GR_CU_expect rfl im_CU_expect se_GR_CU_expect_u (by decide +kernel) (hs.rcGR hG.2) rfl (by omega) (Nat.le_of_ble_eq_true rfl) hC) rfl (fun _ _ _ q => ⟨rfl, rfl, _, q⟩) (fun h hs => ?_)
  refine jj_aload_n (j := 0) (by decide +kernel) rfl ?_
  refine jj_bipush (n := 59) (v := 59) (by decide +kernel) (by decide) ?_
  refine sy_cv (s_CU_expect (d := d - 1) hG (by omega) hs) (fun o1 h1 hC => jj_callU ok_CU_expect ml_GR_102 sm_GR_CU_expect rfl im_CU_expect se_GR_CU_expect_u (by decide +kernel) (hs.rcGR hG.2) rfl (by omega) (Nat.le_of_ble_eq_true rfl) hC) rfl (fun _ _ _ q => ⟨rfl, rfl, _, q⟩) (fun h hs => ?_)
  refine jj_aload_n (j := 0) (by decide +kernel) rfl ?_
  refine jj_bipush (n := 53) (v := 53) (by decide +kernel) (by decide) ?_
  refine jj_iload_n (j := 1) (by decide +kernel) rfl ?_
  refine jj_iload_n (j := 2) (by decide +kernel) rfl ?_
  refine sy_cv (s_CU_tell (d := d - 1) hG (by omega) hs) (fun o1 h1 hC => jj_callU ok_CU_tell ml_GR_64 sm_GR_CU_tell rfl im_CU_tell se_GR_CU_tell_u (by decide +kernel) (hs.rcGR hG.2) rfl (by omega) (Nat.le_of_ble_eq_true rfl) hC) rfl (fun _ _ _ q => ⟨rfl, rfl, _, q⟩) (fun h hs => ?_)
  exact jj_vret (by decide +kernel) rfl ⟨rfl, hs⟩
theorem s_GR_typeDeclaration {l : Launch} {G : jj_G} {X : sy_X} {K o N d : Nat} {m : Nat} {h : jj_H} (hG : sy_G G X) (ho : o + m = 40) (hdd : 24 + 10 * m ≤ d) (hs : Sy G X K o N h) : jj_Q l G y_GR_typeDeclaration d [.ref (X.2.2.1 12)] h (sy_F 0 true G X K o N) :=
  jj_Q.of (by decide +kernel) (Nat.le_of_ble_eq_true rfl) (b_GR_typeDeclaration_0 hG ho hdd hs)
set_option maxRecDepth 100000 in
set_option maxHeartbeats 4000000 in
theorem b_GR_subtypeDeclaration_0 {l : Launch} {G : jj_G} {X : sy_X} {K o N d : Nat} {m : Nat} {h : jj_H} (hG : sy_G G X) (ho : o + m = 40) (hdd : 17 + 10 * m ≤ d) (hs : Sy G X K o N h) : jj_P l G y_GR_subtypeDeclaration d (sy_F 0 true G X K o N) 0 [some (.ref (X.2.2.1 12)), none] [] h := by
  refine jj_aload_n (j := 0) (by decide +kernel) rfl ?_
  refine jj_sipush (n := 300) (v := 300) (by decide +kernel) (by decide) ?_
  refine sy_cv (s_CU_expect (d := d - 1) hG (by omega) hs) (fun o1 h1 hC => jj_callU ok_CU_expect ml_GR_102 sm_GR_CU_expect rfl im_CU_expect se_GR_CU_expect_u (by decide +kernel) (hs.rcGR hG.2) rfl (by omega) (Nat.le_of_ble_eq_true rfl) hC) rfl (fun _ _ _ q => ⟨rfl, rfl, _, q⟩) (fun h hs => ?_)
  refine jj_aload_n (j := 0) (by decide +kernel) rfl ?_
  refine sy_ci (s_CU_takeName (d := d - 1) hG (by omega) hs) (fun o1 h1 hC => jj_callU ok_CU_takeName ml_GR_61 sm_GR_CU_takeName rfl im_CU_takeName se_GR_CU_takeName_u (by decide +kernel) (hs.rcGR hG.2) rfl (by omega) (Nat.le_of_ble_eq_true rfl) hC) (by decide) rfl (fun _ _ _ q => ⟨rfl, rfl, _, q⟩) (fun v1 h _ hs => ?_)
  refine jj_istore_n (j := 1) (by decide +kernel) (by decide) rfl ?_
  refine jj_aload_n (j := 0) (by decide +kernel) rfl ?_
  refine jj_sipush (n := 276) (v := 276) (by decide +kernel) (by decide) ?_
  refine sy_cv (s_CU_expect (d := d - 1) hG (by omega) hs) (fun o1 h1 hC => jj_callU ok_CU_expect ml_GR_102 sm_GR_CU_expect rfl im_CU_expect se_GR_CU_expect_u (by decide +kernel) (hs.rcGR hG.2) rfl (by omega) (Nat.le_of_ble_eq_true rfl) hC) rfl (fun _ _ _ q => ⟨rfl, rfl, _, q⟩) (fun h hs => ?_)
  refine jj_aload_n (j := 0) (by decide +kernel) rfl ?_
  refine sy_cv (s_GR_type (d := d - 1) (m := m) hG (by omega) (by omega) hs) (fun o1 h1 hC => jj_callV ok_GR_type ml_GR_124 im_GR_type se_GR_GR_type (by decide +kernel) (hs.rcGR hG.2) rfl (by omega) (Nat.le_of_ble_eq_true rfl) hC) rfl (fun _ _ _ q => ⟨rfl, rfl, _, q⟩) (fun h hs => ?_)
  refine jj_aload_n (j := 0) (by decide +kernel) rfl ?_
  refine jj_bipush (n := 59) (v := 59) (by decide +kernel) (by decide) ?_
  refine sy_cv (s_CU_expect (d := d - 1) hG (by omega) hs) (fun o1 h1 hC => jj_callU ok_CU_expect ml_GR_102 sm_GR_CU_expect rfl im_CU_expect se_GR_CU_expect_u (by decide +kernel) (hs.rcGR hG.2) rfl (by omega) (Nat.le_of_ble_eq_true rfl) hC) rfl (fun _ _ _ q => ⟨rfl, rfl, _, q⟩) (fun h hs => ?_)
  refine jj_aload_n (j := 0) (by decide +kernel) rfl ?_
  refine jj_bipush (n := 54) (v := 54) (by decide +kernel) (by decide) ?_
  refine jj_iload_n (j := 1) (by decide +kernel) rfl ?_
  refine jj_iconst (n := 1) (v := 1) (by decide +kernel) (by decide) ?_
  refine sy_cv (s_CU_tell (d := d - 1) hG (by omega) hs) (fun o1 h1 hC => jj_callU ok_CU_tell ml_GR_64 sm_GR_CU_tell rfl im_CU_tell se_GR_CU_tell_u (by decide +kernel) (hs.rcGR hG.2) rfl (by omega) (Nat.le_of_ble_eq_true rfl) hC) rfl (fun _ _ _ q => ⟨rfl, rfl, _, q⟩) (fun h hs => ?_)
  exact jj_vret (by decide +kernel) rfl ⟨rfl, hs⟩
theorem s_GR_subtypeDeclaration {l : Launch} {G : jj_G} {X : sy_X} {K o N d : Nat} {m : Nat} {h : jj_H} (hG : sy_G G X) (ho : o + m = 40) (hdd : 17 + 10 * m ≤ d) (hs : Sy G X K o N h) : jj_Q l G y_GR_subtypeDeclaration d [.ref (X.2.2.1 12)] h (sy_F 0 true G X K o N) :=
  jj_Q.of (by decide +kernel) (Nat.le_of_ble_eq_true rfl) (b_GR_subtypeDeclaration_0 hG ho hdd hs)
set_option maxRecDepth 100000 in
set_option maxHeartbeats 4000000 in
theorem b_GR_declaration_0 {l : Launch} {G : jj_G} {X : sy_X} {K o N d : Nat} {m : Nat} {h : jj_H} (hG : sy_G G X) (ho : o + m = 40) (hdd : 25 + 10 * m ≤ d) (hs : Sy G X K o N h) : jj_P l G y_GR_declaration d (sy_F 1 true G X K o N) 0 [some (.ref (X.2.2.1 12))] [] h := by
  refine jj_aload_n (j := 0) (by decide +kernel) rfl ?_
  obtain ⟨ki, va, pl, fa, fp, ne, hg⟩ := hs.gr hG.2
  refine jj_getfield 3 ck_GR fl_GR_68 (by decide) (by decide +kernel) hg rfl ?_
  refine jj_lookupAny (dflt := 71) (ps := #[(263, 51), (297, 44), (304, 65), (307, 58)]) (len := 44) (ts := [48, 55, 62, 69, 75]) (by decide +kernel) (by decide) (by decide +kernel) (jt_c ?_ (jt_c ?_ (jt_c ?_ (jt_c ?_ (jt_c ?_ jt_0)))))
  · skip
    refine jj_aload_n (j := 0) (by decide +kernel) rfl ?_
    refine jj_bipush (n := 50) (v := 50) (by decide +kernel) (by decide) ?_
    refine sy_ci (s_GR_objects (d := d - 1) (m := m) hG (by omega) (by omega) hs) (fun o1 h1 hC => jj_callV ok_GR_objects ml_GR_165 im_GR_objects se_GR_GR_objects (by decide +kernel) (hs.rcGR hG.2) rfl (by omega) (Nat.le_of_ble_eq_true rfl) hC) (by decide) rfl (fun _ _ _ q => ⟨rfl, rfl, _, q⟩) (fun v1 h _ hs => ?_)
    exact jj_iret .int (by decide +kernel) rfl rfl ⟨Or.inl rfl, hs⟩
  · skip
    refine jj_aload_n (j := 0) (by decide +kernel) rfl ?_
    refine jj_bipush (n := 51) (v := 51) (by decide +kernel) (by decide) ?_
    refine sy_ci (s_GR_objects (d := d - 1) (m := m) hG (by omega) (by omega) hs) (fun o1 h1 hC => jj_callV ok_GR_objects ml_GR_165 im_GR_objects se_GR_GR_objects (by decide +kernel) (hs.rcGR hG.2) rfl (by omega) (Nat.le_of_ble_eq_true rfl) hC) (by decide) rfl (fun _ _ _ q => ⟨rfl, rfl, _, q⟩) (fun v2 h _ hs => ?_)
    exact jj_iret .int (by decide +kernel) rfl rfl ⟨Or.inl rfl, hs⟩
  · skip
    refine jj_aload_n (j := 0) (by decide +kernel) rfl ?_
    refine jj_bipush (n := 52) (v := 52) (by decide +kernel) (by decide) ?_
    refine sy_ci (s_GR_objects (d := d - 1) (m := m) hG (by omega) (by omega) hs) (fun o1 h1 hC => jj_callV ok_GR_objects ml_GR_165 im_GR_objects se_GR_GR_objects (by decide +kernel) (hs.rcGR hG.2) rfl (by omega) (Nat.le_of_ble_eq_true rfl) hC) (by decide) rfl (fun _ _ _ q => ⟨rfl, rfl, _, q⟩) (fun v3 h _ hs => ?_)
    exact jj_iret .int (by decide +kernel) rfl rfl ⟨Or.inl rfl, hs⟩
  · skip
    refine jj_aload_n (j := 0) (by decide +kernel) rfl ?_
    refine sy_cv (s_GR_typeDeclaration (d := d - 1) (m := m) hG (by omega) (by omega) hs) (fun o1 h1 hC => jj_callV ok_GR_typeDeclaration ml_GR_168 im_GR_typeDeclaration se_GR_GR_typeDeclaration (by decide +kernel) (hs.rcGR hG.2) rfl (by omega) (Nat.le_of_ble_eq_true rfl) hC) rfl (fun _ _ _ q => ⟨rfl, rfl, _, q⟩) (fun h hs => ?_)
    refine jj_iconst (n := 1) (v := 1) (by decide +kernel) (by decide) ?_
    exact jj_iret .int (by decide +kernel) rfl rfl ⟨Or.inl rfl, hs⟩
  · skip
    refine jj_aload_n (j := 0) (by decide +kernel) rfl ?_
    refine sy_cv (s_GR_subtypeDeclaration (d := d - 1) (m := m) hG (by omega) (by omega) hs) (fun o1 h1 hC => jj_callV ok_GR_subtypeDeclaration ml_GR_171 im_GR_subtypeDeclaration se_GR_GR_subtypeDeclaration (by decide +kernel) (hs.rcGR hG.2) rfl (by omega) (Nat.le_of_ble_eq_true rfl) hC) rfl (fun _ _ _ q => ⟨rfl, rfl, _, q⟩) (fun h hs => ?_)
    refine jj_iconst (n := 1) (v := 1) (by decide +kernel) (by decide) ?_
    exact jj_iret .int (by decide +kernel) rfl rfl ⟨Or.inl rfl, hs⟩
theorem s_GR_declaration {l : Launch} {G : jj_G} {X : sy_X} {K o N d : Nat} {m : Nat} {h : jj_H} (hG : sy_G G X) (ho : o + m = 40) (hdd : 25 + 10 * m ≤ d) (hs : Sy G X K o N h) : jj_Q l G y_GR_declaration d [.ref (X.2.2.1 12)] h (sy_F 1 true G X K o N) :=
  jj_Q.of (by decide +kernel) (Nat.le_of_ble_eq_true rfl) (b_GR_declaration_0 hG ho hdd hs)
set_option maxRecDepth 100000 in
set_option maxHeartbeats 4000000 in
theorem b_GR_one_3_0 {l : Launch} {G : jj_G} {X : sy_X} {K o N d : Nat} {m : Nat} {h : jj_H} (hG : sy_G G X) (ho : o + m = 40) (hdd : 26 + 10 * m ≤ d) (hs : Sy G X K o N h) : jj_P l G y_GR_one d (sy_F 1 true G X K o N) 0 [some (.ref (X.2.2.1 12)), some (.int 3)] [] h := by
  refine jj_iload_n (j := 1) (by decide +kernel) rfl ?_
  refine jj_tableIn (dflt := 130) (lo := 0) (hi := 12) (offs := #[73, 79, 84, 89, 89, 94, 100, 106, 112, 118, 124, 130, 67]) (len := 67) (off := 89) (tgt := 90) (by decide +kernel) (by decide) (by decide) (by decide) (by decide) ?_
  refine jj_aload_n (j := 0) (by decide +kernel) rfl ?_
  refine sy_ci (s_GR_declaration (d := d - 1) (m := m) hG (by omega) (by omega) hs) (fun o1 h1 hC => jj_callV ok_GR_declaration ml_GR_40 im_GR_declaration se_GR_GR_declaration (by decide +kernel) (hs.rcGR hG.2) rfl (by omega) (Nat.le_of_ble_eq_true rfl) hC) (by decide) rfl (fun _ _ _ q => ⟨rfl, rfl, _, q⟩) (fun v1 h _ hs => ?_)
  exact jj_iret .int (by decide +kernel) rfl rfl ⟨Or.inl rfl, hs⟩
theorem s_GR_one_3 {l : Launch} {G : jj_G} {X : sy_X} {K o N d : Nat} {m : Nat} {h : jj_H} (hG : sy_G G X) (ho : o + m = 40) (hdd : 26 + 10 * m ≤ d) (hs : Sy G X K o N h) : jj_Q l G y_GR_one d [.ref (X.2.2.1 12), .int 3] h (sy_F 1 true G X K o N) :=
  jj_Q.of (by decide +kernel) (Nat.le_of_ble_eq_true rfl) (b_GR_one_3_0 hG ho hdd hs)
theorem one3_all {l : Launch} {G : jj_G} {X : sy_X} {N : Nat} (hG : sy_G G X) (m : Nat) : sy_One l G X N 3 26 m := fun K o h d ho hs hdd => s_GR_one_3 hG ho hdd hs
set_option maxRecDepth 100000 in
set_option maxHeartbeats 4000000 in
theorem b_GR_one_4_0 {l : Launch} {G : jj_G} {X : sy_X} {K o N d : Nat} {m : Nat} {h : jj_H} (hG : sy_G G X) (ho : o + m = 40) (hdd : 26 + 10 * m ≤ d) (hs : Sy G X K o N h) : jj_P l G y_GR_one d (sy_F 1 true G X K o N) 0 [some (.ref (X.2.2.1 12)), some (.int 4)] [] h := by
  refine jj_iload_n (j := 1) (by decide +kernel) rfl ?_
  refine jj_tableIn (dflt := 130) (lo := 0) (hi := 12) (offs := #[73, 79, 84, 89, 89, 94, 100, 106, 112, 118, 124, 130, 67]) (len := 67) (off := 89) (tgt := 90) (by decide +kernel) (by decide) (by decide) (by decide) (by decide) ?_
  refine jj_aload_n (j := 0) (by decide +kernel) rfl ?_
  refine sy_ci (s_GR_declaration (d := d - 1) (m := m) hG (by omega) (by omega) hs) (fun o1 h1 hC => jj_callV ok_GR_declaration ml_GR_40 im_GR_declaration se_GR_GR_declaration (by decide +kernel) (hs.rcGR hG.2) rfl (by omega) (Nat.le_of_ble_eq_true rfl) hC) (by decide) rfl (fun _ _ _ q => ⟨rfl, rfl, _, q⟩) (fun v1 h _ hs => ?_)
  exact jj_iret .int (by decide +kernel) rfl rfl ⟨Or.inl rfl, hs⟩
theorem s_GR_one_4 {l : Launch} {G : jj_G} {X : sy_X} {K o N d : Nat} {m : Nat} {h : jj_H} (hG : sy_G G X) (ho : o + m = 40) (hdd : 26 + 10 * m ≤ d) (hs : Sy G X K o N h) : jj_Q l G y_GR_one d [.ref (X.2.2.1 12), .int 4] h (sy_F 1 true G X K o N) :=
  jj_Q.of (by decide +kernel) (Nat.le_of_ble_eq_true rfl) (b_GR_one_4_0 hG ho hdd hs)
theorem one4_all {l : Launch} {G : jj_G} {X : sy_X} {N : Nat} (hG : sy_G G X) (m : Nat) : sy_One l G X N 4 26 m := fun K o h d ho hs hdd => s_GR_one_4 hG ho hdd hs
set_option maxRecDepth 100000 in
set_option maxHeartbeats 4000000 in
theorem b_GR_time_32 {l : Launch} {G : jj_G} {X : sy_X} {K o N d : Nat} {m : Nat} {h : jj_H} (hG : sy_G G X) (ho : o + m = 40) (hdd : 14 + 10 * m ≤ d) (hs : Sy G X K o N h) : jj_P l G y_GR_time d (sy_F 0 true G X K o N) 32 [some (.ref (X.2.2.1 12))] [] h := by
  refine jj_aload_n (j := 0) (by decide +kernel) rfl ?_
  refine jj_iconst (n := 3) (v := 3) (by decide +kernel) (by decide) ?_
  exact sy_cx (s_CU_raise (d := d - 1) hG.2 hs (by omega)) (fun o1 h1 hC => jj_callU ok_CU_raise ml_GR_93 sm_GR_CU_raise rfl im_CU_raise se_GR_CU_raise_u (by decide +kernel) (hs.rcGR hG.2) rfl (by omega) (Nat.le_of_ble_eq_true rfl) hC) rfl (fun _ _ q => ⟨rfl, rfl, _, q⟩)
set_option maxRecDepth 100000 in
set_option maxHeartbeats 4000000 in
theorem b_GR_time_0 {l : Launch} {G : jj_G} {X : sy_X} {K o N d : Nat} {m : Nat} {h : jj_H} (hG : sy_G G X) (ho : o + m = 40) (hdd : 14 + 10 * m ≤ d) (hs : Sy G X K o N h) : jj_P l G y_GR_time d (sy_F 0 true G X K o N) 0 [some (.ref (X.2.2.1 12))] [] h := by
  refine jj_aload_n (j := 0) (by decide +kernel) rfl ?_
  refine sy_cv (s_GR_primary (d := d - 1) (m := m) hG (by omega) (fun _ => expr_all hG _) (by omega) hs) (fun o1 h1 hC => jj_callV ok_GR_primary ml_GR_196 im_GR_primary se_GR_GR_primary (by decide +kernel) (hs.rcGR hG.2) rfl (by omega) (Nat.le_of_ble_eq_true rfl) hC) rfl (fun _ _ _ q => ⟨rfl, rfl, _, q⟩) (fun h hs => ?_)
  refine jj_aload_n (j := 0) (by decide +kernel) rfl ?_
  obtain ⟨ki, va, pl, fa, fp, ne, hg⟩ := hs.gr hG.2
  refine jj_getfield 3 ck_GR fl_GR_68 (by decide) (by decide +kernel) hg rfl ?_
  refine jj_sipush (n := 140) (v := 140) (by decide +kernel) (by decide) ?_
  refine jj_icmp_ne (off := 21) (tgt := 32) (by decide +kernel) (by decide) (fun c1 => ?_) (fun c1 => ?_)
  · skip
    exact jj_wk (js_s js_0) (b_GR_time_32 hG ho hdd hs)
  · skip
    refine jj_aload_n (j := 0) (by decide +kernel) rfl ?_
    obtain ⟨ki, va, pl, fa, fp, ne, hg⟩ := hs.gr hG.2
    refine jj_getfield 4 ck_GR fl_GR_162 (by decide) (by decide +kernel) hg rfl ?_
    refine jj_bipush (n := 12) (v := 12) (by decide +kernel) (by decide) ?_
    refine jj_icmp_lt (off := 12) (tgt := 32) (by decide +kernel) (by decide) (fun c2 => ?_) (fun c2 => ?_)
    · skip
      exact jj_wk (js_s js_0) (b_GR_time_32 hG ho hdd hs)
    · skip
      refine jj_aload_n (j := 0) (by decide +kernel) rfl ?_
      obtain ⟨ki, va, pl, fa, fp, ne, hg⟩ := hs.gr hG.2
      refine jj_getfield 4 ck_GR fl_GR_162 (by decide) (by decide +kernel) hg rfl ?_
      refine jj_bipush (n := 14) (v := 14) (by decide +kernel) (by decide) ?_
      refine jj_icmp_le (off := 8) (tgt := 37) (by decide +kernel) (by decide) (fun c3 => ?_) (fun c3 => ?_)
      · skip
        refine jj_aload_n (j := 0) (by decide +kernel) rfl ?_
        refine jj_bipush (n := 32) (v := 32) (by decide +kernel) (by decide) ?_
        refine jj_aload_n (j := 0) (by decide +kernel) rfl ?_
        refine sy_ci (s_CU_takeName (d := d - 1) hG (by omega) hs) (fun o1 h1 hC => jj_callU ok_CU_takeName ml_GR_61 sm_GR_CU_takeName rfl im_CU_takeName se_GR_CU_takeName_u (by decide +kernel) (hs.rcGR hG.2) rfl (by omega) (Nat.le_of_ble_eq_true rfl) hC) (by decide) rfl (fun _ _ _ q => ⟨rfl, rfl, _, q⟩) (fun v4 h _ hs => ?_)
        refine jj_iconst (n := 1) (v := 1) (by decide +kernel) (by decide) ?_
        refine sy_cv (s_CU_tell (d := d - 1) hG (by omega) hs) (fun o1 h1 hC => jj_callU ok_CU_tell ml_GR_64 sm_GR_CU_tell rfl im_CU_tell se_GR_CU_tell_u (by decide +kernel) (hs.rcGR hG.2) rfl (by omega) (Nat.le_of_ble_eq_true rfl) hC) rfl (fun _ _ _ q => ⟨rfl, rfl, _, q⟩) (fun h hs => ?_)
        exact jj_vret (by decide +kernel) rfl ⟨rfl, hs⟩
      · skip
        exact jj_wk (js_s js_0) (b_GR_time_32 hG ho hdd hs)
theorem s_GR_time {l : Launch} {G : jj_G} {X : sy_X} {K o N d : Nat} {m : Nat} {h : jj_H} (hG : sy_G G X) (ho : o + m = 40) (hdd : 14 + 10 * m ≤ d) (hs : Sy G X K o N h) : jj_Q l G y_GR_time d [.ref (X.2.2.1 12)] h (sy_F 0 true G X K o N) :=
  jj_Q.of (by decide +kernel) (Nat.le_of_ble_eq_true rfl) (b_GR_time_0 hG ho hdd hs)
set_option maxRecDepth 100000 in
set_option maxHeartbeats 4000000 in
theorem b_GR_one_9_0 {l : Launch} {G : jj_G} {X : sy_X} {K o N d : Nat} {m : Nat} {h : jj_H} (hG : sy_G G X) (ho : o + m = 40) (hdd : 20 + 10 * m ≤ d) (hs : Sy G X K o N h) : jj_P l G y_GR_one d (sy_F 1 true G X K o N) 0 [some (.ref (X.2.2.1 12)), some (.int 9)] [] h := by
  refine jj_iload_n (j := 1) (by decide +kernel) rfl ?_
  refine jj_tableIn (dflt := 130) (lo := 0) (hi := 12) (offs := #[73, 79, 84, 89, 89, 94, 100, 106, 112, 118, 124, 130, 67]) (len := 67) (off := 118) (tgt := 119) (by decide +kernel) (by decide) (by decide) (by decide) (by decide) ?_
  refine jj_aload_n (j := 0) (by decide +kernel) rfl ?_
  refine sy_cv (s_GR_time (d := d - 1) (m := m) hG (by omega) (by omega) hs) (fun o1 h1 hC => jj_callV ok_GR_time ml_GR_55 im_GR_time se_GR_GR_time (by decide +kernel) (hs.rcGR hG.2) rfl (by omega) (Nat.le_of_ble_eq_true rfl) hC) rfl (fun _ _ _ q => ⟨rfl, rfl, _, q⟩) (fun h hs => ?_)
  refine jj_iconst (n := 1) (v := 1) (by decide +kernel) (by decide) ?_
  exact jj_iret .int (by decide +kernel) rfl rfl ⟨Or.inl rfl, hs⟩
theorem s_GR_one_9 {l : Launch} {G : jj_G} {X : sy_X} {K o N d : Nat} {m : Nat} {h : jj_H} (hG : sy_G G X) (ho : o + m = 40) (hdd : 20 + 10 * m ≤ d) (hs : Sy G X K o N h) : jj_Q l G y_GR_one d [.ref (X.2.2.1 12), .int 9] h (sy_F 1 true G X K o N) :=
  jj_Q.of (by decide +kernel) (Nat.le_of_ble_eq_true rfl) (b_GR_one_9_0 hG ho hdd hs)
theorem one9_all {l : Launch} {G : jj_G} {X : sy_X} {N : Nat} (hG : sy_G G X) (m : Nat) : sy_One l G X N 9 20 m := fun K o h d ho hs hdd => s_GR_one_9 hG ho hdd hs
set_option maxRecDepth 100000 in
set_option maxHeartbeats 4000000 in
theorem b_GR_mode_0 {l : Launch} {G : jj_G} {X : sy_X} {K o N d : Nat} {m : Nat} {h : jj_H} (hG : sy_G G X) (ho : o + m = 40) (hdd : 21 + 10 * m ≤ d) (hs : Sy G X K o N h) : jj_P l G y_GR_mode d (sy_F 1 true G X K o N) 0 [some (.ref (X.2.2.1 12))] [] h := by
  refine jj_aload_n (j := 0) (by decide +kernel) rfl ?_
  refine jj_sipush (n := 294) (v := 294) (by decide +kernel) (by decide) ?_
  refine sy_ci (s_CU_accept (d := d - 1) hG (by omega) hs) (fun o1 h1 hC => jj_callU ok_CU_accept ml_GR_80 sm_GR_CU_accept rfl im_CU_accept se_GR_CU_accept_u (by decide +kernel) (hs.rcGR hG.2) rfl (by omega) (Nat.le_of_ble_eq_true rfl) hC) (by decide) rfl (fun _ _ _ q => ⟨rfl, rfl, _, q⟩) (fun v1 h _ hs => ?_)
  refine jj_if_eq (off := 19) (tgt := 26) (by decide +kernel) (by decide) (fun c2 => ?_) (fun c2 => ?_)
  · skip
    refine jj_aload_n (j := 0) (by decide +kernel) rfl ?_
    refine jj_sipush (n := 303) (v := 303) (by decide +kernel) (by decide) ?_
    refine sy_ci (s_CU_accept (d := d - 1) hG (by omega) hs) (fun o1 h1 hC => jj_callU ok_CU_accept ml_GR_80 sm_GR_CU_accept rfl im_CU_accept se_GR_CU_accept_u (by decide +kernel) (hs.rcGR hG.2) rfl (by omega) (Nat.le_of_ble_eq_true rfl) hC) (by decide) rfl (fun _ _ _ q => ⟨rfl, rfl, _, q⟩) (fun v3 h _ hs => ?_)
    refine jj_if_eq (off := 5) (tgt := 38) (by decide +kernel) (by decide) (fun c4 => ?_) (fun c4 => ?_)
    · skip
      refine jj_aload_n (j := 0) (by decide +kernel) rfl ?_
      refine jj_sipush (n := 274) (v := 274) (by decide +kernel) (by decide) ?_
      refine sy_ci (s_CU_accept (d := d - 1) hG (by omega) hs) (fun o1 h1 hC => jj_callU ok_CU_accept ml_GR_80 sm_GR_CU_accept rfl im_CU_accept se_GR_CU_accept_u (by decide +kernel) (hs.rcGR hG.2) rfl (by omega) (Nat.le_of_ble_eq_true rfl) hC) (by decide) rfl (fun _ _ _ q => ⟨rfl, rfl, _, q⟩) (fun v5 h _ hs => ?_)
      refine jj_pop (by decide +kernel) rfl ?_
      refine jj_iconst (n := 0) (v := 0) (by decide +kernel) (by decide) ?_
      exact jj_iret .int (by decide +kernel) rfl rfl ⟨Or.inl rfl, hs⟩
    · skip
      refine jj_iconst (n := 1) (v := 1) (by decide +kernel) (by decide) ?_
      exact jj_iret .int (by decide +kernel) rfl rfl ⟨Or.inl rfl, hs⟩
  · skip
    refine jj_aload_n (j := 0) (by decide +kernel) rfl ?_
    refine jj_bipush (n := 9) (v := 9) (by decide +kernel) (by decide) ?_
    refine sy_ci ((one9_all hG m) _ _ _ (d - 1) (by omega) hs (by omega)) (fun o1 h1 hC => jj_callV ok_GR_one ml_GR_76 im_GR_one se_GR_GR_one (by decide +kernel) (hs.rcGR hG.2) rfl (by omega) (Nat.le_of_ble_eq_true rfl) hC) (by decide) rfl (fun _ _ _ q => ⟨rfl, rfl, _, q⟩) (fun v6 h _ hs => ?_)
    refine jj_pop (by decide +kernel) rfl ?_
    refine jj_aload_n (j := 0) (by decide +kernel) rfl ?_
    refine jj_sipush (n := 274) (v := 274) (by decide +kernel) (by decide) ?_
    refine sy_cv (s_CU_expect (d := d - 1) hG (by omega) hs) (fun o1 h1 hC => jj_callU ok_CU_expect ml_GR_102 sm_GR_CU_expect rfl im_CU_expect se_GR_CU_expect_u (by decide +kernel) (hs.rcGR hG.2) rfl (by omega) (Nat.le_of_ble_eq_true rfl) hC) rfl (fun _ _ _ q => ⟨rfl, rfl, _, q⟩) (fun h hs => ?_)
    refine jj_iconst (n := 2) (v := 2) (by decide +kernel) (by decide) ?_
    exact jj_iret .int (by decide +kernel) rfl rfl ⟨Or.inl rfl, hs⟩
theorem s_GR_mode {l : Launch} {G : jj_G} {X : sy_X} {K o N d : Nat} {m : Nat} {h : jj_H} (hG : sy_G G X) (ho : o + m = 40) (hdd : 21 + 10 * m ≤ d) (hs : Sy G X K o N h) : jj_Q l G y_GR_mode d [.ref (X.2.2.1 12)] h (sy_F 1 true G X K o N) :=
  jj_Q.of (by decide +kernel) (Nat.le_of_ble_eq_true rfl) (b_GR_mode_0 hG ho hdd hs)
set_option maxRecDepth 100000 in
set_option maxHeartbeats 4000000 in
theorem b_GR_timeBehind_0 {l : Launch} {G : jj_G} {X : sy_X} {K o N d : Nat} {m : Nat} {x1 : Int32} {h : jj_H} (hG : sy_G G X) (ho : o + m = 40) (hdd : 21 + 10 * m ≤ d) (hs : Sy G X K o N h) : jj_P l G y_GR_timeBehind d (sy_F 0 true G X K o N) 0 [some (.ref (X.2.2.1 12)), some (.int x1)] [] h := by
  refine jj_aload_n (j := 0) (by decide +kernel) rfl ?_
  refine jj_iload_n (j := 1) (by decide +kernel) rfl ?_
  refine sy_ci (s_CU_accept (d := d - 1) hG (by omega) hs) (fun o1 h1 hC => jj_callU ok_CU_accept ml_GR_80 sm_GR_CU_accept rfl im_CU_accept se_GR_CU_accept_u (by decide +kernel) (hs.rcGR hG.2) rfl (by omega) (Nat.le_of_ble_eq_true rfl) hC) (by decide) rfl (fun _ _ _ q => ⟨rfl, rfl, _, q⟩) (fun v1 h _ hs => ?_)
  refine jj_if_eq (off := 13) (tgt := 18) (by decide +kernel) (by decide) (fun c2 => ?_) (fun c2 => ?_)
  · skip
    refine jj_aload_n (j := 0) (by decide +kernel) rfl ?_
    refine sy_cv (s_CU_tellNothing (d := d - 1) hG (by omega) hs) (fun o1 h1 hC => jj_callU ok_CU_tellNothing ml_GR_152 sm_GR_CU_tellNothing rfl im_CU_tellNothing se_GR_CU_tellNothing_u (by decide +kernel) (hs.rcGR hG.2) rfl (by omega) (Nat.le_of_ble_eq_true rfl) hC) rfl (fun _ _ _ q => ⟨rfl, rfl, _, q⟩) (fun h hs => ?_)
    exact jj_vret (by decide +kernel) rfl ⟨rfl, hs⟩
  · skip
    refine jj_aload_n (j := 0) (by decide +kernel) rfl ?_
    refine jj_bipush (n := 9) (v := 9) (by decide +kernel) (by decide) ?_
    refine sy_ci ((one9_all hG m) _ _ _ (d - 1) (by omega) hs (by omega)) (fun o1 h1 hC => jj_callV ok_GR_one ml_GR_76 im_GR_one se_GR_GR_one (by decide +kernel) (hs.rcGR hG.2) rfl (by omega) (Nat.le_of_ble_eq_true rfl) hC) (by decide) rfl (fun _ _ _ q => ⟨rfl, rfl, _, q⟩) (fun v3 h _ hs => ?_)
    refine jj_pop (by decide +kernel) rfl ?_
    refine jj_goto (off := 7) (tgt := 22) (by decide +kernel) (by decide) ?_
    exact jj_vret (by decide +kernel) rfl ⟨rfl, hs⟩
theorem s_GR_timeBehind {l : Launch} {G : jj_G} {X : sy_X} {K o N d : Nat} {m : Nat} {x1 : Int32} {h : jj_H} (hG : sy_G G X) (ho : o + m = 40) (hdd : 21 + 10 * m ≤ d) (hs : Sy G X K o N h) : jj_Q l G y_GR_timeBehind d [.ref (X.2.2.1 12), .int x1] h (sy_F 0 true G X K o N) :=
  jj_Q.of (by decide +kernel) (Nat.le_of_ble_eq_true rfl) (b_GR_timeBehind_0 hG ho hdd hs)
set_option maxRecDepth 100000 in
set_option maxHeartbeats 4000000 in
theorem b_GR_element_0 {l : Launch} {G : jj_G} {X : sy_X} {K o N d : Nat} {m : Nat} {h : jj_H} (hG : sy_G G X) (ho : o + m = 40) (hdd : 22 + 10 * m ≤ d) (hs : Sy G X K o N h) : jj_P l G y_GR_element d (sy_F 0 true G X K o N) 0 [some (.ref (X.2.2.1 12))] [] h := by
  refine jj_aload_n (j := 0) (by decide +kernel) rfl ?_
  refine sy_cv (expr_all hG m _ _ _ (d - 1) (by omega) hs (by omega)) (fun o1 h1 hC => jj_callV ok_GR_expression ml_GR_149 im_GR_expression se_GR_GR_expression (by decide +kernel) (hs.rcGR hG.2) rfl (by omega) (Nat.le_of_ble_eq_true rfl) hC) rfl (fun _ _ _ q => ⟨rfl, rfl, _, q⟩) (fun h hs => ?_)
  refine jj_aload_n (j := 0) (by decide +kernel) rfl ?_
  refine jj_sipush (n := 257) (v := 257) (by decide +kernel) (by decide) ?_
  refine sy_cv (s_GR_timeBehind (d := d - 1) (m := m) hG (by omega) (by omega) hs) (fun o1 h1 hC => jj_callV ok_GR_timeBehind ml_GR_193 im_GR_timeBehind se_GR_GR_timeBehind (by decide +kernel) (hs.rcGR hG.2) rfl (by omega) (Nat.le_of_ble_eq_true rfl) hC) rfl (fun _ _ _ q => ⟨rfl, rfl, _, q⟩) (fun h hs => ?_)
  refine jj_aload_n (j := 0) (by decide +kernel) rfl ?_
  refine jj_bipush (n := 31) (v := 31) (by decide +kernel) (by decide) ?_
  refine jj_iconst (n := 0) (v := 0) (by decide +kernel) (by decide) ?_
  refine jj_iconst (n := 2) (v := 2) (by decide +kernel) (by decide) ?_
  refine sy_cv (s_CU_tell (d := d - 1) hG (by omega) hs) (fun o1 h1 hC => jj_callU ok_CU_tell ml_GR_64 sm_GR_CU_tell rfl im_CU_tell se_GR_CU_tell_u (by decide +kernel) (hs.rcGR hG.2) rfl (by omega) (Nat.le_of_ble_eq_true rfl) hC) rfl (fun _ _ _ q => ⟨rfl, rfl, _, q⟩) (fun h hs => ?_)
  exact jj_vret (by decide +kernel) rfl ⟨rfl, hs⟩
theorem s_GR_element {l : Launch} {G : jj_G} {X : sy_X} {K o N d : Nat} {m : Nat} {h : jj_H} (hG : sy_G G X) (ho : o + m = 40) (hdd : 22 + 10 * m ≤ d) (hs : Sy G X K o N h) : jj_Q l G y_GR_element d [.ref (X.2.2.1 12)] h (sy_F 0 true G X K o N) :=
  jj_Q.of (by decide +kernel) (Nat.le_of_ble_eq_true rfl) (b_GR_element_0 hG ho hdd hs)
set_option maxRecDepth 100000 in
set_option maxHeartbeats 4000000 in
theorem b_GR_one_8_0 {l : Launch} {G : jj_G} {X : sy_X} {K o N d : Nat} {m : Nat} {h : jj_H} (hG : sy_G G X) (ho : o + m = 40) (hdd : 23 + 10 * m ≤ d) (hs : Sy G X K o N h) : jj_P l G y_GR_one d (sy_F 1 true G X K o N) 0 [some (.ref (X.2.2.1 12)), some (.int 8)] [] h := by
  refine jj_iload_n (j := 1) (by decide +kernel) rfl ?_
  refine jj_tableIn (dflt := 130) (lo := 0) (hi := 12) (offs := #[73, 79, 84, 89, 89, 94, 100, 106, 112, 118, 124, 130, 67]) (len := 67) (off := 112) (tgt := 113) (by decide +kernel) (by decide) (by decide) (by decide) (by decide) ?_
  refine jj_aload_n (j := 0) (by decide +kernel) rfl ?_
  refine sy_cv (s_GR_element (d := d - 1) (m := m) hG (by omega) (by omega) hs) (fun o1 h1 hC => jj_callV ok_GR_element ml_GR_52 im_GR_element se_GR_GR_element (by decide +kernel) (hs.rcGR hG.2) rfl (by omega) (Nat.le_of_ble_eq_true rfl) hC) rfl (fun _ _ _ q => ⟨rfl, rfl, _, q⟩) (fun h hs => ?_)
  refine jj_iconst (n := 1) (v := 1) (by decide +kernel) (by decide) ?_
  exact jj_iret .int (by decide +kernel) rfl rfl ⟨Or.inl rfl, hs⟩
theorem s_GR_one_8 {l : Launch} {G : jj_G} {X : sy_X} {K o N d : Nat} {m : Nat} {h : jj_H} (hG : sy_G G X) (ho : o + m = 40) (hdd : 23 + 10 * m ≤ d) (hs : Sy G X K o N h) : jj_Q l G y_GR_one d [.ref (X.2.2.1 12), .int 8] h (sy_F 1 true G X K o N) :=
  jj_Q.of (by decide +kernel) (Nat.le_of_ble_eq_true rfl) (b_GR_one_8_0 hG ho hdd hs)
theorem one8_all {l : Launch} {G : jj_G} {X : sy_X} {N : Nat} (hG : sy_G G X) (m : Nat) : sy_One l G X N 8 23 m := fun K o h d ho hs hdd => s_GR_one_8 hG ho hdd hs
set_option maxRecDepth 100000 in
set_option maxHeartbeats 4000000 in
theorem b_GR_choice_0 {l : Launch} {G : jj_G} {X : sy_X} {K o N d : Nat} {m : Nat} {h : jj_H} (hG : sy_G G X) (ho : o + m = 40) (hdd : 16 + 10 * m ≤ d) (hs : Sy G X K o N h) : jj_P l G y_GR_choice d (sy_F 0 true G X K o N) 0 [some (.ref (X.2.2.1 12))] [] h := by
  refine jj_aload_n (j := 0) (by decide +kernel) rfl ?_
  refine jj_sipush (n := 289) (v := 289) (by decide +kernel) (by decide) ?_
  refine sy_ci (s_CU_accept (d := d - 1) hG (by omega) hs) (fun o1 h1 hC => jj_callU ok_CU_accept ml_GR_80 sm_GR_CU_accept rfl im_CU_accept se_GR_CU_accept_u (by decide +kernel) (hs.rcGR hG.2) rfl (by omega) (Nat.le_of_ble_eq_true rfl) hC) (by decide) rfl (fun _ _ _ q => ⟨rfl, rfl, _, q⟩) (fun v1 h _ hs => ?_)
  refine jj_if_eq (off := 14) (tgt := 21) (by decide +kernel) (by decide) (fun c2 => ?_) (fun c2 => ?_)
  · skip
    refine jj_aload_n (j := 0) (by decide +kernel) rfl ?_
    refine sy_cv (expr_all hG m _ _ _ (d - 1) (by omega) hs (by omega)) (fun o1 h1 hC => jj_callV ok_GR_expression ml_GR_149 im_GR_expression se_GR_GR_expression (by decide +kernel) (hs.rcGR hG.2) rfl (by omega) (Nat.le_of_ble_eq_true rfl) hC) rfl (fun _ _ _ q => ⟨rfl, rfl, _, q⟩) (fun h hs => ?_)
    exact jj_vret (by decide +kernel) rfl ⟨rfl, hs⟩
  · skip
    refine jj_aload_n (j := 0) (by decide +kernel) rfl ?_
    refine jj_bipush (n := 37) (v := 37) (by decide +kernel) (by decide) ?_
    refine jj_iconst (n := 0) (v := 0) (by decide +kernel) (by decide) ?_
    refine jj_iconst (n := 0) (v := 0) (by decide +kernel) (by decide) ?_
    refine sy_cv (s_CU_tell (d := d - 1) hG (by omega) hs) (fun o1 h1 hC => jj_callU ok_CU_tell ml_GR_64 sm_GR_CU_tell rfl im_CU_tell se_GR_CU_tell_u (by decide +kernel) (hs.rcGR hG.2) rfl (by omega) (Nat.le_of_ble_eq_true rfl) hC) rfl (fun _ _ _ q => ⟨rfl, rfl, _, q⟩) (fun h hs => ?_)
    refine jj_goto (off := 7) (tgt := 25) (by decide +kernel) (by decide) ?_
    exact jj_vret (by decide +kernel) rfl ⟨rfl, hs⟩
theorem s_GR_choice {l : Launch} {G : jj_G} {X : sy_X} {K o N d : Nat} {m : Nat} {h : jj_H} (hG : sy_G G X) (ho : o + m = 40) (hdd : 16 + 10 * m ≤ d) (hs : Sy G X K o N h) : jj_Q l G y_GR_choice d [.ref (X.2.2.1 12)] h (sy_F 0 true G X K o N) :=
  jj_Q.of (by decide +kernel) (Nat.le_of_ble_eq_true rfl) (b_GR_choice_0 hG ho hdd hs)
set_option maxRecDepth 100000 in
set_option maxHeartbeats 4000000 in
theorem b_GR_one_10_0 {l : Launch} {G : jj_G} {X : sy_X} {K o N d : Nat} {m : Nat} {h : jj_H} (hG : sy_G G X) (ho : o + m = 40) (hdd : 20 + 10 * m ≤ d) (hs : Sy G X K o N h) : jj_P l G y_GR_one d (sy_F 1 true G X K o N) 0 [some (.ref (X.2.2.1 12)), some (.int 10)] [] h := by
  refine jj_iload_n (j := 1) (by decide +kernel) rfl ?_
  refine jj_tableIn (dflt := 130) (lo := 0) (hi := 12) (offs := #[73, 79, 84, 89, 89, 94, 100, 106, 112, 118, 124, 130, 67]) (len := 67) (off := 124) (tgt := 125) (by decide +kernel) (by decide) (by decide) (by decide) (by decide) ?_
  refine jj_aload_n (j := 0) (by decide +kernel) rfl ?_
  refine sy_cv (s_GR_choice (d := d - 1) (m := m) hG (by omega) (by omega) hs) (fun o1 h1 hC => jj_callV ok_GR_choice ml_GR_58 im_GR_choice se_GR_GR_choice (by decide +kernel) (hs.rcGR hG.2) rfl (by omega) (Nat.le_of_ble_eq_true rfl) hC) rfl (fun _ _ _ q => ⟨rfl, rfl, _, q⟩) (fun h hs => ?_)
  refine jj_iconst (n := 1) (v := 1) (by decide +kernel) (by decide) ?_
  exact jj_iret .int (by decide +kernel) rfl rfl ⟨Or.inl rfl, hs⟩
theorem s_GR_one_10 {l : Launch} {G : jj_G} {X : sy_X} {K o N d : Nat} {m : Nat} {h : jj_H} (hG : sy_G G X) (ho : o + m = 40) (hdd : 20 + 10 * m ≤ d) (hs : Sy G X K o N h) : jj_Q l G y_GR_one d [.ref (X.2.2.1 12), .int 10] h (sy_F 1 true G X K o N) :=
  jj_Q.of (by decide +kernel) (Nat.le_of_ble_eq_true rfl) (b_GR_one_10_0 hG ho hdd hs)
theorem one10_all {l : Launch} {G : jj_G} {X : sy_X} {N : Nat} (hG : sy_G G X) (m : Nat) : sy_One l G X N 10 20 m := fun K o h d ho hs hdd => s_GR_one_10 hG ho hdd hs
set_option maxRecDepth 100000 in
set_option maxHeartbeats 4000000 in
theorem b_GR_map_37 {l : Launch} {G : jj_G} {X : sy_X} {K o N d : Nat} {m : Nat} {h : jj_H} {x1 : Int32} (hG : sy_G G X) (ho : o + m = 40) (hdd : 16 + 10 * m ≤ d) (hs : Sy G X K o N h) : jj_P l G y_GR_map d (sy_F 0 true G X K o N) 37 [some (.ref (X.2.2.1 12)), some (.int x1)] [] h := by
  refine jj_aload_n (j := 0) (by decide +kernel) rfl ?_
  refine jj_bipush (n := 63) (v := 63) (by decide +kernel) (by decide) ?_
  refine jj_iload_n (j := 1) (by decide +kernel) rfl ?_
  refine jj_iconst (n := 1) (v := 1) (by decide +kernel) (by decide) ?_
  refine sy_cv (s_CU_tell (d := d - 1) hG (by omega) hs) (fun o1 h1 hC => jj_callU ok_CU_tell ml_GR_64 sm_GR_CU_tell rfl im_CU_tell se_GR_CU_tell_u (by decide +kernel) (hs.rcGR hG.2) rfl (by omega) (Nat.le_of_ble_eq_true rfl) hC) rfl (fun _ _ _ q => ⟨rfl, rfl, _, q⟩) (fun h hs => ?_)
  exact jj_vret (by decide +kernel) rfl ⟨rfl, hs⟩
set_option maxRecDepth 100000 in
set_option maxHeartbeats 4000000 in
theorem b_GR_map_0 {l : Launch} {G : jj_G} {X : sy_X} {K o N d : Nat} {m : Nat} {h : jj_H} (hG : sy_G G X) (ho : o + m = 40) (hdd : 16 + 10 * m ≤ d) (hs : Sy G X K o N h) : jj_P l G y_GR_map d (sy_F 0 true G X K o N) 0 [some (.ref (X.2.2.1 12)), none] [] h := by
  refine jj_aload_n (j := 0) (by decide +kernel) rfl ?_
  refine sy_ci (s_CU_takeName (d := d - 1) hG (by omega) hs) (fun o1 h1 hC => jj_callU ok_CU_takeName ml_GR_61 sm_GR_CU_takeName rfl im_CU_takeName se_GR_CU_takeName_u (by decide +kernel) (hs.rcGR hG.2) rfl (by omega) (Nat.le_of_ble_eq_true rfl) hC) (by decide) rfl (fun _ _ _ q => ⟨rfl, rfl, _, q⟩) (fun v1 h _ hs => ?_)
  refine jj_istore_n (j := 1) (by decide +kernel) (by decide) rfl ?_
  refine jj_aload_n (j := 0) (by decide +kernel) rfl ?_
  refine jj_sipush (n := 130) (v := 130) (by decide +kernel) (by decide) ?_
  refine sy_cv (s_CU_expect (d := d - 1) hG (by omega) hs) (fun o1 h1 hC => jj_callU ok_CU_expect ml_GR_102 sm_GR_CU_expect rfl im_CU_expect se_GR_CU_expect_u (by decide +kernel) (hs.rcGR hG.2) rfl (by omega) (Nat.le_of_ble_eq_true rfl) hC) rfl (fun _ _ _ q => ⟨rfl, rfl, _, q⟩) (fun h hs => ?_)
  refine jj_aload_n (j := 0) (by decide +kernel) rfl ?_
  obtain ⟨ki, va, pl, fa, fp, ne, hg⟩ := hs.gr hG.2
  refine jj_getfield 3 ck_GR fl_GR_68 (by decide) (by decide +kernel) hg rfl ?_
  refine jj_sipush (n := 287) (v := 287) (by decide +kernel) (by decide) ?_
  refine jj_icmp_ne (off := 14) (tgt := 33) (by decide +kernel) (by decide) (fun c2 => ?_) (fun c2 => ?_)
  · skip
    refine jj_aload_n (j := 0) (by decide +kernel) rfl ?_
    refine sy_cv (expr_all hG m _ _ _ (d - 1) (by omega) hs (by omega)) (fun o1 h1 hC => jj_callV ok_GR_expression ml_GR_149 im_GR_expression se_GR_GR_expression (by decide +kernel) (hs.rcGR hG.2) rfl (by omega) (Nat.le_of_ble_eq_true rfl) hC) rfl (fun _ _ _ q => ⟨rfl, rfl, _, q⟩) (fun h hs => ?_)
    exact jj_wk (js_s (js_s js_0)) (b_GR_map_37 hG ho hdd hs)
  · skip
    refine jj_aload_n (j := 0) (by decide +kernel) rfl ?_
    refine sy_cv (s_CU_tellNothing (d := d - 1) hG (by omega) hs) (fun o1 h1 hC => jj_callU ok_CU_tellNothing ml_GR_152 sm_GR_CU_tellNothing rfl im_CU_tellNothing se_GR_CU_tellNothing_u (by decide +kernel) (hs.rcGR hG.2) rfl (by omega) (Nat.le_of_ble_eq_true rfl) hC) rfl (fun _ _ _ q => ⟨rfl, rfl, _, q⟩) (fun h hs => ?_)
    refine jj_aload_n (j := 0) (by decide +kernel) rfl ?_
    refine sy_cv (s_CU_take (d := d - 1) hG (by omega) hs) (fun o1 h1 hC => jj_callU ok_CU_take ml_GR_134 sm_GR_CU_take rfl im_CU_take se_GR_CU_take_u (by decide +kernel) (hs.rcGR hG.2) rfl (by omega) (Nat.le_of_ble_eq_true rfl) hC) rfl (fun _ _ _ q => ⟨rfl, rfl, _, q⟩) (fun h hs => ?_)
    refine jj_goto (off := 7) (tgt := 37) (by decide +kernel) (by decide) ?_
    exact jj_wk (js_s (js_s js_0)) (b_GR_map_37 hG ho hdd hs)
theorem s_GR_map {l : Launch} {G : jj_G} {X : sy_X} {K o N d : Nat} {m : Nat} {h : jj_H} (hG : sy_G G X) (ho : o + m = 40) (hdd : 16 + 10 * m ≤ d) (hs : Sy G X K o N h) : jj_Q l G y_GR_map d [.ref (X.2.2.1 12)] h (sy_F 0 true G X K o N) :=
  jj_Q.of (by decide +kernel) (Nat.le_of_ble_eq_true rfl) (b_GR_map_0 hG ho hdd hs)
set_option maxRecDepth 100000 in
set_option maxHeartbeats 4000000 in
theorem b_GR_one_6_0 {l : Launch} {G : jj_G} {X : sy_X} {K o N d : Nat} {m : Nat} {h : jj_H} (hG : sy_G G X) (ho : o + m = 40) (hdd : 20 + 10 * m ≤ d) (hs : Sy G X K o N h) : jj_P l G y_GR_one d (sy_F 1 true G X K o N) 0 [some (.ref (X.2.2.1 12)), some (.int 6)] [] h := by
  refine jj_iload_n (j := 1) (by decide +kernel) rfl ?_
  refine jj_tableIn (dflt := 130) (lo := 0) (hi := 12) (offs := #[73, 79, 84, 89, 89, 94, 100, 106, 112, 118, 124, 130, 67]) (len := 67) (off := 100) (tgt := 101) (by decide +kernel) (by decide) (by decide) (by decide) (by decide) ?_
  refine jj_aload_n (j := 0) (by decide +kernel) rfl ?_
  refine sy_cv (s_GR_map (d := d - 1) (m := m) hG (by omega) (by omega) hs) (fun o1 h1 hC => jj_callV ok_GR_map ml_GR_46 im_GR_map se_GR_GR_map (by decide +kernel) (hs.rcGR hG.2) rfl (by omega) (Nat.le_of_ble_eq_true rfl) hC) rfl (fun _ _ _ q => ⟨rfl, rfl, _, q⟩) (fun h hs => ?_)
  refine jj_iconst (n := 1) (v := 1) (by decide +kernel) (by decide) ?_
  exact jj_iret .int (by decide +kernel) rfl rfl ⟨Or.inl rfl, hs⟩
theorem s_GR_one_6 {l : Launch} {G : jj_G} {X : sy_X} {K o N d : Nat} {m : Nat} {h : jj_H} (hG : sy_G G X) (ho : o + m = 40) (hdd : 20 + 10 * m ≤ d) (hs : Sy G X K o N h) : jj_Q l G y_GR_one d [.ref (X.2.2.1 12), .int 6] h (sy_F 1 true G X K o N) :=
  jj_Q.of (by decide +kernel) (Nat.le_of_ble_eq_true rfl) (b_GR_one_6_0 hG ho hdd hs)
theorem one6_all {l : Launch} {G : jj_G} {X : sy_X} {N : Nat} (hG : sy_G G X) (m : Nat) : sy_One l G X N 6 20 m := fun K o h d ho hs hdd => s_GR_one_6 hG ho hdd hs
set_option maxRecDepth 100000 in
set_option maxHeartbeats 4000000 in
theorem b_GR_mapList_0 {l : Launch} {G : jj_G} {X : sy_X} {K o N d : Nat} {m : Nat} {x1 : Int32} {h : jj_H} (hG : sy_G G X) (ho : o + m = 40) (hdd : 24 + 10 * m ≤ d) (hs : Sy G X K o N h) : jj_P l G y_GR_mapList d (sy_F 0 true G X K o N) 0 [some (.ref (X.2.2.1 12)), some (.int x1)] [] h := by
  refine jj_aload_n (j := 0) (by decide +kernel) rfl ?_
  refine jj_iload_n (j := 1) (by decide +kernel) rfl ?_
  refine sy_ci (s_CU_accept (d := d - 1) hG (by omega) hs) (fun o1 h1 hC => jj_callU ok_CU_accept ml_GR_80 sm_GR_CU_accept rfl im_CU_accept se_GR_CU_accept_u (by decide +kernel) (hs.rcGR hG.2) rfl (by omega) (Nat.le_of_ble_eq_true rfl) hC) (by decide) rfl (fun _ _ _ q => ⟨rfl, rfl, _, q⟩) (fun v1 h _ hs => ?_)
  refine jj_if_eq (off := 33) (tgt := 38) (by decide +kernel) (by decide) (fun c2 => ?_) (fun c2 => ?_)
  · skip
    refine jj_aload_n (j := 0) (by decide +kernel) rfl ?_
    refine sy_cv (s_GR_emptyList (d := d - 1) hG (by omega) hs) (fun o1 h1 hC => jj_callV ok_GR_emptyList ml_GR_115 im_GR_emptyList se_GR_GR_emptyList (by decide +kernel) (hs.rcGR hG.2) rfl (by omega) (Nat.le_of_ble_eq_true rfl) hC) rfl (fun _ _ _ q => ⟨rfl, rfl, _, q⟩) (fun h hs => ?_)
    exact jj_vret (by decide +kernel) rfl ⟨rfl, hs⟩
  · skip
    refine jj_aload_n (j := 0) (by decide +kernel) rfl ?_
    refine jj_sipush (n := 278) (v := 278) (by decide +kernel) (by decide) ?_
    refine sy_cv (s_CU_expect (d := d - 1) hG (by omega) hs) (fun o1 h1 hC => jj_callU ok_CU_expect ml_GR_102 sm_GR_CU_expect rfl im_CU_expect se_GR_CU_expect_u (by decide +kernel) (hs.rcGR hG.2) rfl (by omega) (Nat.le_of_ble_eq_true rfl) hC) rfl (fun _ _ _ q => ⟨rfl, rfl, _, q⟩) (fun h hs => ?_)
    refine jj_aload_n (j := 0) (by decide +kernel) rfl ?_
    refine jj_bipush (n := 40) (v := 40) (by decide +kernel) (by decide) ?_
    refine sy_cv (s_CU_expect (d := d - 1) hG (by omega) hs) (fun o1 h1 hC => jj_callU ok_CU_expect ml_GR_102 sm_GR_CU_expect rfl im_CU_expect se_GR_CU_expect_u (by decide +kernel) (hs.rcGR hG.2) rfl (by omega) (Nat.le_of_ble_eq_true rfl) hC) rfl (fun _ _ _ q => ⟨rfl, rfl, _, q⟩) (fun h hs => ?_)
    refine jj_aload_n (j := 0) (by decide +kernel) rfl ?_
    refine jj_bipush (n := 6) (v := 6) (by decide +kernel) (by decide) ?_
    refine jj_bipush (n := 44) (v := 44) (by decide +kernel) (by decide) ?_
    refine sy_cv (s_GR_listOfSome (d := d - 1) (m := m) hG (by omega) (one6_all hG m) (by decide) (by omega) hs) (fun o1 h1 hC => jj_callV ok_GR_listOfSome ml_GR_112 im_GR_listOfSome se_GR_GR_listOfSome (by decide +kernel) (hs.rcGR hG.2) rfl (by omega) (Nat.le_of_ble_eq_true rfl) hC) rfl (fun _ _ _ q => ⟨rfl, rfl, _, q⟩) (fun h hs => ?_)
    refine jj_aload_n (j := 0) (by decide +kernel) rfl ?_
    refine jj_bipush (n := 41) (v := 41) (by decide +kernel) (by decide) ?_
    refine sy_cv (s_CU_expect (d := d - 1) hG (by omega) hs) (fun o1 h1 hC => jj_callU ok_CU_expect ml_GR_102 sm_GR_CU_expect rfl im_CU_expect se_GR_CU_expect_u (by decide +kernel) (hs.rcGR hG.2) rfl (by omega) (Nat.le_of_ble_eq_true rfl) hC) rfl (fun _ _ _ q => ⟨rfl, rfl, _, q⟩) (fun h hs => ?_)
    refine jj_goto (off := 7) (tgt := 42) (by decide +kernel) (by decide) ?_
    exact jj_vret (by decide +kernel) rfl ⟨rfl, hs⟩
theorem s_GR_mapList {l : Launch} {G : jj_G} {X : sy_X} {K o N d : Nat} {m : Nat} {x1 : Int32} {h : jj_H} (hG : sy_G G X) (ho : o + m = 40) (hdd : 24 + 10 * m ≤ d) (hs : Sy G X K o N h) : jj_Q l G y_GR_mapList d [.ref (X.2.2.1 12), .int x1] h (sy_F 0 true G X K o N) :=
  jj_Q.of (by decide +kernel) (Nat.le_of_ble_eq_true rfl) (b_GR_mapList_0 hG ho hdd hs)
set_option maxRecDepth 100000 in
set_option maxHeartbeats 4000000 in
theorem b_GR_instance_0 {l : Launch} {G : jj_G} {X : sy_X} {K o N d : Nat} {m : Nat} {x1 : Int32} {h : jj_H} (hG : sy_G G X) (ho : o + m = 40) (hdd : 25 + 10 * m ≤ d) (hs : Sy G X K o N h) : jj_P l G y_GR_instance d (sy_F 0 true G X K o N) 0 [some (.ref (X.2.2.1 12)), some (.int x1)] [] h := by
  refine jj_aload_n (j := 0) (by decide +kernel) rfl ?_
  refine jj_sipush (n := 305) (v := 305) (by decide +kernel) (by decide) ?_
  refine sy_cv (s_CU_expect (d := d - 1) hG (by omega) hs) (fun o1 h1 hC => jj_callU ok_CU_expect ml_GR_102 sm_GR_CU_expect rfl im_CU_expect se_GR_CU_expect_u (by decide +kernel) (hs.rcGR hG.2) rfl (by omega) (Nat.le_of_ble_eq_true rfl) hC) rfl (fun _ _ _ q => ⟨rfl, rfl, _, q⟩) (fun h hs => ?_)
  refine jj_aload_n (j := 0) (by decide +kernel) rfl ?_
  refine jj_iconst (n := 1) (v := 1) (by decide +kernel) (by decide) ?_
  refine jj_aload_n (j := 0) (by decide +kernel) rfl ?_
  refine sy_ci (s_CU_takeName (d := d - 1) hG (by omega) hs) (fun o1 h1 hC => jj_callU ok_CU_takeName ml_GR_61 sm_GR_CU_takeName rfl im_CU_takeName se_GR_CU_takeName_u (by decide +kernel) (hs.rcGR hG.2) rfl (by omega) (Nat.le_of_ble_eq_true rfl) hC) (by decide) rfl (fun _ _ _ q => ⟨rfl, rfl, _, q⟩) (fun v1 h _ hs => ?_)
  refine jj_iconst (n := 0) (v := 0) (by decide +kernel) (by decide) ?_
  refine sy_cv (s_CU_tell (d := d - 1) hG (by omega) hs) (fun o1 h1 hC => jj_callU ok_CU_tell ml_GR_64 sm_GR_CU_tell rfl im_CU_tell se_GR_CU_tell_u (by decide +kernel) (hs.rcGR hG.2) rfl (by omega) (Nat.le_of_ble_eq_true rfl) hC) rfl (fun _ _ _ q => ⟨rfl, rfl, _, q⟩) (fun h hs => ?_)
  refine jj_aload_n (j := 0) (by decide +kernel) rfl ?_
  refine jj_sipush (n := 271) (v := 271) (by decide +kernel) (by decide) ?_
  refine sy_cv (s_GR_mapList (d := d - 1) (m := m) hG (by omega) (by omega) hs) (fun o1 h1 hC => jj_callV ok_GR_mapList ml_GR_199 im_GR_mapList se_GR_GR_mapList (by decide +kernel) (hs.rcGR hG.2) rfl (by omega) (Nat.le_of_ble_eq_true rfl) hC) rfl (fun _ _ _ q => ⟨rfl, rfl, _, q⟩) (fun h hs => ?_)
  refine jj_aload_n (j := 0) (by decide +kernel) rfl ?_
  refine jj_sipush (n := 291) (v := 291) (by decide +kernel) (by decide) ?_
  refine sy_cv (s_GR_mapList (d := d - 1) (m := m) hG (by omega) (by omega) hs) (fun o1 h1 hC => jj_callV ok_GR_mapList ml_GR_199 im_GR_mapList se_GR_GR_mapList (by decide +kernel) (hs.rcGR hG.2) rfl (by omega) (Nat.le_of_ble_eq_true rfl) hC) rfl (fun _ _ _ q => ⟨rfl, rfl, _, q⟩) (fun h hs => ?_)
  refine jj_aload_n (j := 0) (by decide +kernel) rfl ?_
  refine jj_bipush (n := 59) (v := 59) (by decide +kernel) (by decide) ?_
  refine sy_cv (s_CU_expect (d := d - 1) hG (by omega) hs) (fun o1 h1 hC => jj_callU ok_CU_expect ml_GR_102 sm_GR_CU_expect rfl im_CU_expect se_GR_CU_expect_u (by decide +kernel) (hs.rcGR hG.2) rfl (by omega) (Nat.le_of_ble_eq_true rfl) hC) rfl (fun _ _ _ q => ⟨rfl, rfl, _, q⟩) (fun h hs => ?_)
  refine jj_aload_n (j := 0) (by decide +kernel) rfl ?_
  refine jj_bipush (n := 62) (v := 62) (by decide +kernel) (by decide) ?_
  refine jj_iload_n (j := 1) (by decide +kernel) rfl ?_
  refine jj_iconst (n := 3) (v := 3) (by decide +kernel) (by decide) ?_
  refine sy_cv (s_CU_tell (d := d - 1) hG (by omega) hs) (fun o1 h1 hC => jj_callU ok_CU_tell ml_GR_64 sm_GR_CU_tell rfl im_CU_tell se_GR_CU_tell_u (by decide +kernel) (hs.rcGR hG.2) rfl (by omega) (Nat.le_of_ble_eq_true rfl) hC) rfl (fun _ _ _ q => ⟨rfl, rfl, _, q⟩) (fun h hs => ?_)
  exact jj_vret (by decide +kernel) rfl ⟨rfl, hs⟩
theorem s_GR_instance {l : Launch} {G : jj_G} {X : sy_X} {K o N d : Nat} {m : Nat} {x1 : Int32} {h : jj_H} (hG : sy_G G X) (ho : o + m = 40) (hdd : 25 + 10 * m ≤ d) (hs : Sy G X K o N h) : jj_Q l G y_GR_instance d [.ref (X.2.2.1 12), .int x1] h (sy_F 0 true G X K o N) :=
  jj_Q.of (by decide +kernel) (Nat.le_of_ble_eq_true rfl) (b_GR_instance_0 hG ho hdd hs)
end
section
set_option maxRecDepth 100000 in
set_option maxHeartbeats 4000000 in
theorem b_GR_assignment_60 {l : Launch} {G : jj_G} {X : sy_X} {K o N d : Nat} {m : Nat} {h : jj_H} {x1 y0 : Int32} (hG : sy_G G X) (ho : o + m = 40) (hdd : 26 + 10 * m ≤ d) (hs : Sy G X K o N h) : jj_P l G y_GR_assignment d (sy_F 0 true G X K o N) 60 [some (.ref (X.2.2.1 12)), some (.int x1), none] [.int y0] h := by
  refine jj_istore_n (j := 2) (by decide +kernel) (by decide) rfl ?_
  refine jj_iload_n (j := 2) (by decide +kernel) rfl ?_
  refine jj_aload_n (j := 0) (by decide +kernel) rfl ?_
  refine jj_bipush (n := 8) (v := 8) (by decide +kernel) (by decide) ?_
  refine jj_bipush (n := 44) (v := 44) (by decide +kernel) (by decide) ?_
  refine sy_ci (s_GR_oneOrMore (d := d - 1) (m := m) hG (by omega) (one8_all hG m) (by decide) (by omega) hs) (fun o1 h1 hC => jj_callV ok_GR_oneOrMore ml_GR_83 im_GR_oneOrMore se_GR_GR_oneOrMore (by decide +kernel) (hs.rcGR hG.2) rfl (by omega) (Nat.le_of_ble_eq_true rfl) hC) (by decide) rfl (fun _ _ _ q => ⟨rfl, rfl, _, q⟩) (fun v1 h _ hs => ?_)
  refine jj_iadd (by decide +kernel) ?_
  refine jj_istore_n (j := 2) (by decide +kernel) (by decide) rfl ?_
  refine jj_aload_n (j := 0) (by decide +kernel) rfl ?_
  refine jj_bipush (n := 59) (v := 59) (by decide +kernel) (by decide) ?_
  refine sy_cv (s_CU_expect (d := d - 1) hG (by omega) hs) (fun o1 h1 hC => jj_callU ok_CU_expect ml_GR_102 sm_GR_CU_expect rfl im_CU_expect se_GR_CU_expect_u (by decide +kernel) (hs.rcGR hG.2) rfl (by omega) (Nat.le_of_ble_eq_true rfl) hC) rfl (fun _ _ _ q => ⟨rfl, rfl, _, q⟩) (fun h hs => ?_)
  refine jj_aload_n (j := 0) (by decide +kernel) rfl ?_
  refine jj_bipush (n := 30) (v := 30) (by decide +kernel) (by decide) ?_
  refine jj_iload_n (j := 1) (by decide +kernel) rfl ?_
  refine jj_iload_n (j := 2) (by decide +kernel) rfl ?_
  refine sy_cv (s_CU_tell (d := d - 1) hG (by omega) hs) (fun o1 h1 hC => jj_callU ok_CU_tell ml_GR_64 sm_GR_CU_tell rfl im_CU_tell se_GR_CU_tell_u (by decide +kernel) (hs.rcGR hG.2) rfl (by omega) (Nat.le_of_ble_eq_true rfl) hC) rfl (fun _ _ _ q => ⟨rfl, rfl, _, q⟩) (fun h hs => ?_)
  exact jj_vret (by decide +kernel) rfl ⟨rfl, hs⟩
set_option maxRecDepth 100000 in
set_option maxHeartbeats 4000000 in
theorem b_GR_assignment_0 {l : Launch} {G : jj_G} {X : sy_X} {K o N d : Nat} {m : Nat} {h : jj_H} (hG : sy_G G X) (ho : o + m = 40) (hdd : 26 + 10 * m ≤ d) (hs : Sy G X K o N h) : jj_P l G y_GR_assignment d (sy_F 0 true G X K o N) 0 [some (.ref (X.2.2.1 12)), none, none] [] h := by
  refine jj_aload_n (j := 0) (by decide +kernel) rfl ?_
  refine jj_aload_n (j := 0) (by decide +kernel) rfl ?_
  refine sy_ci (s_CU_takeName (d := d - 1) hG (by omega) hs) (fun o1 h1 hC => jj_callU ok_CU_takeName ml_GR_61 sm_GR_CU_takeName rfl im_CU_takeName se_GR_CU_takeName_u (by decide +kernel) (hs.rcGR hG.2) rfl (by omega) (Nat.le_of_ble_eq_true rfl) hC) (by decide) rfl (fun _ _ _ q => ⟨rfl, rfl, _, q⟩) (fun v1 h _ hs => ?_)
  refine jj_iconst (n := 0) (v := 0) (by decide +kernel) (by decide) ?_
  refine sy_cv (s_GR_behindName (d := d - 1) (m := m) hG (by omega) (fun _ => expr_all hG _) (by omega) hs) (fun o1 h1 hC => jj_callV ok_GR_behindName ml_GR_186 im_GR_behindName se_GR_GR_behindName (by decide +kernel) (hs.rcGR hG.2) rfl (by omega) (Nat.le_of_ble_eq_true rfl) hC) rfl (fun _ _ _ q => ⟨rfl, rfl, _, q⟩) (fun h hs => ?_)
  refine jj_aload_n (j := 0) (by decide +kernel) rfl ?_
  refine jj_sipush (n := 128) (v := 128) (by decide +kernel) (by decide) ?_
  refine sy_ci (s_CU_accept (d := d - 1) hG (by omega) hs) (fun o1 h1 hC => jj_callU ok_CU_accept ml_GR_80 sm_GR_CU_accept rfl im_CU_accept se_GR_CU_accept_u (by decide +kernel) (hs.rcGR hG.2) rfl (by omega) (Nat.le_of_ble_eq_true rfl) hC) (by decide) rfl (fun _ _ _ q => ⟨rfl, rfl, _, q⟩) (fun v2 h _ hs => ?_)
  refine jj_if_eq (off := 22) (tgt := 38) (by decide +kernel) (by decide) (fun c3 => ?_) (fun c3 => ?_)
  · skip
    refine jj_aload_n (j := 0) (by decide +kernel) rfl ?_
    refine jj_sipush (n := 129) (v := 129) (by decide +kernel) (by decide) ?_
    refine sy_cv (s_CU_expect (d := d - 1) hG (by omega) hs) (fun o1 h1 hC => jj_callU ok_CU_expect ml_GR_102 sm_GR_CU_expect rfl im_CU_expect se_GR_CU_expect_u (by decide +kernel) (hs.rcGR hG.2) rfl (by omega) (Nat.le_of_ble_eq_true rfl) hC) rfl (fun _ _ _ q => ⟨rfl, rfl, _, q⟩) (fun h hs => ?_)
    refine jj_aload_n (j := 0) (by decide +kernel) rfl ?_
    refine sy_ci (s_GR_mode (d := d - 1) (m := m) hG (by omega) (by omega) hs) (fun o1 h1 hC => jj_callV ok_GR_mode ml_GR_190 im_GR_mode se_GR_GR_mode (by decide +kernel) (hs.rcGR hG.2) rfl (by omega) (Nat.le_of_ble_eq_true rfl) hC) (by decide) rfl (fun _ _ _ q => ⟨rfl, rfl, _, q⟩) (fun v4 h _ hs => ?_)
    refine jj_istore_n (j := 1) (by decide +kernel) (by decide) rfl ?_
    refine jj_iload_n (j := 1) (by decide +kernel) rfl ?_
    refine jj_iconst (n := 2) (v := 2) (by decide +kernel) (by decide) ?_
    refine jj_icmp_ne (off := 7) (tgt := 59) (by decide +kernel) (by decide) (fun c5 => ?_) (fun c5 => ?_)
    · skip
      refine jj_iconst (n := 1) (v := 1) (by decide +kernel) (by decide) ?_
      exact jj_wk (js_s (js_s (js_n js_0))) (b_GR_assignment_60 hG ho hdd hs)
    · skip
      refine jj_iconst (n := 2) (v := 2) (by decide +kernel) (by decide) ?_
      refine jj_goto (off := 4) (tgt := 60) (by decide +kernel) (by decide) ?_
      exact jj_wk (js_s (js_s (js_n js_0))) (b_GR_assignment_60 hG ho hdd hs)
  · skip
    refine jj_aload_n (j := 0) (by decide +kernel) rfl ?_
    refine sy_cv (expr_all hG m _ _ _ (d - 1) (by omega) hs (by omega)) (fun o1 h1 hC => jj_callV ok_GR_expression ml_GR_149 im_GR_expression se_GR_GR_expression (by decide +kernel) (hs.rcGR hG.2) rfl (by omega) (Nat.le_of_ble_eq_true rfl) hC) rfl (fun _ _ _ q => ⟨rfl, rfl, _, q⟩) (fun h hs => ?_)
    refine jj_aload_n (j := 0) (by decide +kernel) rfl ?_
    refine jj_bipush (n := 59) (v := 59) (by decide +kernel) (by decide) ?_
    refine sy_cv (s_CU_expect (d := d - 1) hG (by omega) hs) (fun o1 h1 hC => jj_callU ok_CU_expect ml_GR_102 sm_GR_CU_expect rfl im_CU_expect se_GR_CU_expect_u (by decide +kernel) (hs.rcGR hG.2) rfl (by omega) (Nat.le_of_ble_eq_true rfl) hC) rfl (fun _ _ _ q => ⟨rfl, rfl, _, q⟩) (fun h hs => ?_)
    refine jj_aload_n (j := 0) (by decide +kernel) rfl ?_
    refine jj_bipush (n := 33) (v := 33) (by decide +kernel) (by decide) ?_
    refine jj_iconst (n := 0) (v := 0) (by decide +kernel) (by decide) ?_
    refine jj_iconst (n := 2) (v := 2) (by decide +kernel) (by decide) ?_
    refine sy_cv (s_CU_tell (d := d - 1) hG (by omega) hs) (fun o1 h1 hC => jj_callU ok_CU_tell ml_GR_64 sm_GR_CU_tell rfl im_CU_tell se_GR_CU_tell_u (by decide +kernel) (hs.rcGR hG.2) rfl (by omega) (Nat.le_of_ble_eq_true rfl) hC) rfl (fun _ _ _ q => ⟨rfl, rfl, _, q⟩) (fun h hs => ?_)
    exact jj_vret (by decide +kernel) rfl ⟨rfl, hs⟩
theorem s_GR_assignment {l : Launch} {G : jj_G} {X : sy_X} {K o N d : Nat} {m : Nat} {h : jj_H} (hG : sy_G G X) (ho : o + m = 40) (hdd : 26 + 10 * m ≤ d) (hs : Sy G X K o N h) : jj_Q l G y_GR_assignment d [.ref (X.2.2.1 12)] h (sy_F 0 true G X K o N) :=
  jj_Q.of (by decide +kernel) (Nat.le_of_ble_eq_true rfl) (b_GR_assignment_0 hG ho hdd hs)
set_option maxRecDepth 100000 in
set_option maxHeartbeats 4000000 in
theorem b_GR_leaveOrRepeat_0 {l : Launch} {G : jj_G} {X : sy_X} {K o N d : Nat} {m : Nat} {x1 : Int32} {h : jj_H} (hG : sy_G G X) (ho : o + m = 40) (hdd : 17 + 10 * m ≤ d) (hs : Sy G X K o N h) : jj_P l G y_GR_leaveOrRepeat d (sy_F 0 true G X K o N) 0 [some (.ref (X.2.2.1 12)), some (.int x1)] [] h := by
  refine jj_aload_n (j := 0) (by decide +kernel) rfl ?_
  refine sy_cv (s_CU_take (d := d - 1) hG (by omega) hs) (fun o1 h1 hC => jj_callU ok_CU_take ml_GR_134 sm_GR_CU_take rfl im_CU_take se_GR_CU_take_u (by decide +kernel) (hs.rcGR hG.2) rfl (by omega) (Nat.le_of_ble_eq_true rfl) hC) rfl (fun _ _ _ q => ⟨rfl, rfl, _, q⟩) (fun h hs => ?_)
  refine jj_aload_n (j := 0) (by decide +kernel) rfl ?_
  refine jj_sipush (n := 309) (v := 309) (by decide +kernel) (by decide) ?_
  refine sy_cv (s_GR_expressionBehind (d := d - 1) (m := m) hG (by omega) (by omega) hs) (fun o1 h1 hC => jj_callV ok_GR_expressionBehind ml_GR_127 im_GR_expressionBehind se_GR_GR_expressionBehind (by decide +kernel) (hs.rcGR hG.2) rfl (by omega) (Nat.le_of_ble_eq_true rfl) hC) rfl (fun _ _ _ q => ⟨rfl, rfl, _, q⟩) (fun h hs => ?_)
  refine jj_aload_n (j := 0) (by decide +kernel) rfl ?_
  refine jj_bipush (n := 59) (v := 59) (by decide +kernel) (by decide) ?_
  refine sy_cv (s_CU_expect (d := d - 1) hG (by omega) hs) (fun o1 h1 hC => jj_callU ok_CU_expect ml_GR_102 sm_GR_CU_expect rfl im_CU_expect se_GR_CU_expect_u (by decide +kernel) (hs.rcGR hG.2) rfl (by omega) (Nat.le_of_ble_eq_true rfl) hC) rfl (fun _ _ _ q => ⟨rfl, rfl, _, q⟩) (fun h hs => ?_)
  refine jj_aload_n (j := 0) (by decide +kernel) rfl ?_
  refine jj_iload_n (j := 1) (by decide +kernel) rfl ?_
  refine jj_iconst (n := 0) (v := 0) (by decide +kernel) (by decide) ?_
  refine jj_iconst (n := 1) (v := 1) (by decide +kernel) (by decide) ?_
  refine sy_cv (s_CU_tell (d := d - 1) hG (by omega) hs) (fun o1 h1 hC => jj_callU ok_CU_tell ml_GR_64 sm_GR_CU_tell rfl im_CU_tell se_GR_CU_tell_u (by decide +kernel) (hs.rcGR hG.2) rfl (by omega) (Nat.le_of_ble_eq_true rfl) hC) rfl (fun _ _ _ q => ⟨rfl, rfl, _, q⟩) (fun h hs => ?_)
  exact jj_vret (by decide +kernel) rfl ⟨rfl, hs⟩
theorem s_GR_leaveOrRepeat {l : Launch} {G : jj_G} {X : sy_X} {K o N d : Nat} {m : Nat} {x1 : Int32} {h : jj_H} (hG : sy_G G X) (ho : o + m = 40) (hdd : 17 + 10 * m ≤ d) (hs : Sy G X K o N h) : jj_Q l G y_GR_leaveOrRepeat d [.ref (X.2.2.1 12), .int x1] h (sy_F 0 true G X K o N) :=
  jj_Q.of (by decide +kernel) (Nat.le_of_ble_eq_true rfl) (b_GR_leaveOrRepeat_0 hG ho hdd hs)
set_option maxRecDepth 100000 in
set_option maxHeartbeats 4000000 in
theorem b_GR_waitStatement_32 {l : Launch} {G : jj_G} {X : sy_X} {K o N d : Nat} {m : Nat} {h : jj_H} (hG : sy_G G X) (ho : o + m = 40) (hdd : 24 + 10 * m ≤ d) (hs : Sy G X K o N h) : jj_P l G y_GR_waitStatement d (sy_F 0 true G X K o N) 32 [some (.ref (X.2.2.1 12))] [] h := by
  refine jj_aload_n (j := 0) (by decide +kernel) rfl ?_
  refine jj_sipush (n := 306) (v := 306) (by decide +kernel) (by decide) ?_
  refine sy_cv (s_GR_expressionBehind (d := d - 1) (m := m) hG (by omega) (by omega) hs) (fun o1 h1 hC => jj_callV ok_GR_expressionBehind ml_GR_127 im_GR_expressionBehind se_GR_GR_expressionBehind (by decide +kernel) (hs.rcGR hG.2) rfl (by omega) (Nat.le_of_ble_eq_true rfl) hC) rfl (fun _ _ _ q => ⟨rfl, rfl, _, q⟩) (fun h hs => ?_)
  refine jj_aload_n (j := 0) (by decide +kernel) rfl ?_
  refine jj_sipush (n := 269) (v := 269) (by decide +kernel) (by decide) ?_
  refine sy_cv (s_GR_timeBehind (d := d - 1) (m := m) hG (by omega) (by omega) hs) (fun o1 h1 hC => jj_callV ok_GR_timeBehind ml_GR_193 im_GR_timeBehind se_GR_GR_timeBehind (by decide +kernel) (hs.rcGR hG.2) rfl (by omega) (Nat.le_of_ble_eq_true rfl) hC) rfl (fun _ _ _ q => ⟨rfl, rfl, _, q⟩) (fun h hs => ?_)
  refine jj_aload_n (j := 0) (by decide +kernel) rfl ?_
  refine jj_bipush (n := 59) (v := 59) (by decide +kernel) (by decide) ?_
  refine sy_cv (s_CU_expect (d := d - 1) hG (by omega) hs) (fun o1 h1 hC => jj_callU ok_CU_expect ml_GR_102 sm_GR_CU_expect rfl im_CU_expect se_GR_CU_expect_u (by decide +kernel) (hs.rcGR hG.2) rfl (by omega) (Nat.le_of_ble_eq_true rfl) hC) rfl (fun _ _ _ q => ⟨rfl, rfl, _, q⟩) (fun h hs => ?_)
  refine jj_aload_n (j := 0) (by decide +kernel) rfl ?_
  refine jj_bipush (n := 44) (v := 44) (by decide +kernel) (by decide) ?_
  refine jj_iconst (n := 0) (v := 0) (by decide +kernel) (by decide) ?_
  refine jj_iconst (n := 3) (v := 3) (by decide +kernel) (by decide) ?_
  refine sy_cv (s_CU_tell (d := d - 1) hG (by omega) hs) (fun o1 h1 hC => jj_callU ok_CU_tell ml_GR_64 sm_GR_CU_tell rfl im_CU_tell se_GR_CU_tell_u (by decide +kernel) (hs.rcGR hG.2) rfl (by omega) (Nat.le_of_ble_eq_true rfl) hC) rfl (fun _ _ _ q => ⟨rfl, rfl, _, q⟩) (fun h hs => ?_)
  exact jj_vret (by decide +kernel) rfl ⟨rfl, hs⟩
set_option maxRecDepth 100000 in
set_option maxHeartbeats 4000000 in
theorem b_GR_waitStatement_0 {l : Launch} {G : jj_G} {X : sy_X} {K o N d : Nat} {m : Nat} {h : jj_H} (hG : sy_G G X) (ho : o + m = 40) (hdd : 24 + 10 * m ≤ d) (hs : Sy G X K o N h) : jj_P l G y_GR_waitStatement d (sy_F 0 true G X K o N) 0 [some (.ref (X.2.2.1 12))] [] h := by
  refine jj_aload_n (j := 0) (by decide +kernel) rfl ?_
  refine jj_sipush (n := 308) (v := 308) (by decide +kernel) (by decide) ?_
  refine sy_cv (s_CU_expect (d := d - 1) hG (by omega) hs) (fun o1 h1 hC => jj_callU ok_CU_expect ml_GR_102 sm_GR_CU_expect rfl im_CU_expect se_GR_CU_expect_u (by decide +kernel) (hs.rcGR hG.2) rfl (by omega) (Nat.le_of_ble_eq_true rfl) hC) rfl (fun _ _ _ q => ⟨rfl, rfl, _, q⟩) (fun h hs => ?_)
  refine jj_aload_n (j := 0) (by decide +kernel) rfl ?_
  refine jj_sipush (n := 286) (v := 286) (by decide +kernel) (by decide) ?_
  refine sy_ci (s_CU_accept (d := d - 1) hG (by omega) hs) (fun o1 h1 hC => jj_callU ok_CU_accept ml_GR_80 sm_GR_CU_accept rfl im_CU_accept se_GR_CU_accept_u (by decide +kernel) (hs.rcGR hG.2) rfl (by omega) (Nat.le_of_ble_eq_true rfl) hC) (by decide) rfl (fun _ _ _ q => ⟨rfl, rfl, _, q⟩) (fun v1 h _ hs => ?_)
  refine jj_if_eq (off := 14) (tgt := 28) (by decide +kernel) (by decide) (fun c2 => ?_) (fun c2 => ?_)
  · skip
    refine jj_aload_n (j := 0) (by decide +kernel) rfl ?_
    refine sy_cv (s_GR_emptyList (d := d - 1) hG (by omega) hs) (fun o1 h1 hC => jj_callV ok_GR_emptyList ml_GR_115 im_GR_emptyList se_GR_GR_emptyList (by decide +kernel) (hs.rcGR hG.2) rfl (by omega) (Nat.le_of_ble_eq_true rfl) hC) rfl (fun _ _ _ q => ⟨rfl, rfl, _, q⟩) (fun h hs => ?_)
    exact jj_wk (js_s js_0) (b_GR_waitStatement_32 hG ho hdd hs)
  · skip
    refine jj_aload_n (j := 0) (by decide +kernel) rfl ?_
    refine jj_bipush (n := 11) (v := 11) (by decide +kernel) (by decide) ?_
    refine jj_bipush (n := 44) (v := 44) (by decide +kernel) (by decide) ?_
    refine sy_cv (s_GR_listOfSome (d := d - 1) (m := m) hG (by omega) (one11_all hG m) (by decide) (by omega) hs) (fun o1 h1 hC => jj_callV ok_GR_listOfSome ml_GR_112 im_GR_listOfSome se_GR_GR_listOfSome (by decide +kernel) (hs.rcGR hG.2) rfl (by omega) (Nat.le_of_ble_eq_true rfl) hC) rfl (fun _ _ _ q => ⟨rfl, rfl, _, q⟩) (fun h hs => ?_)
    refine jj_goto (off := 7) (tgt := 32) (by decide +kernel) (by decide) ?_
    exact jj_wk (js_s js_0) (b_GR_waitStatement_32 hG ho hdd hs)
theorem s_GR_waitStatement {l : Launch} {G : jj_G} {X : sy_X} {K o N d : Nat} {m : Nat} {h : jj_H} (hG : sy_G G X) (ho : o + m = 40) (hdd : 24 + 10 * m ≤ d) (hs : Sy G X K o N h) : jj_Q l G y_GR_waitStatement d [.ref (X.2.2.1 12)] h (sy_F 0 true G X K o N) :=
  jj_Q.of (by decide +kernel) (Nat.le_of_ble_eq_true rfl) (b_GR_waitStatement_0 hG ho hdd hs)
set_option maxRecDepth 100000 in
set_option maxHeartbeats 4000000 in
theorem b_GR_reportStatement_55 {l : Launch} {G : jj_G} {X : sy_X} {K o N d : Nat} {m : Nat} {h : jj_H} {x1 y1 y3 : Int32} (hG : sy_G G X) (ho : o + m = 40) (hdd : 16 + 10 * m ≤ d) (hs : Sy G X K o N h) : jj_P l G y_GR_reportStatement d (sy_F 0 true G X K o N) 55 [some (.ref (X.2.2.1 12)), some (.int x1)] [.int y3, .int 0, .int y1, .ref (X.2.2.1 12)] h := by
  refine sy_cv (s_CU_tell (d := d - 1) hG (by omega) hs) (fun o1 h1 hC => jj_callU ok_CU_tell ml_GR_64 sm_GR_CU_tell rfl im_CU_tell se_GR_CU_tell_u (by decide +kernel) (hs.rcGR hG.2) rfl (by omega) (Nat.le_of_ble_eq_true rfl) hC) rfl (fun _ _ _ q => ⟨rfl, rfl, _, q⟩) (fun h hs => ?_)
  exact jj_vret (by decide +kernel) rfl ⟨rfl, hs⟩
set_option maxRecDepth 100000 in
set_option maxHeartbeats 4000000 in
theorem b_GR_reportStatement_45 {l : Launch} {G : jj_G} {X : sy_X} {K o N d : Nat} {m : Nat} {h : jj_H} {x1 y1 : Int32} (hG : sy_G G X) (ho : o + m = 40) (hdd : 16 + 10 * m ≤ d) (hs : Sy G X K o N h) : jj_P l G y_GR_reportStatement d (sy_F 0 true G X K o N) 45 [some (.ref (X.2.2.1 12)), some (.int x1)] [.int y1, .ref (X.2.2.1 12)] h := by
  refine jj_iconst (n := 0) (v := 0) (by decide +kernel) (by decide) ?_
  refine jj_iload_n (j := 1) (by decide +kernel) rfl ?_
  refine jj_if_eq (off := 7) (tgt := 54) (by decide +kernel) (by decide) (fun c1 => ?_) (fun c1 => ?_)
  · skip
    refine jj_iconst (n := 1) (v := 1) (by decide +kernel) (by decide) ?_
    exact jj_wk (js_s (js_s js_0)) (b_GR_reportStatement_55 hG ho hdd hs)
  · skip
    refine jj_iconst (n := 2) (v := 2) (by decide +kernel) (by decide) ?_
    refine jj_goto (off := 4) (tgt := 55) (by decide +kernel) (by decide) ?_
    exact jj_wk (js_s (js_s js_0)) (b_GR_reportStatement_55 hG ho hdd hs)
set_option maxRecDepth 100000 in
set_option maxHeartbeats 4000000 in
theorem b_GR_reportStatement_16 {l : Launch} {G : jj_G} {X : sy_X} {K o N d : Nat} {m : Nat} {h : jj_H} {x1 : Int32} (hG : sy_G G X) (ho : o + m = 40) (hdd : 16 + 10 * m ≤ d) (hs : Sy G X K o N h) : jj_P l G y_GR_reportStatement d (sy_F 0 true G X K o N) 16 [some (.ref (X.2.2.1 12)), some (.int x1)] [] h := by
  refine jj_aload_n (j := 0) (by decide +kernel) rfl ?_
  refine jj_sipush (n := 296) (v := 296) (by decide +kernel) (by decide) ?_
  refine sy_cv (s_CU_expect (d := d - 1) hG (by omega) hs) (fun o1 h1 hC => jj_callU ok_CU_expect ml_GR_102 sm_GR_CU_expect rfl im_CU_expect se_GR_CU_expect_u (by decide +kernel) (hs.rcGR hG.2) rfl (by omega) (Nat.le_of_ble_eq_true rfl) hC) rfl (fun _ _ _ q => ⟨rfl, rfl, _, q⟩) (fun h hs => ?_)
  refine jj_aload_n (j := 0) (by decide +kernel) rfl ?_
  refine sy_cv (expr_all hG m _ _ _ (d - 1) (by omega) hs (by omega)) (fun o1 h1 hC => jj_callV ok_GR_expression ml_GR_149 im_GR_expression se_GR_GR_expression (by decide +kernel) (hs.rcGR hG.2) rfl (by omega) (Nat.le_of_ble_eq_true rfl) hC) rfl (fun _ _ _ q => ⟨rfl, rfl, _, q⟩) (fun h hs => ?_)
  refine jj_aload_n (j := 0) (by decide +kernel) rfl ?_
  refine jj_bipush (n := 59) (v := 59) (by decide +kernel) (by decide) ?_
  refine sy_cv (s_CU_expect (d := d - 1) hG (by omega) hs) (fun o1 h1 hC => jj_callU ok_CU_expect ml_GR_102 sm_GR_CU_expect rfl im_CU_expect se_GR_CU_expect_u (by decide +kernel) (hs.rcGR hG.2) rfl (by omega) (Nat.le_of_ble_eq_true rfl) hC) rfl (fun _ _ _ q => ⟨rfl, rfl, _, q⟩) (fun h hs => ?_)
  refine jj_aload_n (j := 0) (by decide +kernel) rfl ?_
  refine jj_iload_n (j := 1) (by decide +kernel) rfl ?_
  refine jj_if_eq (off := 8) (tgt := 43) (by decide +kernel) (by decide) (fun c1 => ?_) (fun c1 => ?_)
  · skip
    refine jj_bipush (n := 46) (v := 46) (by decide +kernel) (by decide) ?_
    exact jj_wk (js_s (js_s js_0)) (b_GR_reportStatement_45 hG ho hdd hs)
  · skip
    refine jj_bipush (n := 47) (v := 47) (by decide +kernel) (by decide) ?_
    refine jj_goto (off := 5) (tgt := 45) (by decide +kernel) (by decide) ?_
    exact jj_wk (js_s (js_s js_0)) (b_GR_reportStatement_45 hG ho hdd hs)
set_option maxRecDepth 100000 in
set_option maxHeartbeats 4000000 in
theorem b_GR_reportStatement_0 {l : Launch} {G : jj_G} {X : sy_X} {K o N d : Nat} {m : Nat} {h : jj_H} (hG : sy_G G X) (ho : o + m = 40) (hdd : 16 + 10 * m ≤ d) (hs : Sy G X K o N h) : jj_P l G y_GR_reportStatement d (sy_F 0 true G X K o N) 0 [some (.ref (X.2.2.1 12)), none] [] h := by
  refine jj_aload_n (j := 0) (by decide +kernel) rfl ?_
  refine jj_sipush (n := 259) (v := 259) (by decide +kernel) (by decide) ?_
  refine sy_ci (s_CU_accept (d := d - 1) hG (by omega) hs) (fun o1 h1 hC => jj_callU ok_CU_accept ml_GR_80 sm_GR_CU_accept rfl im_CU_accept se_GR_CU_accept_u (by decide +kernel) (hs.rcGR hG.2) rfl (by omega) (Nat.le_of_ble_eq_true rfl) hC) (by decide) rfl (fun _ _ _ q => ⟨rfl, rfl, _, q⟩) (fun v1 h _ hs => ?_)
  refine jj_istore_n (j := 1) (by decide +kernel) (by decide) rfl ?_
  refine jj_iload_n (j := 1) (by decide +kernel) rfl ?_
  refine jj_if_eq (off := 7) (tgt := 16) (by decide +kernel) (by decide) (fun c2 => ?_) (fun c2 => ?_)
  · skip
    exact jj_wk (js_s (js_s js_0)) (b_GR_reportStatement_16 hG ho hdd hs)
  · skip
    refine jj_aload_n (j := 0) (by decide +kernel) rfl ?_
    refine sy_cv (expr_all hG m _ _ _ (d - 1) (by omega) hs (by omega)) (fun o1 h1 hC => jj_callV ok_GR_expression ml_GR_149 im_GR_expression se_GR_GR_expression (by decide +kernel) (hs.rcGR hG.2) rfl (by omega) (Nat.le_of_ble_eq_true rfl) hC) rfl (fun _ _ _ q => ⟨rfl, rfl, _, q⟩) (fun h hs => ?_)
    exact jj_wk (js_s (js_s js_0)) (b_GR_reportStatement_16 hG ho hdd hs)
theorem s_GR_reportStatement {l : Launch} {G : jj_G} {X : sy_X} {K o N d : Nat} {m : Nat} {h : jj_H} (hG : sy_G G X) (ho : o + m = 40) (hdd : 16 + 10 * m ≤ d) (hs : Sy G X K o N h) : jj_Q l G y_GR_reportStatement d [.ref (X.2.2.1 12)] h (sy_F 0 true G X K o N) :=
  jj_Q.of (by decide +kernel) (Nat.le_of_ble_eq_true rfl) (b_GR_reportStatement_0 hG ho hdd hs)
set_option maxRecDepth 100000 in
set_option maxHeartbeats 4000000 in
theorem b_GR_ifStatement_85 {l : Launch} {G : jj_G} {X : sy_X} {K o N d : Nat} {m : Nat} {h : jj_H} {x1 x2 : Int32} (hG : sy_G G X) (ho : o + m = 40) (hS : 0 < m → sy_One l G X N 7 28 (m - 1)) (hdd : 26 + 10 * m ≤ d) (hm : 0 < m) (hs : Sy G X K (o + 1) N h) : jj_P l G y_GR_ifStatement d (sy_F 0 true G X K o N) 85 [some (.ref (X.2.2.1 12)), some (.int x1), some (.int x2)] [] h := by
  refine jj_aload_n (j := 0) (by decide +kernel) rfl ?_
  refine jj_sipush (n := 267) (v := 267) (by decide +kernel) (by decide) ?_
  refine sy_cv (s_CU_expect (d := d - 1) hG (by omega) hs) (fun o1 h1 hC => jj_callU ok_CU_expect ml_GR_102 sm_GR_CU_expect rfl im_CU_expect se_GR_CU_expect_u (by decide +kernel) (hs.rcGR hG.2) rfl (by omega) (Nat.le_of_ble_eq_true rfl) hC) rfl (fun _ _ _ q => ⟨rfl, rfl, _, q⟩) (fun h hs => ?_)
  refine jj_aload_n (j := 0) (by decide +kernel) rfl ?_
  refine jj_sipush (n := 272) (v := 272) (by decide +kernel) (by decide) ?_
  refine sy_cv (s_CU_expect (d := d - 1) hG (by omega) hs) (fun o1 h1 hC => jj_callU ok_CU_expect ml_GR_102 sm_GR_CU_expect rfl im_CU_expect se_GR_CU_expect_u (by decide +kernel) (hs.rcGR hG.2) rfl (by omega) (Nat.le_of_ble_eq_true rfl) hC) rfl (fun _ _ _ q => ⟨rfl, rfl, _, q⟩) (fun h hs => ?_)
  refine jj_aload_n (j := 0) (by decide +kernel) rfl ?_
  refine jj_bipush (n := 59) (v := 59) (by decide +kernel) (by decide) ?_
  refine sy_cv (s_CU_expect (d := d - 1) hG (by omega) hs) (fun o1 h1 hC => jj_callU ok_CU_expect ml_GR_102 sm_GR_CU_expect rfl im_CU_expect se_GR_CU_expect_u (by decide +kernel) (hs.rcGR hG.2) rfl (by omega) (Nat.le_of_ble_eq_true rfl) hC) rfl (fun _ _ _ q => ⟨rfl, rfl, _, q⟩) (fun h hs => ?_)
  refine jj_aload_n (j := 0) (by decide +kernel) rfl ?_
  refine sy_cv (s_CU_leave (d := d - 1) hG.2 hs) (fun o1 h1 hC => jj_callU ok_CU_leave ml_GR_205 sm_GR_CU_leave rfl im_CU_leave se_GR_CU_leave_u (by decide +kernel) (hs.rcGR hG.2) rfl (by omega) (Nat.le_of_ble_eq_true rfl) hC) rfl (fun q => by cases q) (fun h hs => ?_)
  refine jj_aload_n (j := 0) (by decide +kernel) rfl ?_
  refine jj_bipush (n := 34) (v := 34) (by decide +kernel) (by decide) ?_
  refine jj_iconst (n := 0) (v := 0) (by decide +kernel) (by decide) ?_
  refine jj_iload_n (j := 1) (by decide +kernel) rfl ?_
  refine jj_iconst (n := 1) (v := 1) (by decide +kernel) (by decide) ?_
  refine jj_iadd (by decide +kernel) ?_
  refine sy_cv (s_CU_tell (d := d - 1) hG (by omega) hs) (fun o1 h1 hC => jj_callU ok_CU_tell ml_GR_64 sm_GR_CU_tell rfl im_CU_tell se_GR_CU_tell_u (by decide +kernel) (hs.rcGR hG.2) rfl (by omega) (Nat.le_of_ble_eq_true rfl) hC) rfl (fun _ _ _ q => ⟨rfl, rfl, _, q⟩) (fun h hs => ?_)
  exact jj_vret (by decide +kernel) rfl ⟨rfl, hs⟩
set_option maxRecDepth 100000 in
set_option maxHeartbeats 4000000 in
theorem b_GR_ifStatement_62 {l : Launch} {G : jj_G} {X : sy_X} {K o N d : Nat} {m : Nat} {h : jj_H} {x1 x2 : Int32} (hG : sy_G G X) (ho : o + m = 40) (hS : 0 < m → sy_One l G X N 7 28 (m - 1)) (hdd : 26 + 10 * m ≤ d) (hm : 0 < m) (hs : Sy G X K (o + 1) N h) : jj_P l G y_GR_ifStatement d (sy_F 0 true G X K o N) 62 [some (.ref (X.2.2.1 12)), some (.int x1), some (.int x2)] [] h := by
  refine jj_aload_n (j := 0) (by decide +kernel) rfl ?_
  refine jj_sipush (n := 265) (v := 265) (by decide +kernel) (by decide) ?_
  refine sy_ci (s_CU_accept (d := d - 1) hG (by omega) hs) (fun o1 h1 hC => jj_callU ok_CU_accept ml_GR_80 sm_GR_CU_accept rfl im_CU_accept se_GR_CU_accept_u (by decide +kernel) (hs.rcGR hG.2) rfl (by omega) (Nat.le_of_ble_eq_true rfl) hC) (by decide) rfl (fun _ _ _ q => ⟨rfl, rfl, _, q⟩) (fun v1 h _ hs => ?_)
  refine jj_if_eq (off := 12) (tgt := 81) (by decide +kernel) (by decide) (fun c2 => ?_) (fun c2 => ?_)
  · skip
    refine jj_aload_n (j := 0) (by decide +kernel) rfl ?_
    refine sy_cv (s_GR_emptyList (d := d - 1) hG (by omega) hs) (fun o1 h1 hC => jj_callV ok_GR_emptyList ml_GR_115 im_GR_emptyList se_GR_GR_emptyList (by decide +kernel) (hs.rcGR hG.2) rfl (by omega) (Nat.le_of_ble_eq_true rfl) hC) rfl (fun _ _ _ q => ⟨rfl, rfl, _, q⟩) (fun h hs => ?_)
    exact jj_wk (js_s (js_s (js_s js_0))) (b_GR_ifStatement_85 hG ho hS hdd hm hs)
  · skip
    refine jj_aload_n (j := 0) (by decide +kernel) rfl ?_
    refine jj_bipush (n := 7) (v := 7) (by decide +kernel) (by decide) ?_
    refine sy_cv (s_GR_listOfAny (d := d - 1) (m := (m - 1)) hG (by omega) (hS hm) (by decide) (by omega) hs) (fun o1 h1 hC => jj_callV ok_GR_listOfAny ml_GR_159 im_GR_listOfAny se_GR_GR_listOfAny (by decide +kernel) (hs.rcGR hG.2) rfl (by omega) (Nat.le_of_ble_eq_true rfl) hC) rfl (fun _ _ _ q => ⟨rfl, rfl, _, q⟩) (fun h hs => ?_)
    refine jj_goto (off := 7) (tgt := 85) (by decide +kernel) (by decide) ?_
    exact jj_wk (js_s (js_s (js_s js_0))) (b_GR_ifStatement_85 hG ho hS hdd hm hs)
set_option maxRecDepth 100000 in
set_option maxHeartbeats 4000000 in
theorem b_GR_ifStatement_36 {l : Launch} {G : jj_G} {X : sy_X} {K o N d : Nat} {m : Nat} {h : jj_H} {x1 x2 : Int32} (hG : sy_G G X) (ho : o + m = 40) (hS : 0 < m → sy_One l G X N 7 28 (m - 1)) (hdd : 26 + 10 * m ≤ d) (hm : 0 < m) {n : Nat} (ih : ∀ (x1 : Int32) (x2 : Int32) (h : jj_H), (2147483647 - x2.toInt).toNat < n → Sy G X K (o + 1) N h → jj_P l G y_GR_ifStatement d (sy_F 0 true G X K o N) 15 [some (.ref (X.2.2.1 12)), some (.int x1), some (.int x2)] [] h) (hdec : (2147483647 - (x2 + Int32.ofInt 1).toInt).toNat < n) (hs : Sy G X K (o + 1) N h) : jj_P l G y_GR_ifStatement d (sy_F 0 true G X K o N) 36 [some (.ref (X.2.2.1 12)), some (.int x1), some (.int x2)] [] h := by
  refine jj_aload_n (j := 0) (by decide +kernel) rfl ?_
  refine sy_cv (expr_all hG (m - 1) _ _ _ (d - 1) (by omega) hs (by omega)) (fun o1 h1 hC => jj_callV ok_GR_expression ml_GR_149 im_GR_expression se_GR_GR_expression (by decide +kernel) (hs.rcGR hG.2) rfl (by omega) (Nat.le_of_ble_eq_true rfl) hC) rfl (fun _ _ _ q => ⟨rfl, rfl, _, q⟩) (fun h hs => ?_)
  refine jj_aload_n (j := 0) (by decide +kernel) rfl ?_
  refine jj_sipush (n := 301) (v := 301) (by decide +kernel) (by decide) ?_
  refine sy_cv (s_CU_expect (d := d - 1) hG (by omega) hs) (fun o1 h1 hC => jj_callU ok_CU_expect ml_GR_102 sm_GR_CU_expect rfl im_CU_expect se_GR_CU_expect_u (by decide +kernel) (hs.rcGR hG.2) rfl (by omega) (Nat.le_of_ble_eq_true rfl) hC) rfl (fun _ _ _ q => ⟨rfl, rfl, _, q⟩) (fun h hs => ?_)
  refine jj_aload_n (j := 0) (by decide +kernel) rfl ?_
  refine jj_bipush (n := 7) (v := 7) (by decide +kernel) (by decide) ?_
  refine sy_cv (s_GR_listOfAny (d := d - 1) (m := (m - 1)) hG (by omega) (hS hm) (by decide) (by omega) hs) (fun o1 h1 hC => jj_callV ok_GR_listOfAny ml_GR_159 im_GR_listOfAny se_GR_GR_listOfAny (by decide +kernel) (hs.rcGR hG.2) rfl (by omega) (Nat.le_of_ble_eq_true rfl) hC) rfl (fun _ _ _ q => ⟨rfl, rfl, _, q⟩) (fun h hs => ?_)
  refine jj_iinc (i := 1) (n := 2) (by decide +kernel) rfl rfl (by decide) rfl ?_
  refine jj_iinc (i := 2) (n := 1) (by decide +kernel) rfl rfl (by decide) rfl ?_
  refine jj_goto (off := (-44)) (tgt := 15) (by decide +kernel) (by decide) ?_
  exact jj_wk (js_s (js_s (js_s js_0))) (ih _ _ _ hdec hs)
set_option maxRecDepth 100000 in
set_option maxHeartbeats 4000000 in
theorem b_GR_ifStatement_15 {l : Launch} {G : jj_G} {X : sy_X} {K o N d : Nat} {m : Nat} (hG : sy_G G X) (ho : o + m = 40) (hS : 0 < m → sy_One l G X N 7 28 (m - 1)) (hdd : 26 + 10 * m ≤ d) (hm : 0 < m) : ∀ (n : Nat) (x1 : Int32) (x2 : Int32) (h : jj_H), (2147483647 - x2.toInt).toNat < n → Sy G X K (o + 1) N h → jj_P l G y_GR_ifStatement d (sy_F 0 true G X K o N) 15 [some (.ref (X.2.2.1 12)), some (.int x1), some (.int x2)] [] h := by
  intro n
  induction n with
  | zero => intro x1 x2 h hn; exact absurd hn (Nat.not_lt_zero _)
  | succ n ih =>
    intro x1 x2 h hn hs
    refine jj_iload_n (j := 2) (by decide +kernel) rfl ?_
    refine jj_sipush (n := 16385) (v := 16385) (by decide +kernel) (by decide) ?_
    refine jj_icmp_ge (off := 43) (tgt := 62) (by decide +kernel) (by decide) (fun c1 => ?_) (fun c1 => ?_)
    · skip
      exact jj_wk (js_s (js_s (js_s js_0))) (b_GR_ifStatement_62 hG ho hS hdd hm hs)
    · skip
      have hdec := up_lt (Int32.not_le.mp c1) hn
      refine jj_iload_n (j := 2) (by decide +kernel) rfl ?_
      refine jj_if_eq (off := 13) (tgt := 36) (by decide +kernel) (by decide) (fun c2 => ?_) (fun c2 => ?_)
      · skip
        exact jj_wk (js_s (js_s (js_s js_0))) (b_GR_ifStatement_36 hG ho hS hdd hm ih hdec hs)
      · skip
        refine jj_aload_n (j := 0) (by decide +kernel) rfl ?_
        refine jj_sipush (n := 266) (v := 266) (by decide +kernel) (by decide) ?_
        refine sy_ci (s_CU_accept (d := d - 1) hG (by omega) hs) (fun o1 h1 hC => jj_callU ok_CU_accept ml_GR_80 sm_GR_CU_accept rfl im_CU_accept se_GR_CU_accept_u (by decide +kernel) (hs.rcGR hG.2) rfl (by omega) (Nat.le_of_ble_eq_true rfl) hC) (by decide) rfl (fun _ _ _ q => ⟨rfl, rfl, _, q⟩) (fun v3 h _ hs => ?_)
        refine jj_if_eq (off := 29) (tgt := 62) (by decide +kernel) (by decide) (fun c4 => ?_) (fun c4 => ?_)
        · skip
          exact jj_wk (js_s (js_s (js_s js_0))) (b_GR_ifStatement_62 hG ho hS hdd hm hs)
        · skip
          exact jj_wk (js_s (js_s (js_s js_0))) (b_GR_ifStatement_36 hG ho hS hdd hm ih hdec hs)
set_option maxRecDepth 100000 in
set_option maxHeartbeats 4000000 in
theorem b_GR_ifStatement_0 {l : Launch} {G : jj_G} {X : sy_X} {K o N d : Nat} {m : Nat} {h : jj_H} (hG : sy_G G X) (ho : o + m = 40) (hS : 0 < m → sy_One l G X N 7 28 (m - 1)) (hdd : 26 + 10 * m ≤ d) (hs : Sy G X K o N h) : jj_P l G y_GR_ifStatement d (sy_F 0 true G X K o N) 0 [some (.ref (X.2.2.1 12)), none, none] [] h := by
  refine jj_aload_n (j := 0) (by decide +kernel) rfl ?_
  refine sy_ce (s_CU_enter (d := d - 1) (m := m) hG.2 (by omega) hs (by omega)) (fun o1 h1 hC => jj_callU ok_CU_enter ml_GR_202 sm_GR_CU_enter rfl im_CU_enter se_GR_CU_enter_u (by decide +kernel) (hs.rcGR hG.2) rfl (by omega) (Nat.le_of_ble_eq_true rfl) hC) rfl (fun _ _ q => ⟨rfl, rfl, _, q⟩) (fun h hm hs => ?_)
  refine jj_aload_n (j := 0) (by decide +kernel) rfl ?_
  refine jj_sipush (n := 272) (v := 272) (by decide +kernel) (by decide) ?_
  refine sy_cv (s_CU_expect (d := d - 1) hG (by omega) hs) (fun o1 h1 hC => jj_callU ok_CU_expect ml_GR_102 sm_GR_CU_expect rfl im_CU_expect se_GR_CU_expect_u (by decide +kernel) (hs.rcGR hG.2) rfl (by omega) (Nat.le_of_ble_eq_true rfl) hC) rfl (fun _ _ _ q => ⟨rfl, rfl, _, q⟩) (fun h hs => ?_)
  refine jj_iconst (n := 0) (v := 0) (by decide +kernel) (by decide) ?_
  refine jj_istore_n (j := 1) (by decide +kernel) (by decide) rfl ?_
  refine jj_iconst (n := 0) (v := 0) (by decide +kernel) (by decide) ?_
  refine jj_istore_n (j := 2) (by decide +kernel) (by decide) rfl ?_
  exact jj_wk (js_s (js_s (js_s js_0))) (b_GR_ifStatement_15 hG ho hS hdd hm _ _ _ _ (Nat.lt_succ_self _) hs)
theorem s_GR_ifStatement {l : Launch} {G : jj_G} {X : sy_X} {K o N d : Nat} {m : Nat} {h : jj_H} (hG : sy_G G X) (ho : o + m = 40) (hS : 0 < m → sy_One l G X N 7 28 (m - 1)) (hdd : 26 + 10 * m ≤ d) (hs : Sy G X K o N h) : jj_Q l G y_GR_ifStatement d [.ref (X.2.2.1 12)] h (sy_F 0 true G X K o N) :=
  jj_Q.of (by decide +kernel) (Nat.le_of_ble_eq_true rfl) (b_GR_ifStatement_0 hG ho hS hdd hs)
set_option maxRecDepth 100000 in
set_option maxHeartbeats 4000000 in
theorem b_GR_caseStatement_96 {l : Launch} {G : jj_G} {X : sy_X} {K o N d : Nat} {m : Nat} {h : jj_H} {x1 x2 : Int32} (hG : sy_G G X) (ho : o + m = 40) (hS : 0 < m → sy_One l G X N 7 28 (m - 1)) (hdd : 26 + 10 * m ≤ d) (hm : 0 < m) (hs : Sy G X K (o + 1) N h) : jj_P l G y_GR_caseStatement d (sy_F 0 true G X K o N) 96 [some (.ref (X.2.2.1 12)), some (.int x1), some (.int x2)] [] h := by
  refine jj_aload_n (j := 0) (by decide +kernel) rfl ?_
  refine jj_sipush (n := 267) (v := 267) (by decide +kernel) (by decide) ?_
  refine sy_cv (s_CU_expect (d := d - 1) hG (by omega) hs) (fun o1 h1 hC => jj_callU ok_CU_expect ml_GR_102 sm_GR_CU_expect rfl im_CU_expect se_GR_CU_expect_u (by decide +kernel) (hs.rcGR hG.2) rfl (by omega) (Nat.le_of_ble_eq_true rfl) hC) rfl (fun _ _ _ q => ⟨rfl, rfl, _, q⟩) (fun h hs => ?_)
  refine jj_aload_n (j := 0) (by decide +kernel) rfl ?_
  refine jj_sipush (n := 262) (v := 262) (by decide +kernel) (by decide) ?_
  refine sy_cv (s_CU_expect (d := d - 1) hG (by omega) hs) (fun o1 h1 hC => jj_callU ok_CU_expect ml_GR_102 sm_GR_CU_expect rfl im_CU_expect se_GR_CU_expect_u (by decide +kernel) (hs.rcGR hG.2) rfl (by omega) (Nat.le_of_ble_eq_true rfl) hC) rfl (fun _ _ _ q => ⟨rfl, rfl, _, q⟩) (fun h hs => ?_)
  refine jj_aload_n (j := 0) (by decide +kernel) rfl ?_
  refine jj_bipush (n := 59) (v := 59) (by decide +kernel) (by decide) ?_
  refine sy_cv (s_CU_expect (d := d - 1) hG (by omega) hs) (fun o1 h1 hC => jj_callU ok_CU_expect ml_GR_102 sm_GR_CU_expect rfl im_CU_expect se_GR_CU_expect_u (by decide +kernel) (hs.rcGR hG.2) rfl (by omega) (Nat.le_of_ble_eq_true rfl) hC) rfl (fun _ _ _ q => ⟨rfl, rfl, _, q⟩) (fun h hs => ?_)
  refine jj_aload_n (j := 0) (by decide +kernel) rfl ?_
  refine sy_cv (s_CU_leave (d := d - 1) hG.2 hs) (fun o1 h1 hC => jj_callU ok_CU_leave ml_GR_205 sm_GR_CU_leave rfl im_CU_leave se_GR_CU_leave_u (by decide +kernel) (hs.rcGR hG.2) rfl (by omega) (Nat.le_of_ble_eq_true rfl) hC) rfl (fun q => by cases q) (fun h hs => ?_)
  refine jj_aload_n (j := 0) (by decide +kernel) rfl ?_
  refine jj_bipush (n := 35) (v := 35) (by decide +kernel) (by decide) ?_
  refine jj_iconst (n := 0) (v := 0) (by decide +kernel) (by decide) ?_
  refine jj_iload_n (j := 1) (by decide +kernel) rfl ?_
  refine sy_cv (s_CU_tell (d := d - 1) hG (by omega) hs) (fun o1 h1 hC => jj_callU ok_CU_tell ml_GR_64 sm_GR_CU_tell rfl im_CU_tell se_GR_CU_tell_u (by decide +kernel) (hs.rcGR hG.2) rfl (by omega) (Nat.le_of_ble_eq_true rfl) hC) rfl (fun _ _ _ q => ⟨rfl, rfl, _, q⟩) (fun h hs => ?_)
  exact jj_vret (by decide +kernel) rfl ⟨rfl, hs⟩
set_option maxRecDepth 100000 in
set_option maxHeartbeats 4000000 in
theorem b_GR_caseStatement_41 {l : Launch} {G : jj_G} {X : sy_X} {K o N d : Nat} {m : Nat} (hG : sy_G G X) (ho : o + m = 40) (hS : 0 < m → sy_One l G X N 7 28 (m - 1)) (hdd : 26 + 10 * m ≤ d) (hm : 0 < m) : ∀ (n : Nat) (x1 : Int32) (x2 : Int32) (h : jj_H), (2147483647 - x2.toInt).toNat < n → Sy G X K (o + 1) N h → jj_P l G y_GR_caseStatement d (sy_F 0 true G X K o N) 41 [some (.ref (X.2.2.1 12)), some (.int x1), some (.int x2)] [] h := by
  intro n
  induction n with
  | zero => intro x1 x2 h hn; exact absurd hn (Nat.not_lt_zero _)
  | succ n ih =>
    intro x1 x2 h hn hs
    refine jj_iload_n (j := 2) (by decide +kernel) rfl ?_
    refine jj_sipush (n := 16385) (v := 16385) (by decide +kernel) (by decide) ?_
    refine jj_icmp_ge (off := 51) (tgt := 96) (by decide +kernel) (by decide) (fun c1 => ?_) (fun c1 => ?_)
    · skip
      exact jj_wk (js_s (js_s (js_s js_0))) (b_GR_caseStatement_96 hG ho hS hdd hm hs)
    · skip
      have hdec := up_lt (Int32.not_le.mp c1) hn
      refine jj_aload_n (j := 0) (by decide +kernel) rfl ?_
      refine jj_sipush (n := 309) (v := 309) (by decide +kernel) (by decide) ?_
      refine sy_ci (s_CU_accept (d := d - 1) hG (by omega) hs) (fun o1 h1 hC => jj_callU ok_CU_accept ml_GR_80 sm_GR_CU_accept rfl im_CU_accept se_GR_CU_accept_u (by decide +kernel) (hs.rcGR hG.2) rfl (by omega) (Nat.le_of_ble_eq_true rfl) hC) (by decide) rfl (fun _ _ _ q => ⟨rfl, rfl, _, q⟩) (fun v2 h _ hs => ?_)
      refine jj_if_eq (off := 41) (tgt := 96) (by decide +kernel) (by decide) (fun c3 => ?_) (fun c3 => ?_)
      · skip
        exact jj_wk (js_s (js_s (js_s js_0))) (b_GR_caseStatement_96 hG ho hS hdd hm hs)
      · skip
        refine jj_aload_n (j := 0) (by decide +kernel) rfl ?_
        refine jj_bipush (n := 10) (v := 10) (by decide +kernel) (by decide) ?_
        refine jj_bipush (n := 124) (v := 124) (by decide +kernel) (by decide) ?_
        refine sy_cv (s_GR_listOfSome (d := d - 1) (m := (m - 1)) hG (by omega) (one10_all hG (m - 1)) (by decide) (by omega) hs) (fun o1 h1 hC => jj_callV ok_GR_listOfSome ml_GR_112 im_GR_listOfSome se_GR_GR_listOfSome (by decide +kernel) (hs.rcGR hG.2) rfl (by omega) (Nat.le_of_ble_eq_true rfl) hC) rfl (fun _ _ _ q => ⟨rfl, rfl, _, q⟩) (fun h hs => ?_)
        refine jj_aload_n (j := 0) (by decide +kernel) rfl ?_
        refine jj_sipush (n := 130) (v := 130) (by decide +kernel) (by decide) ?_
        refine sy_cv (s_CU_expect (d := d - 1) hG (by omega) hs) (fun o1 h1 hC => jj_callU ok_CU_expect ml_GR_102 sm_GR_CU_expect rfl im_CU_expect se_GR_CU_expect_u (by decide +kernel) (hs.rcGR hG.2) rfl (by omega) (Nat.le_of_ble_eq_true rfl) hC) rfl (fun _ _ _ q => ⟨rfl, rfl, _, q⟩) (fun h hs => ?_)
        refine jj_aload_n (j := 0) (by decide +kernel) rfl ?_
        refine jj_bipush (n := 7) (v := 7) (by decide +kernel) (by decide) ?_
        refine sy_cv (s_GR_listOfAny (d := d - 1) (m := (m - 1)) hG (by omega) (hS hm) (by decide) (by omega) hs) (fun o1 h1 hC => jj_callV ok_GR_listOfAny ml_GR_159 im_GR_listOfAny se_GR_GR_listOfAny (by decide +kernel) (hs.rcGR hG.2) rfl (by omega) (Nat.le_of_ble_eq_true rfl) hC) rfl (fun _ _ _ q => ⟨rfl, rfl, _, q⟩) (fun h hs => ?_)
        refine jj_aload_n (j := 0) (by decide +kernel) rfl ?_
        refine jj_bipush (n := 36) (v := 36) (by decide +kernel) (by decide) ?_
        refine jj_iconst (n := 0) (v := 0) (by decide +kernel) (by decide) ?_
        refine jj_iconst (n := 2) (v := 2) (by decide +kernel) (by decide) ?_
        refine sy_cv (s_CU_tell (d := d - 1) hG (by omega) hs) (fun o1 h1 hC => jj_callU ok_CU_tell ml_GR_64 sm_GR_CU_tell rfl im_CU_tell se_GR_CU_tell_u (by decide +kernel) (hs.rcGR hG.2) rfl (by omega) (Nat.le_of_ble_eq_true rfl) hC) rfl (fun _ _ _ q => ⟨rfl, rfl, _, q⟩) (fun h hs => ?_)
        refine jj_iinc (i := 1) (n := 1) (by decide +kernel) rfl rfl (by decide) rfl ?_
        refine jj_iinc (i := 2) (n := 1) (by decide +kernel) rfl rfl (by decide) rfl ?_
        refine jj_goto (off := (-52)) (tgt := 41) (by decide +kernel) (by decide) ?_
        exact jj_wk (js_s (js_s (js_s js_0))) (ih _ _ _ hdec hs)
set_option maxRecDepth 100000 in
set_option maxHeartbeats 4000000 in
theorem b_GR_caseStatement_0 {l : Launch} {G : jj_G} {X : sy_X} {K o N d : Nat} {m : Nat} {h : jj_H} (hG : sy_G G X) (ho : o + m = 40) (hS : 0 < m → sy_One l G X N 7 28 (m - 1)) (hdd : 26 + 10 * m ≤ d) (hs : Sy G X K o N h) : jj_P l G y_GR_caseStatement d (sy_F 0 true G X K o N) 0 [some (.ref (X.2.2.1 12)), none, none] [] h := by
  refine jj_aload_n (j := 0) (by decide +kernel) rfl ?_
  refine sy_ce (s_CU_enter (d := d - 1) (m := m) hG.2 (by omega) hs (by omega)) (fun o1 h1 hC => jj_callU ok_CU_enter ml_GR_202 sm_GR_CU_enter rfl im_CU_enter se_GR_CU_enter_u (by decide +kernel) (hs.rcGR hG.2) rfl (by omega) (Nat.le_of_ble_eq_true rfl) hC) rfl (fun _ _ q => ⟨rfl, rfl, _, q⟩) (fun h hm hs => ?_)
  refine jj_aload_n (j := 0) (by decide +kernel) rfl ?_
  refine jj_sipush (n := 262) (v := 262) (by decide +kernel) (by decide) ?_
  refine sy_cv (s_CU_expect (d := d - 1) hG (by omega) hs) (fun o1 h1 hC => jj_callU ok_CU_expect ml_GR_102 sm_GR_CU_expect rfl im_CU_expect se_GR_CU_expect_u (by decide +kernel) (hs.rcGR hG.2) rfl (by omega) (Nat.le_of_ble_eq_true rfl) hC) rfl (fun _ _ _ q => ⟨rfl, rfl, _, q⟩) (fun h hs => ?_)
  refine jj_aload_n (j := 0) (by decide +kernel) rfl ?_
  refine sy_cv (expr_all hG (m - 1) _ _ _ (d - 1) (by omega) hs (by omega)) (fun o1 h1 hC => jj_callV ok_GR_expression ml_GR_149 im_GR_expression se_GR_GR_expression (by decide +kernel) (hs.rcGR hG.2) rfl (by omega) (Nat.le_of_ble_eq_true rfl) hC) rfl (fun _ _ _ q => ⟨rfl, rfl, _, q⟩) (fun h hs => ?_)
  refine jj_aload_n (j := 0) (by decide +kernel) rfl ?_
  refine jj_sipush (n := 276) (v := 276) (by decide +kernel) (by decide) ?_
  refine sy_cv (s_CU_expect (d := d - 1) hG (by omega) hs) (fun o1 h1 hC => jj_callU ok_CU_expect ml_GR_102 sm_GR_CU_expect rfl im_CU_expect se_GR_CU_expect_u (by decide +kernel) (hs.rcGR hG.2) rfl (by omega) (Nat.le_of_ble_eq_true rfl) hC) rfl (fun _ _ _ q => ⟨rfl, rfl, _, q⟩) (fun h hs => ?_)
  refine jj_aload_n (j := 0) (by decide +kernel) rfl ?_
  obtain ⟨ki, va, pl, fa, fp, ne, hg⟩ := hs.gr hG.2
  refine jj_getfield 3 ck_GR fl_GR_68 (by decide) (by decide +kernel) hg rfl ?_
  refine jj_sipush (n := 309) (v := 309) (by decide +kernel) (by decide) ?_
  refine jj_icmp_eq (off := 8) (tgt := 37) (by decide +kernel) (by decide) (fun c1 => ?_) (fun c1 => ?_)
  · skip
    refine jj_iconst (n := 1) (v := 1) (by decide +kernel) (by decide) ?_
    refine jj_istore_n (j := 1) (by decide +kernel) (by decide) rfl ?_
    refine jj_iconst (n := 0) (v := 0) (by decide +kernel) (by decide) ?_
    refine jj_istore_n (j := 2) (by decide +kernel) (by decide) rfl ?_
    exact jj_wk (js_s (js_s (js_s js_0))) (b_GR_caseStatement_41 hG ho hS hdd hm _ _ _ _ (Nat.lt_succ_self _) hs)
  · skip
    refine jj_aload_n (j := 0) (by decide +kernel) rfl ?_
    refine jj_iconst (n := 3) (v := 3) (by decide +kernel) (by decide) ?_
    exact sy_cx (s_CU_raise (d := d - 1) hG.2 hs (by omega)) (fun o1 h1 hC => jj_callU ok_CU_raise ml_GR_93 sm_GR_CU_raise rfl im_CU_raise se_GR_CU_raise_u (by decide +kernel) (hs.rcGR hG.2) rfl (by omega) (Nat.le_of_ble_eq_true rfl) hC) rfl (fun _ _ q => ⟨rfl, rfl, _, q⟩)
theorem s_GR_caseStatement {l : Launch} {G : jj_G} {X : sy_X} {K o N d : Nat} {m : Nat} {h : jj_H} (hG : sy_G G X) (ho : o + m = 40) (hS : 0 < m → sy_One l G X N 7 28 (m - 1)) (hdd : 26 + 10 * m ≤ d) (hs : Sy G X K o N h) : jj_Q l G y_GR_caseStatement d [.ref (X.2.2.1 12)] h (sy_F 0 true G X K o N) :=
  jj_Q.of (by decide +kernel) (Nat.le_of_ble_eq_true rfl) (b_GR_caseStatement_0 hG ho hS hdd hs)
set_option maxRecDepth 100000 in
set_option maxHeartbeats 4000000 in
theorem b_GR_loopStatement_80 {l : Launch} {G : jj_G} {X : sy_X} {K o N d : Nat} {m : Nat} {h : jj_H} {x1 x2 x3 : Int32} (hG : sy_G G X) (ho : o + m = 40) (hS : 0 < m → sy_One l G X N 7 28 (m - 1)) (hdd : 26 + 10 * m ≤ d) (hm : 0 < m) (hs : Sy G X K (o + 1) N h) : jj_P l G y_GR_loopStatement d (sy_F 0 true G X K o N) 80 [some (.ref (X.2.2.1 12)), some (.int x1), some (.int x2), some (.int x3)] [] h := by
  refine jj_aload_n (j := 0) (by decide +kernel) rfl ?_
  refine jj_sipush (n := 277) (v := 277) (by decide +kernel) (by decide) ?_
  refine sy_cv (s_CU_expect (d := d - 1) hG (by omega) hs) (fun o1 h1 hC => jj_callU ok_CU_expect ml_GR_102 sm_GR_CU_expect rfl im_CU_expect se_GR_CU_expect_u (by decide +kernel) (hs.rcGR hG.2) rfl (by omega) (Nat.le_of_ble_eq_true rfl) hC) rfl (fun _ _ _ q => ⟨rfl, rfl, _, q⟩) (fun h hs => ?_)
  refine jj_aload_n (j := 0) (by decide +kernel) rfl ?_
  refine jj_bipush (n := 7) (v := 7) (by decide +kernel) (by decide) ?_
  refine sy_cv (s_GR_listOfAny (d := d - 1) (m := (m - 1)) hG (by omega) (hS hm) (by decide) (by omega) hs) (fun o1 h1 hC => jj_callV ok_GR_listOfAny ml_GR_159 im_GR_listOfAny se_GR_GR_listOfAny (by decide +kernel) (hs.rcGR hG.2) rfl (by omega) (Nat.le_of_ble_eq_true rfl) hC) rfl (fun _ _ _ q => ⟨rfl, rfl, _, q⟩) (fun h hs => ?_)
  refine jj_aload_n (j := 0) (by decide +kernel) rfl ?_
  refine jj_sipush (n := 267) (v := 267) (by decide +kernel) (by decide) ?_
  refine sy_cv (s_CU_expect (d := d - 1) hG (by omega) hs) (fun o1 h1 hC => jj_callU ok_CU_expect ml_GR_102 sm_GR_CU_expect rfl im_CU_expect se_GR_CU_expect_u (by decide +kernel) (hs.rcGR hG.2) rfl (by omega) (Nat.le_of_ble_eq_true rfl) hC) rfl (fun _ _ _ q => ⟨rfl, rfl, _, q⟩) (fun h hs => ?_)
  refine jj_aload_n (j := 0) (by decide +kernel) rfl ?_
  refine jj_sipush (n := 277) (v := 277) (by decide +kernel) (by decide) ?_
  refine sy_cv (s_CU_expect (d := d - 1) hG (by omega) hs) (fun o1 h1 hC => jj_callU ok_CU_expect ml_GR_102 sm_GR_CU_expect rfl im_CU_expect se_GR_CU_expect_u (by decide +kernel) (hs.rcGR hG.2) rfl (by omega) (Nat.le_of_ble_eq_true rfl) hC) rfl (fun _ _ _ q => ⟨rfl, rfl, _, q⟩) (fun h hs => ?_)
  refine jj_aload_n (j := 0) (by decide +kernel) rfl ?_
  refine jj_bipush (n := 59) (v := 59) (by decide +kernel) (by decide) ?_
  refine sy_cv (s_CU_expect (d := d - 1) hG (by omega) hs) (fun o1 h1 hC => jj_callU ok_CU_expect ml_GR_102 sm_GR_CU_expect rfl im_CU_expect se_GR_CU_expect_u (by decide +kernel) (hs.rcGR hG.2) rfl (by omega) (Nat.le_of_ble_eq_true rfl) hC) rfl (fun _ _ _ q => ⟨rfl, rfl, _, q⟩) (fun h hs => ?_)
  refine jj_aload_n (j := 0) (by decide +kernel) rfl ?_
  refine sy_cv (s_CU_leave (d := d - 1) hG.2 hs) (fun o1 h1 hC => jj_callU ok_CU_leave ml_GR_205 sm_GR_CU_leave rfl im_CU_leave se_GR_CU_leave_u (by decide +kernel) (hs.rcGR hG.2) rfl (by omega) (Nat.le_of_ble_eq_true rfl) hC) rfl (fun q => by cases q) (fun h hs => ?_)
  refine jj_aload_n (j := 0) (by decide +kernel) rfl ?_
  refine jj_iload_n (j := 1) (by decide +kernel) rfl ?_
  refine jj_iload_n (j := 2) (by decide +kernel) rfl ?_
  refine jj_iload_n (j := 3) (by decide +kernel) rfl ?_
  refine sy_cv (s_CU_tell (d := d - 1) hG (by omega) hs) (fun o1 h1 hC => jj_callU ok_CU_tell ml_GR_64 sm_GR_CU_tell rfl im_CU_tell se_GR_CU_tell_u (by decide +kernel) (hs.rcGR hG.2) rfl (by omega) (Nat.le_of_ble_eq_true rfl) hC) rfl (fun _ _ _ q => ⟨rfl, rfl, _, q⟩) (fun h hs => ?_)
  exact jj_vret (by decide +kernel) rfl ⟨rfl, hs⟩
set_option maxRecDepth 100000 in
set_option maxHeartbeats 4000000 in
theorem b_GR_loopStatement_51 {l : Launch} {G : jj_G} {X : sy_X} {K o N d : Nat} {m : Nat} {h : jj_H} {x2 y0 : Int32} (hG : sy_G G X) (ho : o + m = 40) (hS : 0 < m → sy_One l G X N 7 28 (m - 1)) (hdd : 26 + 10 * m ≤ d) (hm : 0 < m) (hs : Sy G X K (o + 1) N h) : jj_P l G y_GR_loopStatement d (sy_F 0 true G X K o N) 51 [some (.ref (X.2.2.1 12)), some (.int 41), some (.int x2), some (.int 1)] [.int y0] h := by
  refine jj_istore_n (j := 1) (by decide +kernel) (by decide) rfl ?_
  refine jj_aload_n (j := 0) (by decide +kernel) rfl ?_
  refine sy_cv (expr_all hG (m - 1) _ _ _ (d - 1) (by omega) hs (by omega)) (fun o1 h1 hC => jj_callV ok_GR_expression ml_GR_149 im_GR_expression se_GR_GR_expression (by decide +kernel) (hs.rcGR hG.2) rfl (by omega) (Nat.le_of_ble_eq_true rfl) hC) rfl (fun _ _ _ q => ⟨rfl, rfl, _, q⟩) (fun h hs => ?_)
  refine jj_iconst (n := 3) (v := 3) (by decide +kernel) (by decide) ?_
  refine jj_istore_n (j := 3) (by decide +kernel) (by decide) rfl ?_
  refine jj_goto (off := 22) (tgt := 80) (by decide +kernel) (by decide) ?_
  exact jj_wk (js_s (js_s (js_s (js_s js_0)))) (b_GR_loopStatement_80 hG ho hS hdd hm hs)
set_option maxRecDepth 100000 in
set_option maxHeartbeats 4000000 in
theorem b_GR_loopStatement_0 {l : Launch} {G : jj_G} {X : sy_X} {K o N d : Nat} {m : Nat} {h : jj_H} (hG : sy_G G X) (ho : o + m = 40) (hS : 0 < m → sy_One l G X N 7 28 (m - 1)) (hdd : 26 + 10 * m ≤ d) (hs : Sy G X K o N h) : jj_P l G y_GR_loopStatement d (sy_F 0 true G X K o N) 0 [some (.ref (X.2.2.1 12)), none, none, none] [] h := by
  refine jj_aload_n (j := 0) (by decide +kernel) rfl ?_
  refine sy_ce (s_CU_enter (d := d - 1) (m := m) hG.2 (by omega) hs (by omega)) (fun o1 h1 hC => jj_callU ok_CU_enter ml_GR_202 sm_GR_CU_enter rfl im_CU_enter se_GR_CU_enter_u (by decide +kernel) (hs.rcGR hG.2) rfl (by omega) (Nat.le_of_ble_eq_true rfl) hC) rfl (fun _ _ q => ⟨rfl, rfl, _, q⟩) (fun h hm hs => ?_)
  refine jj_bipush (n := 41) (v := 41) (by decide +kernel) (by decide) ?_
  refine jj_istore_n (j := 1) (by decide +kernel) (by decide) rfl ?_
  refine jj_iconst (n := 0) (v := 0) (by decide +kernel) (by decide) ?_
  refine jj_istore_n (j := 2) (by decide +kernel) (by decide) rfl ?_
  refine jj_iconst (n := 1) (v := 1) (by decide +kernel) (by decide) ?_
  refine jj_istore_n (j := 3) (by decide +kernel) (by decide) rfl ?_
  refine jj_aload_n (j := 0) (by decide +kernel) rfl ?_
  refine jj_sipush (n := 269) (v := 269) (by decide +kernel) (by decide) ?_
  refine sy_ci (s_CU_accept (d := d - 1) hG (by omega) hs) (fun o1 h1 hC => jj_callU ok_CU_accept ml_GR_80 sm_GR_CU_accept rfl im_CU_accept se_GR_CU_accept_u (by decide +kernel) (hs.rcGR hG.2) rfl (by omega) (Nat.le_of_ble_eq_true rfl) hC) (by decide) rfl (fun _ _ _ q => ⟨rfl, rfl, _, q⟩) (fun v1 h _ hs => ?_)
  refine jj_if_eq (off := 43) (tgt := 61) (by decide +kernel) (by decide) (fun c2 => ?_) (fun c2 => ?_)
  · skip
    refine jj_aload_n (j := 0) (by decide +kernel) rfl ?_
    refine jj_sipush (n := 310) (v := 310) (by decide +kernel) (by decide) ?_
    refine sy_ci (s_CU_accept (d := d - 1) hG (by omega) hs) (fun o1 h1 hC => jj_callU ok_CU_accept ml_GR_80 sm_GR_CU_accept rfl im_CU_accept se_GR_CU_accept_u (by decide +kernel) (hs.rcGR hG.2) rfl (by omega) (Nat.le_of_ble_eq_true rfl) hC) (by decide) rfl (fun _ _ _ q => ⟨rfl, rfl, _, q⟩) (fun v3 h _ hs => ?_)
    refine jj_if_eq (off := 12) (tgt := 80) (by decide +kernel) (by decide) (fun c4 => ?_) (fun c4 => ?_)
    · skip
      exact jj_wk (js_s (js_s (js_s (js_s js_0)))) (b_GR_loopStatement_80 hG ho hS hdd hm hs)
    · skip
      refine jj_aload_n (j := 0) (by decide +kernel) rfl ?_
      refine sy_cv (expr_all hG (m - 1) _ _ _ (d - 1) (by omega) hs (by omega)) (fun o1 h1 hC => jj_callV ok_GR_expression ml_GR_149 im_GR_expression se_GR_GR_expression (by decide +kernel) (hs.rcGR hG.2) rfl (by omega) (Nat.le_of_ble_eq_true rfl) hC) rfl (fun _ _ _ q => ⟨rfl, rfl, _, q⟩) (fun h hs => ?_)
      refine jj_bipush (n := 40) (v := 40) (by decide +kernel) (by decide) ?_
      refine jj_istore_n (j := 1) (by decide +kernel) (by decide) rfl ?_
      refine jj_iconst (n := 2) (v := 2) (by decide +kernel) (by decide) ?_
      refine jj_istore_n (j := 3) (by decide +kernel) (by decide) rfl ?_
      exact jj_wk (js_s (js_s (js_s (js_s js_0)))) (b_GR_loopStatement_80 hG ho hS hdd hm hs)
  · skip
    refine jj_aload_n (j := 0) (by decide +kernel) rfl ?_
    refine sy_ci (s_CU_takeName (d := d - 1) hG (by omega) hs) (fun o1 h1 hC => jj_callU ok_CU_takeName ml_GR_61 sm_GR_CU_takeName rfl im_CU_takeName se_GR_CU_takeName_u (by decide +kernel) (hs.rcGR hG.2) rfl (by omega) (Nat.le_of_ble_eq_true rfl) hC) (by decide) rfl (fun _ _ _ q => ⟨rfl, rfl, _, q⟩) (fun v5 h _ hs => ?_)
    refine jj_istore_n (j := 2) (by decide +kernel) (by decide) rfl ?_
    refine jj_aload_n (j := 0) (by decide +kernel) rfl ?_
    refine jj_sipush (n := 273) (v := 273) (by decide +kernel) (by decide) ?_
    refine sy_cv (s_CU_expect (d := d - 1) hG (by omega) hs) (fun o1 h1 hC => jj_callU ok_CU_expect ml_GR_102 sm_GR_CU_expect rfl im_CU_expect se_GR_CU_expect_u (by decide +kernel) (hs.rcGR hG.2) rfl (by omega) (Nat.le_of_ble_eq_true rfl) hC) rfl (fun _ _ _ q => ⟨rfl, rfl, _, q⟩) (fun h hs => ?_)
    refine jj_aload_n (j := 0) (by decide +kernel) rfl ?_
    refine sy_cv (expr_all hG (m - 1) _ _ _ (d - 1) (by omega) hs (by omega)) (fun o1 h1 hC => jj_callV ok_GR_expression ml_GR_149 im_GR_expression se_GR_GR_expression (by decide +kernel) (hs.rcGR hG.2) rfl (by omega) (Nat.le_of_ble_eq_true rfl) hC) rfl (fun _ _ _ q => ⟨rfl, rfl, _, q⟩) (fun h hs => ?_)
    refine jj_aload_n (j := 0) (by decide +kernel) rfl ?_
    refine sy_ci (s_GR_takeDirection (d := d - 1) hG (by omega) hs) (fun o1 h1 hC => jj_callV ok_GR_takeDirection ml_GR_155 im_GR_takeDirection se_GR_GR_takeDirection (by decide +kernel) (hs.rcGR hG.2) rfl (by omega) (Nat.le_of_ble_eq_true rfl) hC) (by decide) rfl (fun _ _ _ q => ⟨rfl, rfl, _, q⟩) (fun v6 h _ hs => ?_)
    refine jj_if_eq (off := 8) (tgt := 49) (by decide +kernel) (by decide) (fun c7 => ?_) (fun c7 => ?_)
    · skip
      refine jj_bipush (n := 38) (v := 38) (by decide +kernel) (by decide) ?_
      exact jj_wk (js_s (js_s (js_s (js_s js_0)))) (b_GR_loopStatement_51 hG ho hS hdd hm hs)
    · skip
      refine jj_bipush (n := 39) (v := 39) (by decide +kernel) (by decide) ?_
      refine jj_goto (off := 5) (tgt := 51) (by decide +kernel) (by decide) ?_
      exact jj_wk (js_s (js_s (js_s (js_s js_0)))) (b_GR_loopStatement_51 hG ho hS hdd hm hs)
theorem s_GR_loopStatement {l : Launch} {G : jj_G} {X : sy_X} {K o N d : Nat} {m : Nat} {h : jj_H} (hG : sy_G G X) (ho : o + m = 40) (hS : 0 < m → sy_One l G X N 7 28 (m - 1)) (hdd : 26 + 10 * m ≤ d) (hs : Sy G X K o N h) : jj_Q l G y_GR_loopStatement d [.ref (X.2.2.1 12)] h (sy_F 0 true G X K o N) :=
  jj_Q.of (by decide +kernel) (Nat.le_of_ble_eq_true rfl) (b_GR_loopStatement_0 hG ho hS hdd hs)
set_option maxRecDepth 100000 in
set_option maxHeartbeats 4000000 in
theorem b_GR_statement_0 {l : Launch} {G : jj_G} {X : sy_X} {K o N d : Nat} {m : Nat} {h : jj_H} (hG : sy_G G X) (ho : o + m = 40) (hS : 0 < m → sy_One l G X N 7 28 (m - 1)) (hdd : 27 + 10 * m ≤ d) (hs : Sy G X K o N h) : jj_P l G y_GR_statement d (sy_F 0 true G X K o N) 0 [some (.ref (X.2.2.1 12))] [] h := by
  refine jj_aload_n (j := 0) (by decide +kernel) rfl ?_
  obtain ⟨ki, va, pl, fa, fp, ne, hg⟩ := hs.gr hG.2
  refine jj_getfield 3 ck_GR fl_GR_68 (by decide) (by decide +kernel) hg rfl ?_
  refine jj_lookupAny (dflt := 174) (ps := #[(259, 167), (262, 107), (268, 121), (269, 114), (272, 100), (277, 114), (281, 130), (284, 146), (296, 167), (308, 139), (310, 114)]) (len := 100) (ts := [104, 111, 118, 125, 134, 143, 150, 171, 178]) (by decide +kernel) (by decide) (by decide +kernel) (jt_c ?_ (jt_c ?_ (jt_c ?_ (jt_c ?_ (jt_c ?_ (jt_c ?_ (jt_c ?_ (jt_c ?_ (jt_c ?_ jt_0)))))))))
  · skip
    refine jj_aload_n (j := 0) (by decide +kernel) rfl ?_
    refine sy_cv (s_GR_ifStatement (d := d - 1) (m := m) hG (by omega) hS (by omega) hs) (fun o1 h1 hC => jj_callV ok_GR_ifStatement ml_GR_208 im_GR_ifStatement se_GR_GR_ifStatement (by decide +kernel) (hs.rcGR hG.2) rfl (by omega) (Nat.le_of_ble_eq_true rfl) hC) rfl (fun _ _ _ q => ⟨rfl, rfl, _, q⟩) (fun h hs => ?_)
    refine jj_goto (off := 74) (tgt := 182) (by decide +kernel) (by decide) ?_
    exact jj_vret (by decide +kernel) rfl ⟨rfl, hs⟩
  · skip
    refine jj_aload_n (j := 0) (by decide +kernel) rfl ?_
    refine sy_cv (s_GR_caseStatement (d := d - 1) (m := m) hG (by omega) hS (by omega) hs) (fun o1 h1 hC => jj_callV ok_GR_caseStatement ml_GR_211 im_GR_caseStatement se_GR_GR_caseStatement (by decide +kernel) (hs.rcGR hG.2) rfl (by omega) (Nat.le_of_ble_eq_true rfl) hC) rfl (fun _ _ _ q => ⟨rfl, rfl, _, q⟩) (fun h hs => ?_)
    refine jj_goto (off := 67) (tgt := 182) (by decide +kernel) (by decide) ?_
    exact jj_vret (by decide +kernel) rfl ⟨rfl, hs⟩
  · skip
    refine jj_aload_n (j := 0) (by decide +kernel) rfl ?_
    refine sy_cv (s_GR_loopStatement (d := d - 1) (m := m) hG (by omega) hS (by omega) hs) (fun o1 h1 hC => jj_callV ok_GR_loopStatement ml_GR_214 im_GR_loopStatement se_GR_GR_loopStatement (by decide +kernel) (hs.rcGR hG.2) rfl (by omega) (Nat.le_of_ble_eq_true rfl) hC) rfl (fun _ _ _ q => ⟨rfl, rfl, _, q⟩) (fun h hs => ?_)
    refine jj_goto (off := 60) (tgt := 182) (by decide +kernel) (by decide) ?_
    exact jj_vret (by decide +kernel) rfl ⟨rfl, hs⟩
  · skip
    refine jj_aload_n (j := 0) (by decide +kernel) rfl ?_
    refine jj_bipush (n := 42) (v := 42) (by decide +kernel) (by decide) ?_
    refine sy_cv (s_GR_leaveOrRepeat (d := d - 1) (m := m) hG (by omega) (by omega) hs) (fun o1 h1 hC => jj_callV ok_GR_leaveOrRepeat ml_GR_217 im_GR_leaveOrRepeat se_GR_GR_leaveOrRepeat (by decide +kernel) (hs.rcGR hG.2) rfl (by omega) (Nat.le_of_ble_eq_true rfl) hC) rfl (fun _ _ _ q => ⟨rfl, rfl, _, q⟩) (fun h hs => ?_)
    refine jj_goto (off := 51) (tgt := 182) (by decide +kernel) (by decide) ?_
    exact jj_vret (by decide +kernel) rfl ⟨rfl, hs⟩
  · skip
    refine jj_aload_n (j := 0) (by decide +kernel) rfl ?_
    refine jj_bipush (n := 43) (v := 43) (by decide +kernel) (by decide) ?_
    refine sy_cv (s_GR_leaveOrRepeat (d := d - 1) (m := m) hG (by omega) (by omega) hs) (fun o1 h1 hC => jj_callV ok_GR_leaveOrRepeat ml_GR_217 im_GR_leaveOrRepeat se_GR_GR_leaveOrRepeat (by decide +kernel) (hs.rcGR hG.2) rfl (by omega) (Nat.le_of_ble_eq_true rfl) hC) rfl (fun _ _ _ q => ⟨rfl, rfl, _, q⟩) (fun h hs => ?_)
    refine jj_goto (off := 42) (tgt := 182) (by decide +kernel) (by decide) ?_
    exact jj_vret (by decide +kernel) rfl ⟨rfl, hs⟩
  · skip
    refine jj_aload_n (j := 0) (by decide +kernel) rfl ?_
    refine sy_cv (s_GR_waitStatement (d := d - 1) (m := m) hG (by omega) (by omega) hs) (fun o1 h1 hC => jj_callV ok_GR_waitStatement ml_GR_220 im_GR_waitStatement se_GR_GR_waitStatement (by decide +kernel) (hs.rcGR hG.2) rfl (by omega) (Nat.le_of_ble_eq_true rfl) hC) rfl (fun _ _ _ q => ⟨rfl, rfl, _, q⟩) (fun h hs => ?_)
    refine jj_goto (off := 35) (tgt := 182) (by decide +kernel) (by decide) ?_
    exact jj_vret (by decide +kernel) rfl ⟨rfl, hs⟩
  · skip
    refine jj_aload_n (j := 0) (by decide +kernel) rfl ?_
    refine sy_cv (s_CU_take (d := d - 1) hG (by omega) hs) (fun o1 h1 hC => jj_callU ok_CU_take ml_GR_134 sm_GR_CU_take rfl im_CU_take se_GR_CU_take_u (by decide +kernel) (hs.rcGR hG.2) rfl (by omega) (Nat.le_of_ble_eq_true rfl) hC) rfl (fun _ _ _ q => ⟨rfl, rfl, _, q⟩) (fun h hs => ?_)
    refine jj_aload_n (j := 0) (by decide +kernel) rfl ?_
    refine jj_bipush (n := 59) (v := 59) (by decide +kernel) (by decide) ?_
    refine sy_cv (s_CU_expect (d := d - 1) hG (by omega) hs) (fun o1 h1 hC => jj_callU ok_CU_expect ml_GR_102 sm_GR_CU_expect rfl im_CU_expect se_GR_CU_expect_u (by decide +kernel) (hs.rcGR hG.2) rfl (by omega) (Nat.le_of_ble_eq_true rfl) hC) rfl (fun _ _ _ q => ⟨rfl, rfl, _, q⟩) (fun h hs => ?_)
    refine jj_aload_n (j := 0) (by decide +kernel) rfl ?_
    refine jj_bipush (n := 45) (v := 45) (by decide +kernel) (by decide) ?_
    refine jj_iconst (n := 0) (v := 0) (by decide +kernel) (by decide) ?_
    refine jj_iconst (n := 0) (v := 0) (by decide +kernel) (by decide) ?_
    refine sy_cv (s_CU_tell (d := d - 1) hG (by omega) hs) (fun o1 h1 hC => jj_callU ok_CU_tell ml_GR_64 sm_GR_CU_tell rfl im_CU_tell se_GR_CU_tell_u (by decide +kernel) (hs.rcGR hG.2) rfl (by omega) (Nat.le_of_ble_eq_true rfl) hC) rfl (fun _ _ _ q => ⟨rfl, rfl, _, q⟩) (fun h hs => ?_)
    refine jj_goto (off := 14) (tgt := 182) (by decide +kernel) (by decide) ?_
    exact jj_vret (by decide +kernel) rfl ⟨rfl, hs⟩
  · skip
    refine jj_aload_n (j := 0) (by decide +kernel) rfl ?_
    refine sy_cv (s_GR_reportStatement (d := d - 1) (m := m) hG (by omega) (by omega) hs) (fun o1 h1 hC => jj_callV ok_GR_reportStatement ml_GR_223 im_GR_reportStatement se_GR_GR_reportStatement (by decide +kernel) (hs.rcGR hG.2) rfl (by omega) (Nat.le_of_ble_eq_true rfl) hC) rfl (fun _ _ _ q => ⟨rfl, rfl, _, q⟩) (fun h hs => ?_)
    refine jj_goto (off := 7) (tgt := 182) (by decide +kernel) (by decide) ?_
    exact jj_vret (by decide +kernel) rfl ⟨rfl, hs⟩
  · skip
    refine jj_aload_n (j := 0) (by decide +kernel) rfl ?_
    refine sy_cv (s_GR_assignment (d := d - 1) (m := m) hG (by omega) (by omega) hs) (fun o1 h1 hC => jj_callV ok_GR_assignment ml_GR_226 im_GR_assignment se_GR_GR_assignment (by decide +kernel) (hs.rcGR hG.2) rfl (by omega) (Nat.le_of_ble_eq_true rfl) hC) rfl (fun _ _ _ q => ⟨rfl, rfl, _, q⟩) (fun h hs => ?_)
    exact jj_vret (by decide +kernel) rfl ⟨rfl, hs⟩
theorem s_GR_statement {l : Launch} {G : jj_G} {X : sy_X} {K o N d : Nat} {m : Nat} {h : jj_H} (hG : sy_G G X) (ho : o + m = 40) (hS : 0 < m → sy_One l G X N 7 28 (m - 1)) (hdd : 27 + 10 * m ≤ d) (hs : Sy G X K o N h) : jj_Q l G y_GR_statement d [.ref (X.2.2.1 12)] h (sy_F 0 true G X K o N) :=
  jj_Q.of (by decide +kernel) (Nat.le_of_ble_eq_true rfl) (b_GR_statement_0 hG ho hS hdd hs)
set_option maxRecDepth 100000 in
set_option maxHeartbeats 4000000 in
theorem b_GR_one_7_0 {l : Launch} {G : jj_G} {X : sy_X} {K o N d : Nat} {m : Nat} {h : jj_H} (hG : sy_G G X) (ho : o + m = 40) (hS : 0 < m → sy_One l G X N 7 28 (m - 1)) (hdd : 28 + 10 * m ≤ d) (hs : Sy G X K o N h) : jj_P l G y_GR_one d (sy_F 1 true G X K o N) 0 [some (.ref (X.2.2.1 12)), some (.int 7)] [] h := by
  refine jj_iload_n (j := 1) (by decide +kernel) rfl ?_
  refine jj_tableIn (dflt := 130) (lo := 0) (hi := 12) (offs := #[73, 79, 84, 89, 89, 94, 100, 106, 112, 118, 124, 130, 67]) (len := 67) (off := 106) (tgt := 107) (by decide +kernel) (by decide) (by decide) (by decide) (by decide) ?_
  refine jj_aload_n (j := 0) (by decide +kernel) rfl ?_
  refine sy_cv (s_GR_statement (d := d - 1) (m := m) hG (by omega) hS (by omega) hs) (fun o1 h1 hC => jj_callV ok_GR_statement ml_GR_49 im_GR_statement se_GR_GR_statement (by decide +kernel) (hs.rcGR hG.2) rfl (by omega) (Nat.le_of_ble_eq_true rfl) hC) rfl (fun _ _ _ q => ⟨rfl, rfl, _, q⟩) (fun h hs => ?_)
  refine jj_iconst (n := 1) (v := 1) (by decide +kernel) (by decide) ?_
  exact jj_iret .int (by decide +kernel) rfl rfl ⟨Or.inl rfl, hs⟩
theorem s_GR_one_7 {l : Launch} {G : jj_G} {X : sy_X} {K o N d : Nat} {m : Nat} {h : jj_H} (hG : sy_G G X) (ho : o + m = 40) (hS : 0 < m → sy_One l G X N 7 28 (m - 1)) (hdd : 28 + 10 * m ≤ d) (hs : Sy G X K o N h) : jj_Q l G y_GR_one d [.ref (X.2.2.1 12), .int 7] h (sy_F 1 true G X K o N) :=
  jj_Q.of (by decide +kernel) (Nat.le_of_ble_eq_true rfl) (b_GR_one_7_0 hG ho hS hdd hs)
theorem one7_all {l : Launch} {G : jj_G} {X : sy_X} {N : Nat} (hG : sy_G G X) : ∀ m, sy_One l G X N 7 28 m := by
  intro m
  induction m with
  | zero => exact fun K o h d ho hs hdd => s_GR_one_7 hG ho (fun q => absurd q (by decide)) hdd hs
  | succ m ih => exact fun K o h d ho hs hdd => s_GR_one_7 hG ho (fun _ => ih) hdd hs
end
section
set_option maxRecDepth 100000 in
set_option maxHeartbeats 4000000 in
theorem b_GR_process_87 {l : Launch} {G : jj_G} {X : sy_X} {K o N d : Nat} {m : Nat} {x1 : Int32} {h : jj_H} (hG : sy_G G X) (ho : o + m = 40) (hdd : 31 + 10 * m ≤ d) (hs : Sy G X K o N h) : jj_P l G y_GR_process d (sy_F 0 true G X K o N) 87 [some (.ref (X.2.2.1 12)), some (.int x1)] [] h := by
  refine jj_aload_n (j := 0) (by decide +kernel) rfl ?_
  refine jj_bipush (n := 59) (v := 59) (by decide +kernel) (by decide) ?_
  refine sy_cv (s_CU_expect (d := d - 1) hG (by omega) hs) (fun o1 h1 hC => jj_callU ok_CU_expect ml_GR_102 sm_GR_CU_expect rfl im_CU_expect se_GR_CU_expect_u (by decide +kernel) (hs.rcGR hG.2) rfl (by omega) (Nat.le_of_ble_eq_true rfl) hC) rfl (fun _ _ _ q => ⟨rfl, rfl, _, q⟩) (fun h hs => ?_)
  refine jj_aload_n (j := 0) (by decide +kernel) rfl ?_
  refine jj_bipush (n := 60) (v := 60) (by decide +kernel) (by decide) ?_
  refine jj_iload_n (j := 1) (by decide +kernel) rfl ?_
  refine jj_iconst (n := 3) (v := 3) (by decide +kernel) (by decide) ?_
  refine sy_cv (s_CU_tell (d := d - 1) hG (by omega) hs) (fun o1 h1 hC => jj_callU ok_CU_tell ml_GR_64 sm_GR_CU_tell rfl im_CU_tell se_GR_CU_tell_u (by decide +kernel) (hs.rcGR hG.2) rfl (by omega) (Nat.le_of_ble_eq_true rfl) hC) rfl (fun _ _ _ q => ⟨rfl, rfl, _, q⟩) (fun h hs => ?_)
  exact jj_vret (by decide +kernel) rfl ⟨rfl, hs⟩
set_option maxRecDepth 100000 in
set_option maxHeartbeats 4000000 in
theorem b_GR_process_37 {l : Launch} {G : jj_G} {X : sy_X} {K o N d : Nat} {m : Nat} {x1 : Int32} {h : jj_H} (hG : sy_G G X) (ho : o + m = 40) (hdd : 31 + 10 * m ≤ d) (hs : Sy G X K o N h) : jj_P l G y_GR_process d (sy_F 0 true G X K o N) 37 [some (.ref (X.2.2.1 12)), some (.int x1)] [] h := by
  refine jj_aload_n (j := 0) (by decide +kernel) rfl ?_
  refine jj_sipush (n := 276) (v := 276) (by decide +kernel) (by decide) ?_
  refine sy_ci (s_CU_accept (d := d - 1) hG (by omega) hs) (fun o1 h1 hC => jj_callU ok_CU_accept ml_GR_80 sm_GR_CU_accept rfl im_CU_accept se_GR_CU_accept_u (by decide +kernel) (hs.rcGR hG.2) rfl (by omega) (Nat.le_of_ble_eq_true rfl) hC) (by decide) rfl (fun _ _ _ q => ⟨rfl, rfl, _, q⟩) (fun v1 h _ hs => ?_)
  refine jj_pop (by decide +kernel) rfl ?_
  refine jj_aload_n (j := 0) (by decide +kernel) rfl ?_
  refine jj_iconst (n := 4) (v := 4) (by decide +kernel) (by decide) ?_
  refine sy_cv (s_GR_listOfAny (d := d - 1) (m := m) hG (by omega) (one4_all hG m) (by decide) (by omega) hs) (fun o1 h1 hC => jj_callV ok_GR_listOfAny ml_GR_159 im_GR_listOfAny se_GR_GR_listOfAny (by decide +kernel) (hs.rcGR hG.2) rfl (by omega) (Nat.le_of_ble_eq_true rfl) hC) rfl (fun _ _ _ q => ⟨rfl, rfl, _, q⟩) (fun h hs => ?_)
  refine jj_aload_n (j := 0) (by decide +kernel) rfl ?_
  refine jj_sipush (n := 260) (v := 260) (by decide +kernel) (by decide) ?_
  refine sy_cv (s_CU_expect (d := d - 1) hG (by omega) hs) (fun o1 h1 hC => jj_callU ok_CU_expect ml_GR_102 sm_GR_CU_expect rfl im_CU_expect se_GR_CU_expect_u (by decide +kernel) (hs.rcGR hG.2) rfl (by omega) (Nat.le_of_ble_eq_true rfl) hC) rfl (fun _ _ _ q => ⟨rfl, rfl, _, q⟩) (fun h hs => ?_)
  refine jj_aload_n (j := 0) (by decide +kernel) rfl ?_
  refine jj_bipush (n := 7) (v := 7) (by decide +kernel) (by decide) ?_
  refine sy_cv (s_GR_listOfAny (d := d - 1) (m := m) hG (by omega) (one7_all hG m) (by decide) (by omega) hs) (fun o1 h1 hC => jj_callV ok_GR_listOfAny ml_GR_159 im_GR_listOfAny se_GR_GR_listOfAny (by decide +kernel) (hs.rcGR hG.2) rfl (by omega) (Nat.le_of_ble_eq_true rfl) hC) rfl (fun _ _ _ q => ⟨rfl, rfl, _, q⟩) (fun h hs => ?_)
  refine jj_aload_n (j := 0) (by decide +kernel) rfl ?_
  refine jj_sipush (n := 267) (v := 267) (by decide +kernel) (by decide) ?_
  refine sy_cv (s_CU_expect (d := d - 1) hG (by omega) hs) (fun o1 h1 hC => jj_callU ok_CU_expect ml_GR_102 sm_GR_CU_expect rfl im_CU_expect se_GR_CU_expect_u (by decide +kernel) (hs.rcGR hG.2) rfl (by omega) (Nat.le_of_ble_eq_true rfl) hC) rfl (fun _ _ _ q => ⟨rfl, rfl, _, q⟩) (fun h hs => ?_)
  refine jj_aload_n (j := 0) (by decide +kernel) rfl ?_
  refine jj_sipush (n := 292) (v := 292) (by decide +kernel) (by decide) ?_
  refine sy_cv (s_CU_expect (d := d - 1) hG (by omega) hs) (fun o1 h1 hC => jj_callU ok_CU_expect ml_GR_102 sm_GR_CU_expect rfl im_CU_expect se_GR_CU_expect_u (by decide +kernel) (hs.rcGR hG.2) rfl (by omega) (Nat.le_of_ble_eq_true rfl) hC) rfl (fun _ _ _ q => ⟨rfl, rfl, _, q⟩) (fun h hs => ?_)
  refine jj_iload_n (j := 1) (by decide +kernel) rfl ?_
  refine jj_iconst (n := (-1)) (v := (-1)) (by decide +kernel) (by decide) ?_
  refine jj_icmp_eq (off := 8) (tgt := 87) (by decide +kernel) (by decide) (fun c2 => ?_) (fun c2 => ?_)
  · skip
    exact jj_wk (js_s (js_s js_0)) (b_GR_process_87 (o := o) hG ho hdd hs)
  · skip
    refine jj_aload_n (j := 0) (by decide +kernel) rfl ?_
    refine jj_iload_n (j := 1) (by decide +kernel) rfl ?_
    refine sy_cv (s_GR_nameBehindEnd (d := d - 1) hG (by omega) hs) (fun o1 h1 hC => jj_callV ok_GR_nameBehindEnd ml_GR_109 im_GR_nameBehindEnd se_GR_GR_nameBehindEnd (by decide +kernel) (hs.rcGR hG.2) rfl (by omega) (Nat.le_of_ble_eq_true rfl) hC) rfl (fun _ _ _ q => ⟨rfl, rfl, _, q⟩) (fun h hs => ?_)
    exact jj_wk (js_s (js_s js_0)) (b_GR_process_87 (o := o) hG ho hdd hs)
set_option maxRecDepth 100000 in
set_option maxHeartbeats 4000000 in
theorem b_GR_process_0 {l : Launch} {G : jj_G} {X : sy_X} {K o N d : Nat} {m : Nat} {x1 : Int32} {h : jj_H} (hG : sy_G G X) (ho : o + m = 40) (hdd : 31 + 10 * m ≤ d) (hs : Sy G X K o N h) : jj_P l G y_GR_process d (sy_F 0 true G X K o N) 0 [some (.ref (X.2.2.1 12)), some (.int x1)] [] h := by
  refine jj_aload_n (j := 0) (by decide +kernel) rfl ?_
  refine jj_sipush (n := 292) (v := 292) (by decide +kernel) (by decide) ?_
  refine sy_cv (s_CU_expect (d := d - 1) hG (by omega) hs) (fun o1 h1 hC => jj_callU ok_CU_expect ml_GR_102 sm_GR_CU_expect rfl im_CU_expect se_GR_CU_expect_u (by decide +kernel) (hs.rcGR hG.2) rfl (by omega) (Nat.le_of_ble_eq_true rfl) hC) rfl (fun _ _ _ q => ⟨rfl, rfl, _, q⟩) (fun h hs => ?_)
  refine jj_aload_n (j := 0) (by decide +kernel) rfl ?_
  refine jj_bipush (n := 40) (v := 40) (by decide +kernel) (by decide) ?_
  refine sy_ci (s_CU_accept (d := d - 1) hG (by omega) hs) (fun o1 h1 hC => jj_callU ok_CU_accept ml_GR_80 sm_GR_CU_accept rfl im_CU_accept se_GR_CU_accept_u (by decide +kernel) (hs.rcGR hG.2) rfl (by omega) (Nat.le_of_ble_eq_true rfl) hC) (by decide) rfl (fun _ _ _ q => ⟨rfl, rfl, _, q⟩) (fun v1 h _ hs => ?_)
  refine jj_if_eq (off := 20) (tgt := 33) (by decide +kernel) (by decide) (fun c2 => ?_) (fun c2 => ?_)
  · skip
    refine jj_aload_n (j := 0) (by decide +kernel) rfl ?_
    refine sy_cv (s_CU_tellNothing (d := d - 1) hG (by omega) hs) (fun o1 h1 hC => jj_callU ok_CU_tellNothing ml_GR_152 sm_GR_CU_tellNothing rfl im_CU_tellNothing se_GR_CU_tellNothing_u (by decide +kernel) (hs.rcGR hG.2) rfl (by omega) (Nat.le_of_ble_eq_true rfl) hC) rfl (fun _ _ _ q => ⟨rfl, rfl, _, q⟩) (fun h hs => ?_)
    exact jj_wk (js_s (js_s js_0)) (b_GR_process_37 (o := o) hG ho hdd hs)
  · skip
    refine jj_aload_n (j := 0) (by decide +kernel) rfl ?_
    refine jj_bipush (n := 11) (v := 11) (by decide +kernel) (by decide) ?_
    refine jj_bipush (n := 44) (v := 44) (by decide +kernel) (by decide) ?_
    refine sy_cv (s_GR_listOfSome (d := d - 1) (m := m) hG (by omega) (one11_all hG m) (by decide) (by omega) hs) (fun o1 h1 hC => jj_callV ok_GR_listOfSome ml_GR_112 im_GR_listOfSome se_GR_GR_listOfSome (by decide +kernel) (hs.rcGR hG.2) rfl (by omega) (Nat.le_of_ble_eq_true rfl) hC) rfl (fun _ _ _ q => ⟨rfl, rfl, _, q⟩) (fun h hs => ?_)
    refine jj_aload_n (j := 0) (by decide +kernel) rfl ?_
    refine jj_bipush (n := 41) (v := 41) (by decide +kernel) (by decide) ?_
    refine sy_cv (s_CU_expect (d := d - 1) hG (by omega) hs) (fun o1 h1 hC => jj_callU ok_CU_expect ml_GR_102 sm_GR_CU_expect rfl im_CU_expect se_GR_CU_expect_u (by decide +kernel) (hs.rcGR hG.2) rfl (by omega) (Nat.le_of_ble_eq_true rfl) hC) rfl (fun _ _ _ q => ⟨rfl, rfl, _, q⟩) (fun h hs => ?_)
    refine jj_goto (off := 7) (tgt := 37) (by decide +kernel) (by decide) ?_
    exact jj_wk (js_s (js_s js_0)) (b_GR_process_37 (o := o) hG ho hdd hs)
theorem s_GR_process {l : Launch} {G : jj_G} {X : sy_X} {K o N d : Nat} {m : Nat} {x1 : Int32} {h : jj_H} (hG : sy_G G X) (ho : o + m = 40) (hdd : 31 + 10 * m ≤ d) (hs : Sy G X K o N h) : jj_Q l G y_GR_process d [.ref (X.2.2.1 12), .int x1] h (sy_F 0 true G X K o N) :=
  jj_Q.of (by decide +kernel) (Nat.le_of_ble_eq_true rfl) (b_GR_process_0 hG ho hdd hs)
set_option maxRecDepth 100000 in
set_option maxHeartbeats 4000000 in
theorem b_GR_concurrentAssignment_91 {l : Launch} {G : jj_G} {X : sy_X} {K o N d : Nat} {m : Nat} {x1 : Int32} {h : jj_H} {x2 x3 x4 : Int32} (hG : sy_G G X) (ho : o + m = 40) (hdd : 27 + 10 * m ≤ d) (hs : Sy G X K o N h) : jj_P l G y_GR_concurrentAssignment d (sy_F 0 true G X K o N) 91 [some (.ref (X.2.2.1 12)), some (.int x1), some (.int x2), some (.int x3), some (.int x4)] [] h := by
  refine jj_aload_n (j := 0) (by decide +kernel) rfl ?_
  refine jj_bipush (n := 59) (v := 59) (by decide +kernel) (by decide) ?_
  refine sy_cv (s_CU_expect (d := d - 1) hG (by omega) hs) (fun o1 h1 hC => jj_callU ok_CU_expect ml_GR_102 sm_GR_CU_expect rfl im_CU_expect se_GR_CU_expect_u (by decide +kernel) (hs.rcGR hG.2) rfl (by omega) (Nat.le_of_ble_eq_true rfl) hC) rfl (fun _ _ _ q => ⟨rfl, rfl, _, q⟩) (fun h hs => ?_)
  refine jj_aload_n (j := 0) (by decide +kernel) rfl ?_
  refine jj_bipush (n := 61) (v := 61) (by decide +kernel) (by decide) ?_
  refine jj_iload_n (j := 2) (by decide +kernel) rfl ?_
  refine jj_iload_n (j := 3) (by decide +kernel) rfl ?_
  refine sy_cv (s_CU_tell (d := d - 1) hG (by omega) hs) (fun o1 h1 hC => jj_callU ok_CU_tell ml_GR_64 sm_GR_CU_tell rfl im_CU_tell se_GR_CU_tell_u (by decide +kernel) (hs.rcGR hG.2) rfl (by omega) (Nat.le_of_ble_eq_true rfl) hC) rfl (fun _ _ _ q => ⟨rfl, rfl, _, q⟩) (fun h hs => ?_)
  exact jj_vret (by decide +kernel) rfl ⟨rfl, hs⟩
set_option maxRecDepth 100000 in
set_option maxHeartbeats 4000000 in
theorem b_GR_concurrentAssignment_45 {l : Launch} {G : jj_G} {X : sy_X} {K o N d : Nat} {m : Nat} {x1 : Int32} (hG : sy_G G X) (ho : o + m = 40) (hdd : 27 + 10 * m ≤ d) : ∀ (n : Nat) (x2 : Int32) (x3 : Int32) (x4 : Int32) (h : jj_H), (2147483647 - x4.toInt).toNat < n → Sy G X K o N h → jj_P l G y_GR_concurrentAssignment d (sy_F 0 true G X K o N) 45 [some (.ref (X.2.2.1 12)), some (.int x1), some (.int x2), some (.int x3), some (.int x4)] [] h := by
  intro n
  induction n with
  | zero => intro x2 x3 x4 h hn; exact absurd hn (Nat.not_lt_zero _)
  | succ n ih =>
    intro x2 x3 x4 h hn hs
    refine jj_iload (i := 4) (by decide +kernel) rfl ?_
    refine jj_sipush (n := 16385) (v := 16385) (by decide +kernel) (by decide) ?_
    refine jj_icmp_ge (off := 41) (tgt := 91) (by decide +kernel) (by decide) (fun c1 => ?_) (fun c1 => ?_)
    · skip
      exact jj_wk (js_s (js_s (js_s (js_s (js_s js_0))))) (b_GR_concurrentAssignment_91 (o := o) hG ho hdd hs)
    · skip
      have hdec := up_lt (Int32.not_le.mp c1) hn
      refine jj_aload_n (j := 0) (by decide +kernel) rfl ?_
      refine jj_sipush (n := 309) (v := 309) (by decide +kernel) (by decide) ?_
      refine sy_ci (s_CU_accept (d := d - 1) hG (by omega) hs) (fun o1 h1 hC => jj_callU ok_CU_accept ml_GR_80 sm_GR_CU_accept rfl im_CU_accept se_GR_CU_accept_u (by decide +kernel) (hs.rcGR hG.2) rfl (by omega) (Nat.le_of_ble_eq_true rfl) hC) (by decide) rfl (fun _ _ _ q => ⟨rfl, rfl, _, q⟩) (fun v2 h _ hs => ?_)
      refine jj_if_eq (off := 31) (tgt := 91) (by decide +kernel) (by decide) (fun c3 => ?_) (fun c3 => ?_)
      · skip
        exact jj_wk (js_s (js_s (js_s (js_s (js_s js_0))))) (b_GR_concurrentAssignment_91 (o := o) hG ho hdd hs)
      · skip
        refine jj_aload_n (j := 0) (by decide +kernel) rfl ?_
        refine sy_cv (expr_all hG m _ _ _ (d - 1) (by omega) hs (by omega)) (fun o1 h1 hC => jj_callV ok_GR_expression ml_GR_149 im_GR_expression se_GR_GR_expression (by decide +kernel) (hs.rcGR hG.2) rfl (by omega) (Nat.le_of_ble_eq_true rfl) hC) rfl (fun _ _ _ q => ⟨rfl, rfl, _, q⟩) (fun h hs => ?_)
        refine jj_aload_n (j := 0) (by decide +kernel) rfl ?_
        refine jj_sipush (n := 265) (v := 265) (by decide +kernel) (by decide) ?_
        refine sy_cv (s_CU_expect (d := d - 1) hG (by omega) hs) (fun o1 h1 hC => jj_callU ok_CU_expect ml_GR_102 sm_GR_CU_expect rfl im_CU_expect se_GR_CU_expect_u (by decide +kernel) (hs.rcGR hG.2) rfl (by omega) (Nat.le_of_ble_eq_true rfl) hC) rfl (fun _ _ _ q => ⟨rfl, rfl, _, q⟩) (fun h hs => ?_)
        refine jj_aload_n (j := 0) (by decide +kernel) rfl ?_
        refine jj_bipush (n := 8) (v := 8) (by decide +kernel) (by decide) ?_
        refine jj_bipush (n := 44) (v := 44) (by decide +kernel) (by decide) ?_
        refine sy_cv (s_GR_listOfSome (d := d - 1) (m := m) hG (by omega) (one8_all hG m) (by decide) (by omega) hs) (fun o1 h1 hC => jj_callV ok_GR_listOfSome ml_GR_112 im_GR_listOfSome se_GR_GR_listOfSome (by decide +kernel) (hs.rcGR hG.2) rfl (by omega) (Nat.le_of_ble_eq_true rfl) hC) rfl (fun _ _ _ q => ⟨rfl, rfl, _, q⟩) (fun h hs => ?_)
        refine jj_iinc (i := 3) (n := 2) (by decide +kernel) rfl rfl (by decide) rfl ?_
        refine jj_iinc (i := 4) (n := 1) (by decide +kernel) rfl rfl (by decide) rfl ?_
        refine jj_goto (off := (-43)) (tgt := 45) (by decide +kernel) (by decide) ?_
        exact jj_wk (js_s (js_s (js_s (js_s (js_s js_0))))) (ih _ _ _ _ hdec hs)
set_option maxRecDepth 100000 in
set_option maxHeartbeats 4000000 in
theorem b_GR_concurrentAssignment_27 {l : Launch} {G : jj_G} {X : sy_X} {K o N d : Nat} {m : Nat} {x1 : Int32} {h : jj_H} (hG : sy_G G X) (ho : o + m = 40) (hdd : 27 + 10 * m ≤ d) (hs : Sy G X K o N h) : jj_P l G y_GR_concurrentAssignment d (sy_F 0 true G X K o N) 27 [some (.ref (X.2.2.1 12)), some (.int x1), none, none, none] [] h := by
  refine jj_aload_n (j := 0) (by decide +kernel) rfl ?_
  refine sy_ci (s_GR_mode (d := d - 1) (m := m) hG (by omega) (by omega) hs) (fun o1 h1 hC => jj_callV ok_GR_mode ml_GR_190 im_GR_mode se_GR_GR_mode (by decide +kernel) (hs.rcGR hG.2) rfl (by omega) (Nat.le_of_ble_eq_true rfl) hC) (by decide) rfl (fun _ _ _ q => ⟨rfl, rfl, _, q⟩) (fun v1 h _ hs => ?_)
  refine jj_istore_n (j := 2) (by decide +kernel) (by decide) rfl ?_
  refine jj_aload_n (j := 0) (by decide +kernel) rfl ?_
  refine jj_bipush (n := 8) (v := 8) (by decide +kernel) (by decide) ?_
  refine jj_bipush (n := 44) (v := 44) (by decide +kernel) (by decide) ?_
  refine sy_cv (s_GR_listOfSome (d := d - 1) (m := m) hG (by omega) (one8_all hG m) (by decide) (by omega) hs) (fun o1 h1 hC => jj_callV ok_GR_listOfSome ml_GR_112 im_GR_listOfSome se_GR_GR_listOfSome (by decide +kernel) (hs.rcGR hG.2) rfl (by omega) (Nat.le_of_ble_eq_true rfl) hC) rfl (fun _ _ _ q => ⟨rfl, rfl, _, q⟩) (fun h hs => ?_)
  refine jj_iconst (n := 3) (v := 3) (by decide +kernel) (by decide) ?_
  refine jj_istore_n (j := 3) (by decide +kernel) (by decide) rfl ?_
  refine jj_iconst (n := 0) (v := 0) (by decide +kernel) (by decide) ?_
  refine jj_istore (i := 4) (by decide +kernel) (by decide) rfl ?_
  exact jj_wk (js_s (js_s (js_s (js_s (js_s js_0))))) (b_GR_concurrentAssignment_45 (o := o) hG ho hdd _ _ _ _ _ (Nat.lt_succ_self _) hs)
set_option maxRecDepth 100000 in
set_option maxHeartbeats 4000000 in
theorem b_GR_concurrentAssignment_0 {l : Launch} {G : jj_G} {X : sy_X} {K o N d : Nat} {m : Nat} {x1 : Int32} {h : jj_H} (hG : sy_G G X) (ho : o + m = 40) (hdd : 27 + 10 * m ≤ d) (hs : Sy G X K o N h) : jj_P l G y_GR_concurrentAssignment d (sy_F 0 true G X K o N) 0 [some (.ref (X.2.2.1 12)), some (.int x1), none, none, none] [] h := by
  refine jj_aload_n (j := 0) (by decide +kernel) rfl ?_
  refine jj_iload_n (j := 1) (by decide +kernel) rfl ?_
  refine jj_iconst (n := 0) (v := 0) (by decide +kernel) (by decide) ?_
  refine sy_cv (s_GR_behindName (d := d - 1) (m := m) hG (by omega) (fun _ => expr_all hG _) (by omega) hs) (fun o1 h1 hC => jj_callV ok_GR_behindName ml_GR_186 im_GR_behindName se_GR_GR_behindName (by decide +kernel) (hs.rcGR hG.2) rfl (by omega) (Nat.le_of_ble_eq_true rfl) hC) rfl (fun _ _ _ q => ⟨rfl, rfl, _, q⟩) (fun h hs => ?_)
  refine jj_aload_n (j := 0) (by decide +kernel) rfl ?_
  refine jj_sipush (n := 129) (v := 129) (by decide +kernel) (by decide) ?_
  refine sy_cv (s_CU_expect (d := d - 1) hG (by omega) hs) (fun o1 h1 hC => jj_callU ok_CU_expect ml_GR_102 sm_GR_CU_expect rfl im_CU_expect se_GR_CU_expect_u (by decide +kernel) (hs.rcGR hG.2) rfl (by omega) (Nat.le_of_ble_eq_true rfl) hC) rfl (fun _ _ _ q => ⟨rfl, rfl, _, q⟩) (fun h hs => ?_)
  refine jj_aload_n (j := 0) (by decide +kernel) rfl ?_
  obtain ⟨ki, va, pl, fa, fp, ne, hg⟩ := hs.gr hG.2
  refine jj_getfield 3 ck_GR fl_GR_68 (by decide) (by decide +kernel) hg rfl ?_
  refine jj_sipush (n := 294) (v := 294) (by decide +kernel) (by decide) ?_
  refine jj_icmp_eq (off := 7) (tgt := 27) (by decide +kernel) (by decide) (fun c1 => ?_) (fun c1 => ?_)
  · skip
    exact jj_wk (js_s (js_s (js_n (js_n (js_n js_0))))) (b_GR_concurrentAssignment_27 (o := o) hG ho hdd hs)
  · skip
    refine jj_aload_n (j := 0) (by decide +kernel) rfl ?_
    refine sy_cv (s_CU_tellNothing (d := d - 1) hG (by omega) hs) (fun o1 h1 hC => jj_callU ok_CU_tellNothing ml_GR_152 sm_GR_CU_tellNothing rfl im_CU_tellNothing se_GR_CU_tellNothing_u (by decide +kernel) (hs.rcGR hG.2) rfl (by omega) (Nat.le_of_ble_eq_true rfl) hC) rfl (fun _ _ _ q => ⟨rfl, rfl, _, q⟩) (fun h hs => ?_)
    exact jj_wk (js_s (js_s (js_n (js_n (js_n js_0))))) (b_GR_concurrentAssignment_27 (o := o) hG ho hdd hs)
theorem s_GR_concurrentAssignment {l : Launch} {G : jj_G} {X : sy_X} {K o N d : Nat} {m : Nat} {x1 : Int32} {h : jj_H} (hG : sy_G G X) (ho : o + m = 40) (hdd : 27 + 10 * m ≤ d) (hs : Sy G X K o N h) : jj_Q l G y_GR_concurrentAssignment d [.ref (X.2.2.1 12), .int x1] h (sy_F 0 true G X K o N) :=
  jj_Q.of (by decide +kernel) (Nat.le_of_ble_eq_true rfl) (b_GR_concurrentAssignment_0 hG ho hdd hs)
set_option maxRecDepth 100000 in
set_option maxHeartbeats 4000000 in
theorem b_GR_generate_125 {l : Launch} {G : jj_G} {X : sy_X} {K o N d : Nat} {m : Nat} {x1 : Int32} {h : jj_H} {x2 y1 y2 y3 : Int32} (hG : sy_G G X) (ho : o + m = 40) (hC : 0 < m → sy_One l G X N 5 34 (m - 1)) (hdd : 30 + 10 * m ≤ d) (hs : Sy G X K o N h) : jj_P l G y_GR_generate d (sy_F 0 true G X K o N) 125 [some (.ref (X.2.2.1 12)), some (.int x1), some (.int x2)] [.int y3, .int y2, .int y1, .ref (X.2.2.1 12)] h := by
  refine sy_cv (s_CU_tell (d := d - 1) hG (by omega) hs) (fun o1 h1 hC => jj_callU ok_CU_tell ml_GR_64 sm_GR_CU_tell rfl im_CU_tell se_GR_CU_tell_u (by decide +kernel) (hs.rcGR hG.2) rfl (by omega) (Nat.le_of_ble_eq_true rfl) hC) rfl (fun _ _ _ q => ⟨rfl, rfl, _, q⟩) (fun h hs => ?_)
  exact jj_vret (by decide +kernel) rfl ⟨rfl, hs⟩
set_option maxRecDepth 100000 in
set_option maxHeartbeats 4000000 in
theorem b_GR_generate_115 {l : Launch} {G : jj_G} {X : sy_X} {K o N d : Nat} {m : Nat} {x1 : Int32} {h : jj_H} {x2 y1 : Int32} (hG : sy_G G X) (ho : o + m = 40) (hC : 0 < m → sy_One l G X N 5 34 (m - 1)) (hdd : 30 + 10 * m ≤ d) (hs : Sy G X K o N h) : jj_P l G y_GR_generate d (sy_F 0 true G X K o N) 115 [some (.ref (X.2.2.1 12)), some (.int x1), some (.int x2)] [.int y1, .ref (X.2.2.1 12)] h := by
  refine jj_iload_n (j := 1) (by decide +kernel) rfl ?_
  refine jj_iload_n (j := 2) (by decide +kernel) rfl ?_
  refine jj_if_eq (off := 7) (tgt := 124) (by decide +kernel) (by decide) (fun c1 => ?_) (fun c1 => ?_)
  · skip
    refine jj_iconst (n := 2) (v := 2) (by decide +kernel) (by decide) ?_
    exact jj_wk (js_s (js_s (js_s js_0))) (b_GR_generate_125 (o := o) hG ho hC hdd hs)
  · skip
    refine jj_iconst (n := 4) (v := 4) (by decide +kernel) (by decide) ?_
    refine jj_goto (off := 4) (tgt := 125) (by decide +kernel) (by decide) ?_
    exact jj_wk (js_s (js_s (js_s js_0))) (b_GR_generate_125 (o := o) hG ho hC hdd hs)
set_option maxRecDepth 100000 in
set_option maxHeartbeats 4000000 in
theorem b_GR_generate_62 {l : Launch} {G : jj_G} {X : sy_X} {K o N d : Nat} {m : Nat} {x1 : Int32} {h : jj_H} {x2 : Int32} (hG : sy_G G X) (ho : o + m = 40) (hC : 0 < m → sy_One l G X N 5 34 (m - 1)) (hdd : 30 + 10 * m ≤ d) (hm : 0 < m) (hs : Sy G X K (o + 1) N h) : jj_P l G y_GR_generate d (sy_F 0 true G X K o N) 62 [some (.ref (X.2.2.1 12)), some (.int x1), some (.int x2)] [] h := by
  refine jj_aload_n (j := 0) (by decide +kernel) rfl ?_
  refine jj_sipush (n := 270) (v := 270) (by decide +kernel) (by decide) ?_
  refine sy_cv (s_CU_expect (d := d - 1) hG (by omega) hs) (fun o1 h1 hC => jj_callU ok_CU_expect ml_GR_102 sm_GR_CU_expect rfl im_CU_expect se_GR_CU_expect_u (by decide +kernel) (hs.rcGR hG.2) rfl (by omega) (Nat.le_of_ble_eq_true rfl) hC) rfl (fun _ _ _ q => ⟨rfl, rfl, _, q⟩) (fun h hs => ?_)
  refine jj_aload_n (j := 0) (by decide +kernel) rfl ?_
  refine jj_iconst (n := 5) (v := 5) (by decide +kernel) (by decide) ?_
  refine sy_cv (s_GR_listOfAny (d := d - 1) (m := (m - 1)) hG (by omega) (hC hm) (by decide) (by omega) hs) (fun o1 h1 hC => jj_callV ok_GR_listOfAny ml_GR_159 im_GR_listOfAny se_GR_GR_listOfAny (by decide +kernel) (hs.rcGR hG.2) rfl (by omega) (Nat.le_of_ble_eq_true rfl) hC) rfl (fun _ _ _ q => ⟨rfl, rfl, _, q⟩) (fun h hs => ?_)
  refine jj_aload_n (j := 0) (by decide +kernel) rfl ?_
  refine jj_sipush (n := 267) (v := 267) (by decide +kernel) (by decide) ?_
  refine sy_cv (s_CU_expect (d := d - 1) hG (by omega) hs) (fun o1 h1 hC => jj_callU ok_CU_expect ml_GR_102 sm_GR_CU_expect rfl im_CU_expect se_GR_CU_expect_u (by decide +kernel) (hs.rcGR hG.2) rfl (by omega) (Nat.le_of_ble_eq_true rfl) hC) rfl (fun _ _ _ q => ⟨rfl, rfl, _, q⟩) (fun h hs => ?_)
  refine jj_aload_n (j := 0) (by decide +kernel) rfl ?_
  refine jj_sipush (n := 270) (v := 270) (by decide +kernel) (by decide) ?_
  refine sy_cv (s_CU_expect (d := d - 1) hG (by omega) hs) (fun o1 h1 hC => jj_callU ok_CU_expect ml_GR_102 sm_GR_CU_expect rfl im_CU_expect se_GR_CU_expect_u (by decide +kernel) (hs.rcGR hG.2) rfl (by omega) (Nat.le_of_ble_eq_true rfl) hC) rfl (fun _ _ _ q => ⟨rfl, rfl, _, q⟩) (fun h hs => ?_)
  refine jj_aload_n (j := 0) (by decide +kernel) rfl ?_
  refine jj_iload_n (j := 1) (by decide +kernel) rfl ?_
  refine sy_cv (s_GR_nameBehindEnd (d := d - 1) hG (by omega) hs) (fun o1 h1 hC => jj_callV ok_GR_nameBehindEnd ml_GR_109 im_GR_nameBehindEnd se_GR_GR_nameBehindEnd (by decide +kernel) (hs.rcGR hG.2) rfl (by omega) (Nat.le_of_ble_eq_true rfl) hC) rfl (fun _ _ _ q => ⟨rfl, rfl, _, q⟩) (fun h hs => ?_)
  refine jj_aload_n (j := 0) (by decide +kernel) rfl ?_
  refine jj_bipush (n := 59) (v := 59) (by decide +kernel) (by decide) ?_
  refine sy_cv (s_CU_expect (d := d - 1) hG (by omega) hs) (fun o1 h1 hC => jj_callU ok_CU_expect ml_GR_102 sm_GR_CU_expect rfl im_CU_expect se_GR_CU_expect_u (by decide +kernel) (hs.rcGR hG.2) rfl (by omega) (Nat.le_of_ble_eq_true rfl) hC) rfl (fun _ _ _ q => ⟨rfl, rfl, _, q⟩) (fun h hs => ?_)
  refine jj_aload_n (j := 0) (by decide +kernel) rfl ?_
  refine sy_cv (s_CU_leave (d := d - 1) hG.2 hs) (fun o1 h1 hC => jj_callU ok_CU_leave ml_GR_205 sm_GR_CU_leave rfl im_CU_leave se_GR_CU_leave_u (by decide +kernel) (hs.rcGR hG.2) rfl (by omega) (Nat.le_of_ble_eq_true rfl) hC) rfl (fun q => by cases q) (fun h hs => ?_)
  refine jj_aload_n (j := 0) (by decide +kernel) rfl ?_
  refine jj_iload_n (j := 2) (by decide +kernel) rfl ?_
  refine jj_if_eq (off := 8) (tgt := 113) (by decide +kernel) (by decide) (fun c1 => ?_) (fun c1 => ?_)
  · skip
    refine jj_bipush (n := 65) (v := 65) (by decide +kernel) (by decide) ?_
    exact jj_wk (js_s (js_s (js_s js_0))) (b_GR_generate_115 (o := o) hG ho hC hdd hs)
  · skip
    refine jj_bipush (n := 64) (v := 64) (by decide +kernel) (by decide) ?_
    refine jj_goto (off := 5) (tgt := 115) (by decide +kernel) (by decide) ?_
    exact jj_wk (js_s (js_s (js_s js_0))) (b_GR_generate_115 (o := o) hG ho hC hdd hs)
set_option maxRecDepth 100000 in
set_option maxHeartbeats 4000000 in
theorem b_GR_generate_0 {l : Launch} {G : jj_G} {X : sy_X} {K o N d : Nat} {m : Nat} {x1 : Int32} {h : jj_H} (hG : sy_G G X) (ho : o + m = 40) (hC : 0 < m → sy_One l G X N 5 34 (m - 1)) (hdd : 30 + 10 * m ≤ d) (hs : Sy G X K o N h) : jj_P l G y_GR_generate d (sy_F 0 true G X K o N) 0 [some (.ref (X.2.2.1 12)), some (.int x1), none] [] h := by
  refine jj_aload_n (j := 0) (by decide +kernel) rfl ?_
  refine sy_ce (s_CU_enter (d := d - 1) (m := m) hG.2 (by omega) hs (by omega)) (fun o1 h1 hC => jj_callU ok_CU_enter ml_GR_202 sm_GR_CU_enter rfl im_CU_enter se_GR_CU_enter_u (by decide +kernel) (hs.rcGR hG.2) rfl (by omega) (Nat.le_of_ble_eq_true rfl) hC) rfl (fun _ _ q => ⟨rfl, rfl, _, q⟩) (fun h hm hs => ?_)
  refine jj_aload_n (j := 0) (by decide +kernel) rfl ?_
  refine jj_sipush (n := 269) (v := 269) (by decide +kernel) (by decide) ?_
  refine sy_ci (s_CU_accept (d := d - 1) hG (by omega) hs) (fun o1 h1 hC => jj_callU ok_CU_accept ml_GR_80 sm_GR_CU_accept rfl im_CU_accept se_GR_CU_accept_u (by decide +kernel) (hs.rcGR hG.2) rfl (by omega) (Nat.le_of_ble_eq_true rfl) hC) (by decide) rfl (fun _ _ _ q => ⟨rfl, rfl, _, q⟩) (fun v1 h _ hs => ?_)
  refine jj_istore_n (j := 2) (by decide +kernel) (by decide) rfl ?_
  refine jj_iload_n (j := 2) (by decide +kernel) rfl ?_
  refine jj_if_eq (off := 38) (tgt := 51) (by decide +kernel) (by decide) (fun c2 => ?_) (fun c2 => ?_)
  · skip
    refine jj_aload_n (j := 0) (by decide +kernel) rfl ?_
    refine jj_sipush (n := 272) (v := 272) (by decide +kernel) (by decide) ?_
    refine sy_cv (s_CU_expect (d := d - 1) hG (by omega) hs) (fun o1 h1 hC => jj_callU ok_CU_expect ml_GR_102 sm_GR_CU_expect rfl im_CU_expect se_GR_CU_expect_u (by decide +kernel) (hs.rcGR hG.2) rfl (by omega) (Nat.le_of_ble_eq_true rfl) hC) rfl (fun _ _ _ q => ⟨rfl, rfl, _, q⟩) (fun h hs => ?_)
    refine jj_aload_n (j := 0) (by decide +kernel) rfl ?_
    refine sy_cv (expr_all hG (m - 1) _ _ _ (d - 1) (by omega) hs (by omega)) (fun o1 h1 hC => jj_callV ok_GR_expression ml_GR_149 im_GR_expression se_GR_GR_expression (by decide +kernel) (hs.rcGR hG.2) rfl (by omega) (Nat.le_of_ble_eq_true rfl) hC) rfl (fun _ _ _ q => ⟨rfl, rfl, _, q⟩) (fun h hs => ?_)
    exact jj_wk (js_s (js_s (js_s js_0))) (b_GR_generate_62 (o := o) hG ho hC hdd hm hs)
  · skip
    refine jj_aload_n (j := 0) (by decide +kernel) rfl ?_
    refine jj_iconst (n := 1) (v := 1) (by decide +kernel) (by decide) ?_
    refine jj_aload_n (j := 0) (by decide +kernel) rfl ?_
    refine sy_ci (s_CU_takeName (d := d - 1) hG (by omega) hs) (fun o1 h1 hC => jj_callU ok_CU_takeName ml_GR_61 sm_GR_CU_takeName rfl im_CU_takeName se_GR_CU_takeName_u (by decide +kernel) (hs.rcGR hG.2) rfl (by omega) (Nat.le_of_ble_eq_true rfl) hC) (by decide) rfl (fun _ _ _ q => ⟨rfl, rfl, _, q⟩) (fun v3 h _ hs => ?_)
    refine jj_iconst (n := 0) (v := 0) (by decide +kernel) (by decide) ?_
    refine sy_cv (s_CU_tell (d := d - 1) hG (by omega) hs) (fun o1 h1 hC => jj_callU ok_CU_tell ml_GR_64 sm_GR_CU_tell rfl im_CU_tell se_GR_CU_tell_u (by decide +kernel) (hs.rcGR hG.2) rfl (by omega) (Nat.le_of_ble_eq_true rfl) hC) rfl (fun _ _ _ q => ⟨rfl, rfl, _, q⟩) (fun h hs => ?_)
    refine jj_aload_n (j := 0) (by decide +kernel) rfl ?_
    refine jj_sipush (n := 273) (v := 273) (by decide +kernel) (by decide) ?_
    refine sy_cv (s_CU_expect (d := d - 1) hG (by omega) hs) (fun o1 h1 hC => jj_callU ok_CU_expect ml_GR_102 sm_GR_CU_expect rfl im_CU_expect se_GR_CU_expect_u (by decide +kernel) (hs.rcGR hG.2) rfl (by omega) (Nat.le_of_ble_eq_true rfl) hC) rfl (fun _ _ _ q => ⟨rfl, rfl, _, q⟩) (fun h hs => ?_)
    refine jj_aload_n (j := 0) (by decide +kernel) rfl ?_
    refine sy_cv (expr_all hG (m - 1) _ _ _ (d - 1) (by omega) hs (by omega)) (fun o1 h1 hC => jj_callV ok_GR_expression ml_GR_149 im_GR_expression se_GR_GR_expression (by decide +kernel) (hs.rcGR hG.2) rfl (by omega) (Nat.le_of_ble_eq_true rfl) hC) rfl (fun _ _ _ q => ⟨rfl, rfl, _, q⟩) (fun h hs => ?_)
    refine jj_aload_n (j := 0) (by decide +kernel) rfl ?_
    refine jj_sipush (n := 302) (v := 302) (by decide +kernel) (by decide) ?_
    refine sy_cv (s_CU_expect (d := d - 1) hG (by omega) hs) (fun o1 h1 hC => jj_callU ok_CU_expect ml_GR_102 sm_GR_CU_expect rfl im_CU_expect se_GR_CU_expect_u (by decide +kernel) (hs.rcGR hG.2) rfl (by omega) (Nat.le_of_ble_eq_true rfl) hC) rfl (fun _ _ _ q => ⟨rfl, rfl, _, q⟩) (fun h hs => ?_)
    refine jj_aload_n (j := 0) (by decide +kernel) rfl ?_
    refine sy_cv (expr_all hG (m - 1) _ _ _ (d - 1) (by omega) hs (by omega)) (fun o1 h1 hC => jj_callV ok_GR_expression ml_GR_149 im_GR_expression se_GR_GR_expression (by decide +kernel) (hs.rcGR hG.2) rfl (by omega) (Nat.le_of_ble_eq_true rfl) hC) rfl (fun _ _ _ q => ⟨rfl, rfl, _, q⟩) (fun h hs => ?_)
    refine jj_goto (off := 14) (tgt := 62) (by decide +kernel) (by decide) ?_
    exact jj_wk (js_s (js_s (js_s js_0))) (b_GR_generate_62 (o := o) hG ho hC hdd hm hs)
theorem s_GR_generate {l : Launch} {G : jj_G} {X : sy_X} {K o N d : Nat} {m : Nat} {x1 : Int32} {h : jj_H} (hG : sy_G G X) (ho : o + m = 40) (hC : 0 < m → sy_One l G X N 5 34 (m - 1)) (hdd : 30 + 10 * m ≤ d) (hs : Sy G X K o N h) : jj_Q l G y_GR_generate d [.ref (X.2.2.1 12), .int x1] h (sy_F 0 true G X K o N) :=
  jj_Q.of (by decide +kernel) (Nat.le_of_ble_eq_true rfl) (b_GR_generate_0 hG ho hC hdd hs)
set_option maxRecDepth 100000 in
set_option maxHeartbeats 4000000 in
theorem b_GR_concurrent_0 {l : Launch} {G : jj_G} {X : sy_X} {K o N d : Nat} {m : Nat} {h : jj_H} (hG : sy_G G X) (ho : o + m = 40) (hC : 0 < m → sy_One l G X N 5 34 (m - 1)) (hdd : 33 + 10 * m ≤ d) (hs : Sy G X K o N h) : jj_P l G y_GR_concurrent d (sy_F 0 true G X K o N) 0 [some (.ref (X.2.2.1 12)), none] [] h := by
  refine jj_aload_n (j := 0) (by decide +kernel) rfl ?_
  obtain ⟨ki, va, pl, fa, fp, ne, hg⟩ := hs.gr hG.2
  refine jj_getfield 3 ck_GR fl_GR_68 (by decide) (by decide +kernel) hg rfl ?_
  refine jj_sipush (n := 292) (v := 292) (by decide +kernel) (by decide) ?_
  refine jj_icmp_ne (off := 9) (tgt := 16) (by decide +kernel) (by decide) (fun c1 => ?_) (fun c1 => ?_)
  · skip
    refine jj_aload_n (j := 0) (by decide +kernel) rfl ?_
    refine sy_ci (s_CU_takeName (d := d - 1) hG (by omega) hs) (fun o1 h1 hC => jj_callU ok_CU_takeName ml_GR_61 sm_GR_CU_takeName rfl im_CU_takeName se_GR_CU_takeName_u (by decide +kernel) (hs.rcGR hG.2) rfl (by omega) (Nat.le_of_ble_eq_true rfl) hC) (by decide) rfl (fun _ _ _ q => ⟨rfl, rfl, _, q⟩) (fun v2 h _ hs => ?_)
    refine jj_istore_n (j := 1) (by decide +kernel) (by decide) rfl ?_
    refine jj_aload_n (j := 0) (by decide +kernel) rfl ?_
    refine jj_bipush (n := 58) (v := 58) (by decide +kernel) (by decide) ?_
    refine sy_ci (s_CU_accept (d := d - 1) hG (by omega) hs) (fun o1 h1 hC => jj_callU ok_CU_accept ml_GR_80 sm_GR_CU_accept rfl im_CU_accept se_GR_CU_accept_u (by decide +kernel) (hs.rcGR hG.2) rfl (by omega) (Nat.le_of_ble_eq_true rfl) hC) (by decide) rfl (fun _ _ _ q => ⟨rfl, rfl, _, q⟩) (fun v3 h _ hs => ?_)
    refine jj_if_ne (off := 9) (tgt := 36) (by decide +kernel) (by decide) (fun c4 => ?_) (fun c4 => ?_)
    · skip
      refine jj_aload_n (j := 0) (by decide +kernel) rfl ?_
      obtain ⟨ki, va, pl, fa, fp, ne, hg⟩ := hs.gr hG.2
      refine jj_getfield 3 ck_GR fl_GR_68 (by decide) (by decide +kernel) hg rfl ?_
      refine jj_lookupAny (dflt := 68) (ps := #[(269, 60), (272, 60), (292, 44), (305, 52)]) (len := 44) (ts := [84, 92, 100, 108]) (by decide +kernel) (by decide) (by decide +kernel) (jt_c ?_ (jt_c ?_ (jt_c ?_ (jt_c ?_ jt_0))))
      · skip
        refine jj_aload_n (j := 0) (by decide +kernel) rfl ?_
        refine jj_iload_n (j := 1) (by decide +kernel) rfl ?_
        refine sy_cv (s_GR_process (d := d - 1) (m := m) hG (by omega) (by omega) hs) (fun o1 h1 hC => jj_callV ok_GR_process ml_GR_174 im_GR_process se_GR_GR_process (by decide +kernel) (hs.rcGR hG.2) rfl (by omega) (Nat.le_of_ble_eq_true rfl) hC) rfl (fun _ _ _ q => ⟨rfl, rfl, _, q⟩) (fun h hs => ?_)
        refine jj_goto (off := 27) (tgt := 116) (by decide +kernel) (by decide) ?_
        exact jj_vret (by decide +kernel) rfl ⟨rfl, hs⟩
      · skip
        refine jj_aload_n (j := 0) (by decide +kernel) rfl ?_
        refine jj_iload_n (j := 1) (by decide +kernel) rfl ?_
        refine sy_cv (s_GR_instance (d := d - 1) (m := m) hG (by omega) (by omega) hs) (fun o1 h1 hC => jj_callV ok_GR_instance ml_GR_180 im_GR_instance se_GR_GR_instance (by decide +kernel) (hs.rcGR hG.2) rfl (by omega) (Nat.le_of_ble_eq_true rfl) hC) rfl (fun _ _ _ q => ⟨rfl, rfl, _, q⟩) (fun h hs => ?_)
        refine jj_goto (off := 19) (tgt := 116) (by decide +kernel) (by decide) ?_
        exact jj_vret (by decide +kernel) rfl ⟨rfl, hs⟩
      · skip
        refine jj_aload_n (j := 0) (by decide +kernel) rfl ?_
        refine jj_iload_n (j := 1) (by decide +kernel) rfl ?_
        refine sy_cv (s_GR_generate (d := d - 1) (m := m) hG (by omega) hC (by omega) hs) (fun o1 h1 hC => jj_callV ok_GR_generate ml_GR_183 im_GR_generate se_GR_GR_generate (by decide +kernel) (hs.rcGR hG.2) rfl (by omega) (Nat.le_of_ble_eq_true rfl) hC) rfl (fun _ _ _ q => ⟨rfl, rfl, _, q⟩) (fun h hs => ?_)
        refine jj_goto (off := 11) (tgt := 116) (by decide +kernel) (by decide) ?_
        exact jj_vret (by decide +kernel) rfl ⟨rfl, hs⟩
      · skip
        refine jj_aload_n (j := 0) (by decide +kernel) rfl ?_
        refine jj_aload_n (j := 0) (by decide +kernel) rfl ?_
        refine sy_ci (s_CU_takeName (d := d - 1) hG (by omega) hs) (fun o1 h1 hC => jj_callU ok_CU_takeName ml_GR_61 sm_GR_CU_takeName rfl im_CU_takeName se_GR_CU_takeName_u (by decide +kernel) (hs.rcGR hG.2) rfl (by omega) (Nat.le_of_ble_eq_true rfl) hC) (by decide) rfl (fun _ _ _ q => ⟨rfl, rfl, _, q⟩) (fun v5 h _ hs => ?_)
        refine sy_cv (s_GR_concurrentAssignment (d := d - 1) (m := m) hG (by omega) (by omega) hs) (fun o1 h1 hC => jj_callV ok_GR_concurrentAssignment ml_GR_177 im_GR_concurrentAssignment se_GR_GR_concurrentAssignment (by decide +kernel) (hs.rcGR hG.2) rfl (by omega) (Nat.le_of_ble_eq_true rfl) hC) rfl (fun _ _ _ q => ⟨rfl, rfl, _, q⟩) (fun h hs => ?_)
        exact jj_vret (by decide +kernel) rfl ⟨rfl, hs⟩
    · skip
      refine jj_aload_n (j := 0) (by decide +kernel) rfl ?_
      refine jj_iload_n (j := 1) (by decide +kernel) rfl ?_
      refine sy_cv (s_GR_concurrentAssignment (d := d - 1) (m := m) hG (by omega) (by omega) hs) (fun o1 h1 hC => jj_callV ok_GR_concurrentAssignment ml_GR_177 im_GR_concurrentAssignment se_GR_GR_concurrentAssignment (by decide +kernel) (hs.rcGR hG.2) rfl (by omega) (Nat.le_of_ble_eq_true rfl) hC) rfl (fun _ _ _ q => ⟨rfl, rfl, _, q⟩) (fun h hs => ?_)
      exact jj_vret (by decide +kernel) rfl ⟨rfl, hs⟩
  · skip
    refine jj_aload_n (j := 0) (by decide +kernel) rfl ?_
    refine jj_iconst (n := (-1)) (v := (-1)) (by decide +kernel) (by decide) ?_
    refine sy_cv (s_GR_process (d := d - 1) (m := m) hG (by omega) (by omega) hs) (fun o1 h1 hC => jj_callV ok_GR_process ml_GR_174 im_GR_process se_GR_GR_process (by decide +kernel) (hs.rcGR hG.2) rfl (by omega) (Nat.le_of_ble_eq_true rfl) hC) rfl (fun _ _ _ q => ⟨rfl, rfl, _, q⟩) (fun h hs => ?_)
    exact jj_vret (by decide +kernel) rfl ⟨rfl, hs⟩
theorem s_GR_concurrent {l : Launch} {G : jj_G} {X : sy_X} {K o N d : Nat} {m : Nat} {h : jj_H} (hG : sy_G G X) (ho : o + m = 40) (hC : 0 < m → sy_One l G X N 5 34 (m - 1)) (hdd : 33 + 10 * m ≤ d) (hs : Sy G X K o N h) : jj_Q l G y_GR_concurrent d [.ref (X.2.2.1 12)] h (sy_F 0 true G X K o N) :=
  jj_Q.of (by decide +kernel) (Nat.le_of_ble_eq_true rfl) (b_GR_concurrent_0 hG ho hC hdd hs)
set_option maxRecDepth 100000 in
set_option maxHeartbeats 4000000 in
theorem b_GR_one_5_0 {l : Launch} {G : jj_G} {X : sy_X} {K o N d : Nat} {m : Nat} {h : jj_H} (hG : sy_G G X) (ho : o + m = 40) (hC : 0 < m → sy_One l G X N 5 34 (m - 1)) (hdd : 34 + 10 * m ≤ d) (hs : Sy G X K o N h) : jj_P l G y_GR_one d (sy_F 1 true G X K o N) 0 [some (.ref (X.2.2.1 12)), some (.int 5)] [] h := by
  refine jj_iload_n (j := 1) (by decide +kernel) rfl ?_
  refine jj_tableIn (dflt := 130) (lo := 0) (hi := 12) (offs := #[73, 79, 84, 89, 89, 94, 100, 106, 112, 118, 124, 130, 67]) (len := 67) (off := 94) (tgt := 95) (by decide +kernel) (by decide) (by decide) (by decide) (by decide) ?_
  refine jj_aload_n (j := 0) (by decide +kernel) rfl ?_
  refine sy_cv (s_GR_concurrent (d := d - 1) (m := m) hG (by omega) hC (by omega) hs) (fun o1 h1 hC => jj_callV ok_GR_concurrent ml_GR_43 im_GR_concurrent se_GR_GR_concurrent (by decide +kernel) (hs.rcGR hG.2) rfl (by omega) (Nat.le_of_ble_eq_true rfl) hC) rfl (fun _ _ _ q => ⟨rfl, rfl, _, q⟩) (fun h hs => ?_)
  refine jj_iconst (n := 1) (v := 1) (by decide +kernel) (by decide) ?_
  exact jj_iret .int (by decide +kernel) rfl rfl ⟨Or.inl rfl, hs⟩
theorem s_GR_one_5 {l : Launch} {G : jj_G} {X : sy_X} {K o N d : Nat} {m : Nat} {h : jj_H} (hG : sy_G G X) (ho : o + m = 40) (hC : 0 < m → sy_One l G X N 5 34 (m - 1)) (hdd : 34 + 10 * m ≤ d) (hs : Sy G X K o N h) : jj_Q l G y_GR_one d [.ref (X.2.2.1 12), .int 5] h (sy_F 1 true G X K o N) :=
  jj_Q.of (by decide +kernel) (Nat.le_of_ble_eq_true rfl) (b_GR_one_5_0 hG ho hC hdd hs)
theorem one5_all {l : Launch} {G : jj_G} {X : sy_X} {N : Nat} (hG : sy_G G X) : ∀ m, sy_One l G X N 5 34 m := by
  intro m
  induction m with
  | zero => exact fun K o h d ho hs hdd => s_GR_one_5 hG ho (fun q => absurd q (by decide)) hdd hs
  | succ m ih => exact fun K o h d ho hs hdd => s_GR_one_5 hG ho (fun _ => ih) hdd hs
set_option maxRecDepth 100000 in
set_option maxHeartbeats 4000000 in
theorem b_GR_body_0 {l : Launch} {G : jj_G} {X : sy_X} {K o N d : Nat} {m : Nat} {h : jj_H} (hG : sy_G G X) (ho : o + m = 40) (hdd : 37 + 10 * m ≤ d) (hs : Sy G X K o N h) : jj_P l G y_GR_body d (sy_F 0 true G X K o N) 0 [some (.ref (X.2.2.1 12)), none] [] h := by
  refine jj_aload_n (j := 0) (by decide +kernel) rfl ?_
  refine jj_sipush (n := 261) (v := 261) (by decide +kernel) (by decide) ?_
  refine sy_cv (s_CU_expect (d := d - 1) hG (by omega) hs) (fun o1 h1 hC => jj_callU ok_CU_expect ml_GR_102 sm_GR_CU_expect rfl im_CU_expect se_GR_CU_expect_u (by decide +kernel) (hs.rcGR hG.2) rfl (by omega) (Nat.le_of_ble_eq_true rfl) hC) rfl (fun _ _ _ q => ⟨rfl, rfl, _, q⟩) (fun h hs => ?_)
  refine jj_aload_n (j := 0) (by decide +kernel) rfl ?_
  refine sy_ci (s_CU_takeName (d := d - 1) hG (by omega) hs) (fun o1 h1 hC => jj_callU ok_CU_takeName ml_GR_61 sm_GR_CU_takeName rfl im_CU_takeName se_GR_CU_takeName_u (by decide +kernel) (hs.rcGR hG.2) rfl (by omega) (Nat.le_of_ble_eq_true rfl) hC) (by decide) rfl (fun _ _ _ q => ⟨rfl, rfl, _, q⟩) (fun v1 h _ hs => ?_)
  refine jj_istore_n (j := 1) (by decide +kernel) (by decide) rfl ?_
  refine jj_aload_n (j := 0) (by decide +kernel) rfl ?_
  refine jj_sipush (n := 285) (v := 285) (by decide +kernel) (by decide) ?_
  refine sy_cv (s_CU_expect (d := d - 1) hG (by omega) hs) (fun o1 h1 hC => jj_callU ok_CU_expect ml_GR_102 sm_GR_CU_expect rfl im_CU_expect se_GR_CU_expect_u (by decide +kernel) (hs.rcGR hG.2) rfl (by omega) (Nat.le_of_ble_eq_true rfl) hC) rfl (fun _ _ _ q => ⟨rfl, rfl, _, q⟩) (fun h hs => ?_)
  refine jj_aload_n (j := 0) (by decide +kernel) rfl ?_
  refine jj_iconst (n := 1) (v := 1) (by decide +kernel) (by decide) ?_
  refine jj_aload_n (j := 0) (by decide +kernel) rfl ?_
  refine sy_ci (s_CU_takeName (d := d - 1) hG (by omega) hs) (fun o1 h1 hC => jj_callU ok_CU_takeName ml_GR_61 sm_GR_CU_takeName rfl im_CU_takeName se_GR_CU_takeName_u (by decide +kernel) (hs.rcGR hG.2) rfl (by omega) (Nat.le_of_ble_eq_true rfl) hC) (by decide) rfl (fun _ _ _ q => ⟨rfl, rfl, _, q⟩) (fun v2 h _ hs => ?_)
  refine jj_iconst (n := 0) (v := 0) (by decide +kernel) (by decide) ?_
  refine sy_cv (s_CU_tell (d := d - 1) hG (by omega) hs) (fun o1 h1 hC => jj_callU ok_CU_tell ml_GR_64 sm_GR_CU_tell rfl im_CU_tell se_GR_CU_tell_u (by decide +kernel) (hs.rcGR hG.2) rfl (by omega) (Nat.le_of_ble_eq_true rfl) hC) rfl (fun _ _ _ q => ⟨rfl, rfl, _, q⟩) (fun h hs => ?_)
  refine jj_aload_n (j := 0) (by decide +kernel) rfl ?_
  refine jj_sipush (n := 276) (v := 276) (by decide +kernel) (by decide) ?_
  refine sy_cv (s_CU_expect (d := d - 1) hG (by omega) hs) (fun o1 h1 hC => jj_callU ok_CU_expect ml_GR_102 sm_GR_CU_expect rfl im_CU_expect se_GR_CU_expect_u (by decide +kernel) (hs.rcGR hG.2) rfl (by omega) (Nat.le_of_ble_eq_true rfl) hC) rfl (fun _ _ _ q => ⟨rfl, rfl, _, q⟩) (fun h hs => ?_)
  refine jj_aload_n (j := 0) (by decide +kernel) rfl ?_
  refine jj_iconst (n := 3) (v := 3) (by decide +kernel) (by decide) ?_
  refine sy_cv (s_GR_listOfAny (d := d - 1) (m := m) hG (by omega) (one3_all hG m) (by decide) (by omega) hs) (fun o1 h1 hC => jj_callV ok_GR_listOfAny ml_GR_159 im_GR_listOfAny se_GR_GR_listOfAny (by decide +kernel) (hs.rcGR hG.2) rfl (by omega) (Nat.le_of_ble_eq_true rfl) hC) rfl (fun _ _ _ q => ⟨rfl, rfl, _, q⟩) (fun h hs => ?_)
  refine jj_aload_n (j := 0) (by decide +kernel) rfl ?_
  refine jj_sipush (n := 260) (v := 260) (by decide +kernel) (by decide) ?_
  refine sy_cv (s_CU_expect (d := d - 1) hG (by omega) hs) (fun o1 h1 hC => jj_callU ok_CU_expect ml_GR_102 sm_GR_CU_expect rfl im_CU_expect se_GR_CU_expect_u (by decide +kernel) (hs.rcGR hG.2) rfl (by omega) (Nat.le_of_ble_eq_true rfl) hC) rfl (fun _ _ _ q => ⟨rfl, rfl, _, q⟩) (fun h hs => ?_)
  refine jj_aload_n (j := 0) (by decide +kernel) rfl ?_
  refine jj_iconst (n := 5) (v := 5) (by decide +kernel) (by decide) ?_
  refine sy_cv (s_GR_listOfAny (d := d - 1) (m := m) hG (by omega) (one5_all hG m) (by decide) (by omega) hs) (fun o1 h1 hC => jj_callV ok_GR_listOfAny ml_GR_159 im_GR_listOfAny se_GR_GR_listOfAny (by decide +kernel) (hs.rcGR hG.2) rfl (by omega) (Nat.le_of_ble_eq_true rfl) hC) rfl (fun _ _ _ q => ⟨rfl, rfl, _, q⟩) (fun h hs => ?_)
  refine jj_aload_n (j := 0) (by decide +kernel) rfl ?_
  refine jj_sipush (n := 267) (v := 267) (by decide +kernel) (by decide) ?_
  refine sy_cv (s_CU_expect (d := d - 1) hG (by omega) hs) (fun o1 h1 hC => jj_callU ok_CU_expect ml_GR_102 sm_GR_CU_expect rfl im_CU_expect se_GR_CU_expect_u (by decide +kernel) (hs.rcGR hG.2) rfl (by omega) (Nat.le_of_ble_eq_true rfl) hC) rfl (fun _ _ _ q => ⟨rfl, rfl, _, q⟩) (fun h hs => ?_)
  refine jj_aload_n (j := 0) (by decide +kernel) rfl ?_
  refine jj_sipush (n := 261) (v := 261) (by decide +kernel) (by decide) ?_
  refine sy_ci (s_CU_accept (d := d - 1) hG (by omega) hs) (fun o1 h1 hC => jj_callU ok_CU_accept ml_GR_80 sm_GR_CU_accept rfl im_CU_accept se_GR_CU_accept_u (by decide +kernel) (hs.rcGR hG.2) rfl (by omega) (Nat.le_of_ble_eq_true rfl) hC) (by decide) rfl (fun _ _ _ q => ⟨rfl, rfl, _, q⟩) (fun v3 h _ hs => ?_)
  refine jj_pop (by decide +kernel) rfl ?_
  refine jj_aload_n (j := 0) (by decide +kernel) rfl ?_
  refine jj_iload_n (j := 1) (by decide +kernel) rfl ?_
  refine sy_cv (s_GR_nameBehindEnd (d := d - 1) hG (by omega) hs) (fun o1 h1 hC => jj_callV ok_GR_nameBehindEnd ml_GR_109 im_GR_nameBehindEnd se_GR_GR_nameBehindEnd (by decide +kernel) (hs.rcGR hG.2) rfl (by omega) (Nat.le_of_ble_eq_true rfl) hC) rfl (fun _ _ _ q => ⟨rfl, rfl, _, q⟩) (fun h hs => ?_)
  refine jj_aload_n (j := 0) (by decide +kernel) rfl ?_
  refine jj_bipush (n := 59) (v := 59) (by decide +kernel) (by decide) ?_
  refine sy_cv (s_CU_expect (d := d - 1) hG (by omega) hs) (fun o1 h1 hC => jj_callU ok_CU_expect ml_GR_102 sm_GR_CU_expect rfl im_CU_expect se_GR_CU_expect_u (by decide +kernel) (hs.rcGR hG.2) rfl (by omega) (Nat.le_of_ble_eq_true rfl) hC) rfl (fun _ _ _ q => ⟨rfl, rfl, _, q⟩) (fun h hs => ?_)
  refine jj_aload_n (j := 0) (by decide +kernel) rfl ?_
  refine jj_bipush (n := 73) (v := 73) (by decide +kernel) (by decide) ?_
  refine jj_iload_n (j := 1) (by decide +kernel) rfl ?_
  refine jj_iconst (n := 3) (v := 3) (by decide +kernel) (by decide) ?_
  refine sy_cv (s_CU_tell (d := d - 1) hG (by omega) hs) (fun o1 h1 hC => jj_callU ok_CU_tell ml_GR_64 sm_GR_CU_tell rfl im_CU_tell se_GR_CU_tell_u (by decide +kernel) (hs.rcGR hG.2) rfl (by omega) (Nat.le_of_ble_eq_true rfl) hC) rfl (fun _ _ _ q => ⟨rfl, rfl, _, q⟩) (fun h hs => ?_)
  exact jj_vret (by decide +kernel) rfl ⟨rfl, hs⟩
theorem s_GR_body {l : Launch} {G : jj_G} {X : sy_X} {K o N d : Nat} {m : Nat} {h : jj_H} (hG : sy_G G X) (ho : o + m = 40) (hdd : 37 + 10 * m ≤ d) (hs : Sy G X K o N h) : jj_Q l G y_GR_body d [.ref (X.2.2.1 12)] h (sy_F 0 true G X K o N) :=
  jj_Q.of (by decide +kernel) (Nat.le_of_ble_eq_true rfl) (b_GR_body_0 hG ho hdd hs)
set_option maxRecDepth 100000 in
set_option maxHeartbeats 4000000 in
theorem b_GR_unit_0 {l : Launch} {G : jj_G} {X : sy_X} {K o N d : Nat} {m : Nat} {h : jj_H} (hG : sy_G G X) (ho : o + m = 40) (hdd : 26 + 10 * m ≤ d) (hs : Sy G X K o N h) : jj_P l G y_GR_unit d (sy_F 0 true G X K o N) 0 [some (.ref (X.2.2.1 12)), none] [] h := by
  refine jj_aload_n (j := 0) (by decide +kernel) rfl ?_
  refine jj_sipush (n := 305) (v := 305) (by decide +kernel) (by decide) ?_
  refine sy_cv (s_CU_expect (d := d - 1) hG (by omega) hs) (fun o1 h1 hC => jj_callU ok_CU_expect ml_GR_102 sm_GR_CU_expect rfl im_CU_expect se_GR_CU_expect_u (by decide +kernel) (hs.rcGR hG.2) rfl (by omega) (Nat.le_of_ble_eq_true rfl) hC) rfl (fun _ _ _ q => ⟨rfl, rfl, _, q⟩) (fun h hs => ?_)
  refine jj_aload_n (j := 0) (by decide +kernel) rfl ?_
  refine sy_ci (s_CU_takeName (d := d - 1) hG (by omega) hs) (fun o1 h1 hC => jj_callU ok_CU_takeName ml_GR_61 sm_GR_CU_takeName rfl im_CU_takeName se_GR_CU_takeName_u (by decide +kernel) (hs.rcGR hG.2) rfl (by omega) (Nat.le_of_ble_eq_true rfl) hC) (by decide) rfl (fun _ _ _ q => ⟨rfl, rfl, _, q⟩) (fun v1 h _ hs => ?_)
  refine jj_istore_n (j := 1) (by decide +kernel) (by decide) rfl ?_
  refine jj_aload_n (j := 0) (by decide +kernel) rfl ?_
  refine jj_sipush (n := 276) (v := 276) (by decide +kernel) (by decide) ?_
  refine sy_cv (s_CU_expect (d := d - 1) hG (by omega) hs) (fun o1 h1 hC => jj_callU ok_CU_expect ml_GR_102 sm_GR_CU_expect rfl im_CU_expect se_GR_CU_expect_u (by decide +kernel) (hs.rcGR hG.2) rfl (by omega) (Nat.le_of_ble_eq_true rfl) hC) rfl (fun _ _ _ q => ⟨rfl, rfl, _, q⟩) (fun h hs => ?_)
  refine jj_aload_n (j := 0) (by decide +kernel) rfl ?_
  refine jj_sipush (n := 271) (v := 271) (by decide +kernel) (by decide) ?_
  refine jj_iconst (n := 1) (v := 1) (by decide +kernel) (by decide) ?_
  refine sy_cv (s_GR_interfaceList (d := d - 1) (m := m) hG (by omega) (one1_all hG m) (by decide) (by omega) hs) (fun o1 h1 hC => jj_callV ok_GR_interfaceList ml_GR_105 im_GR_interfaceList se_GR_GR_interfaceList (by decide +kernel) (hs.rcGR hG.2) rfl (by omega) (Nat.le_of_ble_eq_true rfl) hC) rfl (fun _ _ _ q => ⟨rfl, rfl, _, q⟩) (fun h hs => ?_)
  refine jj_aload_n (j := 0) (by decide +kernel) rfl ?_
  refine jj_sipush (n := 291) (v := 291) (by decide +kernel) (by decide) ?_
  refine jj_iconst (n := 2) (v := 2) (by decide +kernel) (by decide) ?_
  refine sy_cv (s_GR_interfaceList (d := d - 1) (m := m) hG (by omega) (one2_all hG m) (by decide) (by omega) hs) (fun o1 h1 hC => jj_callV ok_GR_interfaceList ml_GR_105 im_GR_interfaceList se_GR_GR_interfaceList (by decide +kernel) (hs.rcGR hG.2) rfl (by omega) (Nat.le_of_ble_eq_true rfl) hC) rfl (fun _ _ _ q => ⟨rfl, rfl, _, q⟩) (fun h hs => ?_)
  refine jj_aload_n (j := 0) (by decide +kernel) rfl ?_
  refine jj_sipush (n := 267) (v := 267) (by decide +kernel) (by decide) ?_
  refine sy_cv (s_CU_expect (d := d - 1) hG (by omega) hs) (fun o1 h1 hC => jj_callU ok_CU_expect ml_GR_102 sm_GR_CU_expect rfl im_CU_expect se_GR_CU_expect_u (by decide +kernel) (hs.rcGR hG.2) rfl (by omega) (Nat.le_of_ble_eq_true rfl) hC) rfl (fun _ _ _ q => ⟨rfl, rfl, _, q⟩) (fun h hs => ?_)
  refine jj_aload_n (j := 0) (by decide +kernel) rfl ?_
  refine jj_sipush (n := 305) (v := 305) (by decide +kernel) (by decide) ?_
  refine sy_ci (s_CU_accept (d := d - 1) hG (by omega) hs) (fun o1 h1 hC => jj_callU ok_CU_accept ml_GR_80 sm_GR_CU_accept rfl im_CU_accept se_GR_CU_accept_u (by decide +kernel) (hs.rcGR hG.2) rfl (by omega) (Nat.le_of_ble_eq_true rfl) hC) (by decide) rfl (fun _ _ _ q => ⟨rfl, rfl, _, q⟩) (fun v2 h _ hs => ?_)
  refine jj_pop (by decide +kernel) rfl ?_
  refine jj_aload_n (j := 0) (by decide +kernel) rfl ?_
  refine jj_iload_n (j := 1) (by decide +kernel) rfl ?_
  refine sy_cv (s_GR_nameBehindEnd (d := d - 1) hG (by omega) hs) (fun o1 h1 hC => jj_callV ok_GR_nameBehindEnd ml_GR_109 im_GR_nameBehindEnd se_GR_GR_nameBehindEnd (by decide +kernel) (hs.rcGR hG.2) rfl (by omega) (Nat.le_of_ble_eq_true rfl) hC) rfl (fun _ _ _ q => ⟨rfl, rfl, _, q⟩) (fun h hs => ?_)
  refine jj_aload_n (j := 0) (by decide +kernel) rfl ?_
  refine jj_bipush (n := 59) (v := 59) (by decide +kernel) (by decide) ?_
  refine sy_cv (s_CU_expect (d := d - 1) hG (by omega) hs) (fun o1 h1 hC => jj_callU ok_CU_expect ml_GR_102 sm_GR_CU_expect rfl im_CU_expect se_GR_CU_expect_u (by decide +kernel) (hs.rcGR hG.2) rfl (by omega) (Nat.le_of_ble_eq_true rfl) hC) rfl (fun _ _ _ q => ⟨rfl, rfl, _, q⟩) (fun h hs => ?_)
  refine jj_aload_n (j := 0) (by decide +kernel) rfl ?_
  refine jj_bipush (n := 70) (v := 70) (by decide +kernel) (by decide) ?_
  refine jj_iload_n (j := 1) (by decide +kernel) rfl ?_
  refine jj_iconst (n := 2) (v := 2) (by decide +kernel) (by decide) ?_
  refine sy_cv (s_CU_tell (d := d - 1) hG (by omega) hs) (fun o1 h1 hC => jj_callU ok_CU_tell ml_GR_64 sm_GR_CU_tell rfl im_CU_tell se_GR_CU_tell_u (by decide +kernel) (hs.rcGR hG.2) rfl (by omega) (Nat.le_of_ble_eq_true rfl) hC) rfl (fun _ _ _ q => ⟨rfl, rfl, _, q⟩) (fun h hs => ?_)
  exact jj_vret (by decide +kernel) rfl ⟨rfl, hs⟩
theorem s_GR_unit {l : Launch} {G : jj_G} {X : sy_X} {K o N d : Nat} {m : Nat} {h : jj_H} (hG : sy_G G X) (ho : o + m = 40) (hdd : 26 + 10 * m ≤ d) (hs : Sy G X K o N h) : jj_Q l G y_GR_unit d [.ref (X.2.2.1 12)] h (sy_F 0 true G X K o N) :=
  jj_Q.of (by decide +kernel) (Nat.le_of_ble_eq_true rfl) (b_GR_unit_0 hG ho hdd hs)
set_option maxRecDepth 100000 in
set_option maxHeartbeats 4000000 in
theorem b_GR_unitOrBody_0 {l : Launch} {G : jj_G} {X : sy_X} {K o N d : Nat} {m : Nat} {h : jj_H} (hG : sy_G G X) (ho : o + m = 40) (hdd : 38 + 10 * m ≤ d) (hs : Sy G X K o N h) : jj_P l G y_GR_unitOrBody d (sy_F 0 true G X K o N) 0 [some (.ref (X.2.2.1 12))] [] h := by
  refine jj_aload_n (j := 0) (by decide +kernel) rfl ?_
  obtain ⟨ki, va, pl, fa, fp, ne, hg⟩ := hs.gr hG.2
  refine jj_getfield 3 ck_GR fl_GR_68 (by decide) (by decide +kernel) hg rfl ?_
  refine jj_sipush (n := 261) (v := 261) (by decide +kernel) (by decide) ?_
  refine jj_icmp_ne (off := 10) (tgt := 17) (by decide +kernel) (by decide) (fun c1 => ?_) (fun c1 => ?_)
  · skip
    refine jj_aload_n (j := 0) (by decide +kernel) rfl ?_
    refine sy_cv (s_GR_unit (d := d - 1) (m := m) hG (by omega) (by omega) hs) (fun o1 h1 hC => jj_callV ok_GR_unit ml_GR_99 im_GR_unit se_GR_GR_unit (by decide +kernel) (hs.rcGR hG.2) rfl (by omega) (Nat.le_of_ble_eq_true rfl) hC) rfl (fun _ _ _ q => ⟨rfl, rfl, _, q⟩) (fun h hs => ?_)
    exact jj_vret (by decide +kernel) rfl ⟨rfl, hs⟩
  · skip
    refine jj_aload_n (j := 0) (by decide +kernel) rfl ?_
    refine sy_cv (s_GR_body (d := d - 1) (m := m) hG (by omega) (by omega) hs) (fun o1 h1 hC => jj_callV ok_GR_body ml_GR_96 im_GR_body se_GR_GR_body (by decide +kernel) (hs.rcGR hG.2) rfl (by omega) (Nat.le_of_ble_eq_true rfl) hC) rfl (fun _ _ _ q => ⟨rfl, rfl, _, q⟩) (fun h hs => ?_)
    refine jj_goto (off := 7) (tgt := 21) (by decide +kernel) (by decide) ?_
    exact jj_vret (by decide +kernel) rfl ⟨rfl, hs⟩
theorem s_GR_unitOrBody {l : Launch} {G : jj_G} {X : sy_X} {K o N d : Nat} {m : Nat} {h : jj_H} (hG : sy_G G X) (ho : o + m = 40) (hdd : 38 + 10 * m ≤ d) (hs : Sy G X K o N h) : jj_Q l G y_GR_unitOrBody d [.ref (X.2.2.1 12)] h (sy_F 0 true G X K o N) :=
  jj_Q.of (by decide +kernel) (Nat.le_of_ble_eq_true rfl) (b_GR_unitOrBody_0 hG ho hdd hs)
set_option maxRecDepth 100000 in
set_option maxHeartbeats 4000000 in
theorem b_GR_one_0_0 {l : Launch} {G : jj_G} {X : sy_X} {K o N d : Nat} {m : Nat} {h : jj_H} (hG : sy_G G X) (ho : o + m = 40) (hdd : 39 + 10 * m ≤ d) (hs : Sy G X K o N h) : jj_P l G y_GR_one d (sy_F 1 true G X K o N) 0 [some (.ref (X.2.2.1 12)), some (.int 0)] [] h := by
  refine jj_iload_n (j := 1) (by decide +kernel) rfl ?_
  refine jj_tableIn (dflt := 130) (lo := 0) (hi := 12) (offs := #[73, 79, 84, 89, 89, 94, 100, 106, 112, 118, 124, 130, 67]) (len := 67) (off := 73) (tgt := 74) (by decide +kernel) (by decide) (by decide) (by decide) (by decide) ?_
  refine jj_aload_n (j := 0) (by decide +kernel) rfl ?_
  refine sy_cv (s_GR_unitOrBody (d := d - 1) (m := m) hG (by omega) (by omega) hs) (fun o1 h1 hC => jj_callV ok_GR_unitOrBody ml_GR_30 im_GR_unitOrBody se_GR_GR_unitOrBody (by decide +kernel) (hs.rcGR hG.2) rfl (by omega) (Nat.le_of_ble_eq_true rfl) hC) rfl (fun _ _ _ q => ⟨rfl, rfl, _, q⟩) (fun h hs => ?_)
  refine jj_iconst (n := 1) (v := 1) (by decide +kernel) (by decide) ?_
  exact jj_iret .int (by decide +kernel) rfl rfl ⟨Or.inl rfl, hs⟩
theorem s_GR_one_0 {l : Launch} {G : jj_G} {X : sy_X} {K o N d : Nat} {m : Nat} {h : jj_H} (hG : sy_G G X) (ho : o + m = 40) (hdd : 39 + 10 * m ≤ d) (hs : Sy G X K o N h) : jj_Q l G y_GR_one d [.ref (X.2.2.1 12), .int 0] h (sy_F 1 true G X K o N) :=
  jj_Q.of (by decide +kernel) (Nat.le_of_ble_eq_true rfl) (b_GR_one_0_0 hG ho hdd hs)
theorem one0_all {l : Launch} {G : jj_G} {X : sy_X} {N : Nat} (hG : sy_G G X) (m : Nat) : sy_One l G X N 0 39 m := fun K o h d ho hs hdd => s_GR_one_0 hG ho hdd hs
set_option maxRecDepth 100000 in
set_option maxHeartbeats 4000000 in
theorem b_GR_wholeFile_49 {l : Launch} {G : jj_G} {X : sy_X} {K o N d : Nat} {h : jj_H} {x1 x2 : Int32} (hG : sy_G G X) (hdd : 450 ≤ d) (hs : Sy G X K 0 N h) : jj_P l G y_GR_wholeFile d (sy_F 0 true G X K 0 N) 49 [some (.ref (X.2.2.1 12)), some (.int x1), some (.int x2)] [] h := by
  refine jj_aload_n (j := 0) (by decide +kernel) rfl ?_
  refine jj_bipush (n := 74) (v := 74) (by decide +kernel) (by decide) ?_
  refine jj_iconst (n := 0) (v := 0) (by decide +kernel) (by decide) ?_
  refine jj_iload_n (j := 1) (by decide +kernel) rfl ?_
  refine sy_cv (s_CU_tell (d := d - 1) hG (by omega) hs) (fun o1 h1 hC => jj_callU ok_CU_tell ml_GR_64 sm_GR_CU_tell rfl im_CU_tell se_GR_CU_tell_u (by decide +kernel) (hs.rcGR hG.2) rfl (by omega) (Nat.le_of_ble_eq_true rfl) hC) rfl (fun _ _ _ q => ⟨rfl, rfl, _, q⟩) (fun h hs => ?_)
  refine jj_aload_n (j := 0) (by decide +kernel) rfl ?_
  obtain ⟨ki, va, pl, fa, fp, ne, hg⟩ := hs.gr hG.2
  refine jj_getfield 3 ck_GR fl_GR_68 (by decide) (by decide +kernel) hg rfl ?_
  refine jj_sipush (n := 144) (v := 144) (by decide +kernel) (by decide) ?_
  refine jj_icmp_eq (off := 8) (tgt := 72) (by decide +kernel) (by decide) (fun c1 => ?_) (fun c1 => ?_)
  · skip
    exact jj_vret (by decide +kernel) rfl ⟨rfl, hs⟩
  · skip
    refine jj_aload_n (j := 0) (by decide +kernel) rfl ?_
    refine jj_iconst (n := 3) (v := 3) (by decide +kernel) (by decide) ?_
    exact sy_cx (s_CU_raise (d := d - 1) hG.2 hs (by omega)) (fun o1 h1 hC => jj_callU ok_CU_raise ml_GR_93 sm_GR_CU_raise rfl im_CU_raise se_GR_CU_raise_u (by decide +kernel) (hs.rcGR hG.2) rfl (by omega) (Nat.le_of_ble_eq_true rfl) hC) rfl (fun _ _ q => ⟨rfl, rfl, _, q⟩)
set_option maxRecDepth 100000 in
set_option maxHeartbeats 4000000 in
theorem b_GR_wholeFile_20 {l : Launch} {G : jj_G} {X : sy_X} {K o N d : Nat} (hG : sy_G G X) (hdd : 450 ≤ d) : ∀ (n : Nat) (x1 : Int32) (x2 : Int32) (h : jj_H), (2147483647 - x2.toInt).toNat < n → Sy G X K 0 N h → jj_P l G y_GR_wholeFile d (sy_F 0 true G X K 0 N) 20 [some (.ref (X.2.2.1 12)), some (.int x1), some (.int x2)] [] h := by
  intro n
  induction n with
  | zero => intro x1 x2 h hn; exact absurd hn (Nat.not_lt_zero _)
  | succ n ih =>
    intro x1 x2 h hn hs
    refine jj_iload_n (j := 2) (by decide +kernel) rfl ?_
    refine jj_sipush (n := 16385) (v := 16385) (by decide +kernel) (by decide) ?_
    refine jj_icmp_ge (off := 25) (tgt := 49) (by decide +kernel) (by decide) (fun c1 => ?_) (fun c1 => ?_)
    · skip
      exact jj_wk (js_s (js_s (js_s js_0))) (b_GR_wholeFile_49 (o := o) hG hdd hs)
    · skip
      have hdec := up_lt (Int32.not_le.mp c1) hn
      refine jj_aload_n (j := 0) (by decide +kernel) rfl ?_
      refine jj_iconst (n := 0) (v := 0) (by decide +kernel) (by decide) ?_
      refine sy_ci (s_GR_canBegin (d := d - 1) hG (by omega) hs) (fun o1 h1 hC => jj_callV ok_GR_canBegin ml_GR_72 im_GR_canBegin se_GR_GR_canBegin (by decide +kernel) (hs.rcGR hG.2) rfl (by omega) (Nat.le_of_ble_eq_true rfl) hC) (by decide) rfl (fun q => by cases q) (fun v2 h _ hs => ?_)
      refine jj_if_eq (off := 17) (tgt := 49) (by decide +kernel) (by decide) (fun c3 => ?_) (fun c3 => ?_)
      · skip
        exact jj_wk (js_s (js_s (js_s js_0))) (b_GR_wholeFile_49 (o := o) hG hdd hs)
      · skip
        refine jj_iload_n (j := 1) (by decide +kernel) rfl ?_
        refine jj_aload_n (j := 0) (by decide +kernel) rfl ?_
        refine jj_iconst (n := 0) (v := 0) (by decide +kernel) (by decide) ?_
        refine sy_ci ((one0_all hG 40) _ _ _ (d - 1) (by omega) hs (by omega)) (fun o1 h1 hC => jj_callV ok_GR_one ml_GR_76 im_GR_one se_GR_GR_one (by decide +kernel) (hs.rcGR hG.2) rfl (by omega) (Nat.le_of_ble_eq_true rfl) hC) (by decide) rfl (fun _ _ _ q => ⟨rfl, rfl, _, q⟩) (fun v4 h _ hs => ?_)
        refine jj_iadd (by decide +kernel) ?_
        refine jj_istore_n (j := 1) (by decide +kernel) (by decide) rfl ?_
        refine jj_iinc (i := 2) (n := 1) (by decide +kernel) rfl rfl (by decide) rfl ?_
        refine jj_goto (off := (-26)) (tgt := 20) (by decide +kernel) (by decide) ?_
        exact jj_wk (js_s (js_s (js_s js_0))) (ih _ _ _ hdec hs)
set_option maxRecDepth 100000 in
set_option maxHeartbeats 4000000 in
theorem b_GR_wholeFile_0 {l : Launch} {G : jj_G} {X : sy_X} {K o N d : Nat} {h : jj_H} (hG : sy_G G X) (hdd : 450 ≤ d) (hs : Sy G X K o N h) : jj_P l G y_GR_wholeFile d (sy_F 0 true G X K 0 N) 0 [some (.ref (X.2.2.1 12)), none, none] [] h := by
  refine jj_aload_n (j := 0) (by decide +kernel) rfl ?_
  obtain ⟨ki, va, pl, fa, fp, ne, hg⟩ := hs.gr hG.2
  refine jj_getfield 2 ck_GR fl_GR_23 (by decide) (by decide +kernel) hg rfl ?_
  refine jj_iconst (n := 0) (v := 0) (by decide +kernel) (by decide) ?_
  refine sy_cv (s_row_cut (d := d - 1) (t := 6) hs (by decide) (sy_o hG.2) (by decide)) (fun o1 h1 hC => jj_callV ok_IR_cutTo ml_GR_87 im_IR_cutTo se_IR_IR_cutTo (by decide +kernel) (hs.rcR (t := 6) (by decide) (sy_o hG.2)) rfl (by omega) (Nat.le_of_ble_eq_true rfl) hC) rfl (fun q => by cases q) (fun h hs => ?_)
  refine jj_aload_n (j := 0) (by decide +kernel) rfl ?_
  refine sy_cv (s_CU_begin (d := d - 1) hG (by omega) hs) (fun o1 h1 hC => jj_callU ok_CU_begin ml_GR_90 sm_GR_CU_begin rfl im_CU_begin se_GR_CU_begin_u (by decide +kernel) (hs.rcGR hG.2) rfl (by omega) (Nat.le_of_ble_eq_true rfl) hC) rfl (fun _ _ _ q => ⟨rfl, rfl, _, q⟩) (fun h hs => ?_)
  refine jj_aload_n (j := 0) (by decide +kernel) rfl ?_
  refine jj_iconst (n := 0) (v := 0) (by decide +kernel) (by decide) ?_
  refine sy_ci ((one0_all hG 40) _ _ _ (d - 1) (by omega) hs (by omega)) (fun o1 h1 hC => jj_callV ok_GR_one ml_GR_76 im_GR_one se_GR_GR_one (by decide +kernel) (hs.rcGR hG.2) rfl (by omega) (Nat.le_of_ble_eq_true rfl) hC) (by decide) rfl (fun _ _ _ q => ⟨rfl, rfl, _, q⟩) (fun v1 h _ hs => ?_)
  refine jj_istore_n (j := 1) (by decide +kernel) (by decide) rfl ?_
  refine jj_iconst (n := 0) (v := 0) (by decide +kernel) (by decide) ?_
  refine jj_istore_n (j := 2) (by decide +kernel) (by decide) rfl ?_
  exact jj_wk (js_s (js_s (js_s js_0))) (b_GR_wholeFile_20 (o := o) hG hdd _ _ _ _ (Nat.lt_succ_self _) hs)
theorem s_GR_wholeFile {l : Launch} {G : jj_G} {X : sy_X} {K o N d : Nat} {h : jj_H} (hG : sy_G G X) (hdd : 450 ≤ d) (hs : Sy G X K o N h) : jj_Q l G y_GR_wholeFile d [.ref (X.2.2.1 12)] h (sy_F 0 true G X K 0 N) :=
  jj_Q.of (by decide +kernel) (Nat.le_of_ble_eq_true rfl) (b_GR_wholeFile_0 hG hdd hs)
set_option maxRecDepth 100000 in
set_option maxHeartbeats 4000000 in
theorem b_GR_one_12_0 {l : Launch} {G : jj_G} {X : sy_X} {K o N d : Nat} {h : jj_H} (hG : sy_G G X) (hdd : 460 ≤ d) (hs : Sy G X K o N h) : jj_P l G y_GR_one d (sy_F 1 true G X K 0 N) 0 [some (.ref (X.2.2.1 12)), some (.int 12)] [] h := by
  refine jj_iload_n (j := 1) (by decide +kernel) rfl ?_
  refine jj_tableIn (dflt := 130) (lo := 0) (hi := 12) (offs := #[73, 79, 84, 89, 89, 94, 100, 106, 112, 118, 124, 130, 67]) (len := 67) (off := 67) (tgt := 68) (by decide +kernel) (by decide) (by decide) (by decide) (by decide) ?_
  refine jj_aload_n (j := 0) (by decide +kernel) rfl ?_
  refine sy_cv (s_GR_wholeFile (d := d - 1) hG (by omega) hs) (fun o1 h1 hC => jj_callV ok_GR_wholeFile ml_GR_26 im_GR_wholeFile se_GR_GR_wholeFile (by decide +kernel) (hs.rcGR hG.2) rfl (by omega) (Nat.le_of_ble_eq_true rfl) hC) rfl (fun _ _ _ q => ⟨rfl, rfl, _, q⟩) (fun h hs => ?_)
  refine jj_iconst (n := 1) (v := 1) (by decide +kernel) (by decide) ?_
  exact jj_iret .int (by decide +kernel) rfl rfl ⟨Or.inl rfl, hs⟩
theorem s_GR_one_12 {l : Launch} {G : jj_G} {X : sy_X} {K o N d : Nat} {h : jj_H} (hG : sy_G G X) (hdd : 460 ≤ d) (hs : Sy G X K o N h) : jj_Q l G y_GR_one d [.ref (X.2.2.1 12), .int 12] h (sy_F 1 true G X K 0 N) :=
  jj_Q.of (by decide +kernel) (Nat.le_of_ble_eq_true rfl) (b_GR_one_12_0 hG hdd hs)
end
section
/-! the object's own methods -/
theorem iae_ok : Bundle.fit "java/lang/IllegalArgumentException" = true := by decide +kernel
theorem iob_ok : Bundle.fit "java/lang/IndexOutOfBoundsException" = true := by decide +kernel
theorem Sy.thrown {G : jj_G} {X : sy_X} {K o N : Nat} {h : jj_H} (hs : Sy G X K o N h) (hX : X.2.2.2.2.2 = false) : Sy G X (K + 1) o N (h.1, h.2.1 + 1, h.2.2 + 6) :=
  hs.newGR hX (j := 1) (hs.gr hX) (fun _ _ => rfl) (Nat.le_succ _) (Nat.le_refl _) (Nat.le_refl _)
set_option maxRecDepth 100000 in
set_option maxHeartbeats 4000000 in
theorem s_ST_addFour {l : Launch} {G : jj_G} {X : sy_X} {K o N d : Nat} {h : jj_H} {x : Int32} (hG : sy_G G X) (hN : N + 4 ≤ 32768) (hdd : 6 ≤ d) (hs : Sy G X K o N h) : jj_Q l G y_ST_addFour d [.ref (X.2.2.1 9), .int x] h (sy_F 0 false G X K o (N + 4)) := by
  refine jj_Q.of (by decide +kernel) (Nat.le_of_ble_eq_true rfl) ?_
  refine jj_bipush (n := 24) (v := 24) (by decide +kernel) (by decide) ?_
  refine jj_istore_n (j := 2) (by decide +kernel) (by decide) rfl ?_
  refine jj_iload_n (j := 2) (by decide +kernel) rfl ?_
  refine jj_if_lt (off := 23) (tgt := 27) (by decide +kernel) (by decide) (fun c1 => absurd c1 (by decide)) (fun c1 => ?_)
  refine jj_aload_n (j := 0) (by decide +kernel) rfl ?_
  obtain ⟨fp, hg⟩ := hs.st hG.2
  refine jj_getfield 0 ck_ST fl_ST_14 (by decide) (by decide +kernel) hg rfl ?_
  refine jj_iload_n (j := 1) (by decide +kernel) rfl ?_
  refine jj_iload_n (j := 2) (by decide +kernel) rfl ?_
  refine jj_ishr (by decide +kernel) ?_
  refine jj_sipush (n := 255) (v := 255) (by decide +kernel) (by decide) ?_
  refine jj_iand (by decide +kernel) ?_
  refine sy_cv (s_cha_add (d := d - 1) hG.1 (sy_o hG.2) hs (by omega) (by omega)) (fun o1 h1 hC => jj_callV ok_IR_add ml_ST_111 im_IR_add se_IR_IR_add (by decide +kernel) (hs.rcR (t := 0) (by decide) (sy_o hG.2)) rfl (by omega) (Nat.le_of_ble_eq_true rfl) hC) rfl (fun q => by cases q) (fun h hs => ?_)
  refine jj_iinc (i := 2) (n := (-8)) (v := 16) (by decide +kernel) rfl (by decide) (by decide) rfl ?_
  refine jj_goto (off := (-21)) (tgt := 3) (by decide +kernel) (by decide) ?_
  refine jj_iload_n (j := 2) (by decide +kernel) rfl ?_
  refine jj_if_lt (off := 23) (tgt := 27) (by decide +kernel) (by decide) (fun c1 => absurd c1 (by decide)) (fun c1 => ?_)
  refine jj_aload_n (j := 0) (by decide +kernel) rfl ?_
  obtain ⟨fp, hg⟩ := hs.st hG.2
  refine jj_getfield 0 ck_ST fl_ST_14 (by decide) (by decide +kernel) hg rfl ?_
  refine jj_iload_n (j := 1) (by decide +kernel) rfl ?_
  refine jj_iload_n (j := 2) (by decide +kernel) rfl ?_
  refine jj_ishr (by decide +kernel) ?_
  refine jj_sipush (n := 255) (v := 255) (by decide +kernel) (by decide) ?_
  refine jj_iand (by decide +kernel) ?_
  refine sy_cv (s_cha_add (d := d - 1) hG.1 (sy_o hG.2) hs (by omega) (by omega)) (fun o1 h1 hC => jj_callV ok_IR_add ml_ST_111 im_IR_add se_IR_IR_add (by decide +kernel) (hs.rcR (t := 0) (by decide) (sy_o hG.2)) rfl (by omega) (Nat.le_of_ble_eq_true rfl) hC) rfl (fun q => by cases q) (fun h hs => ?_)
  refine jj_iinc (i := 2) (n := (-8)) (v := 8) (by decide +kernel) rfl (by decide) (by decide) rfl ?_
  refine jj_goto (off := (-21)) (tgt := 3) (by decide +kernel) (by decide) ?_
  refine jj_iload_n (j := 2) (by decide +kernel) rfl ?_
  refine jj_if_lt (off := 23) (tgt := 27) (by decide +kernel) (by decide) (fun c1 => absurd c1 (by decide)) (fun c1 => ?_)
  refine jj_aload_n (j := 0) (by decide +kernel) rfl ?_
  obtain ⟨fp, hg⟩ := hs.st hG.2
  refine jj_getfield 0 ck_ST fl_ST_14 (by decide) (by decide +kernel) hg rfl ?_
  refine jj_iload_n (j := 1) (by decide +kernel) rfl ?_
  refine jj_iload_n (j := 2) (by decide +kernel) rfl ?_
  refine jj_ishr (by decide +kernel) ?_
  refine jj_sipush (n := 255) (v := 255) (by decide +kernel) (by decide) ?_
  refine jj_iand (by decide +kernel) ?_
  refine sy_cv (s_cha_add (d := d - 1) hG.1 (sy_o hG.2) hs (by omega) (by omega)) (fun o1 h1 hC => jj_callV ok_IR_add ml_ST_111 im_IR_add se_IR_IR_add (by decide +kernel) (hs.rcR (t := 0) (by decide) (sy_o hG.2)) rfl (by omega) (Nat.le_of_ble_eq_true rfl) hC) rfl (fun q => by cases q) (fun h hs => ?_)
  refine jj_iinc (i := 2) (n := (-8)) (v := 0) (by decide +kernel) rfl (by decide) (by decide) rfl ?_
  refine jj_goto (off := (-21)) (tgt := 3) (by decide +kernel) (by decide) ?_
  refine jj_iload_n (j := 2) (by decide +kernel) rfl ?_
  refine jj_if_lt (off := 23) (tgt := 27) (by decide +kernel) (by decide) (fun c1 => absurd c1 (by decide)) (fun c1 => ?_)
  refine jj_aload_n (j := 0) (by decide +kernel) rfl ?_
  obtain ⟨fp, hg⟩ := hs.st hG.2
  refine jj_getfield 0 ck_ST fl_ST_14 (by decide) (by decide +kernel) hg rfl ?_
  refine jj_iload_n (j := 1) (by decide +kernel) rfl ?_
  refine jj_iload_n (j := 2) (by decide +kernel) rfl ?_
  refine jj_ishr (by decide +kernel) ?_
  refine jj_sipush (n := 255) (v := 255) (by decide +kernel) (by decide) ?_
  refine jj_iand (by decide +kernel) ?_
  refine sy_cv (s_cha_add (d := d - 1) hG.1 (sy_o hG.2) hs (by omega) (by omega)) (fun o1 h1 hC => jj_callV ok_IR_add ml_ST_111 im_IR_add se_IR_IR_add (by decide +kernel) (hs.rcR (t := 0) (by decide) (sy_o hG.2)) rfl (by omega) (Nat.le_of_ble_eq_true rfl) hC) rfl (fun q => by cases q) (fun h hs => ?_)
  refine jj_iinc (i := 2) (n := (-8)) (v := (-8)) (by decide +kernel) rfl (by decide) (by decide) rfl ?_
  refine jj_goto (off := (-21)) (tgt := 3) (by decide +kernel) (by decide) ?_
  refine jj_iload_n (j := 2) (by decide +kernel) rfl ?_
  refine jj_if_lt (off := 23) (tgt := 27) (by decide +kernel) (by decide) (fun c1 => ?_) (fun c1 => absurd (show (-8 : Int32) < 0 by decide) c1)
  exact jj_vret (by decide +kernel) rfl ⟨rfl, hs⟩
set_option maxRecDepth 100000 in
set_option maxHeartbeats 4000000 in
theorem s_ST_text {l : Launch} {G : jj_G} {X : sy_X} {K o N d : Nat} {h : jj_H} {x y z w : Int32} (hG : sy_G G X) (hN : N ≤ 16384) (hdd : 8 ≤ d) (hs : Sy G X K o N h) : jj_Q l G y_ST_text d [.ref (X.2.2.1 9), .int x, .int y, .int z, .int w] h (fun out h' => (N ≤ 16368 ∧ out = .inl none ∧ Sy G X K o (N + 16) h') ∨ (16368 < N ∧ out = .inr "java/lang/IllegalStateException" ∧ Sy G X (K + 1) o N h')) := by
  refine jj_Q.of (by decide +kernel) (Nat.le_of_ble_eq_true rfl) ?_
  refine jj_aload_n (j := 0) (by decide +kernel) rfl ?_
  obtain ⟨fp, hg⟩ := hs.st hG.2
  refine jj_getfield 0 ck_ST fl_ST_14 (by decide) (by decide +kernel) hg rfl ?_
  refine jj_callr (s_cha_size (d := d - 1) (sy_o hG.2) hs).2 (fun o1 h1 hC => jj_callV ok_IR_size ml_ST_54 im_IR_size se_IR_IR_size (by decide +kernel) (hs.rcR (t := 0) (by decide) (sy_o hG.2)) rfl (by omega) (Nat.le_of_ble_eq_true rfl) hC) (by rintro E h1 ⟨q, -⟩; cases q) ?_
  rintro v h1 ⟨hv, rfl⟩
  cases hv
  refine jj_sipush (n := 16368) (v := 16368) (by decide +kernel) (by decide) ?_
  refine jj_icmp_le (off := 13) (tgt := 23) (by decide +kernel) (by decide) (fun c1 => ?_) (fun c1 => ?_)
  · have hN2 : N ≤ 16368 := (nI_leI (b := 16368) (by omega) (by omega)).mp c1
    refine jj_aload_n (j := 0) (by decide +kernel) rfl ?_
    refine jj_iload_n (j := 1) (by decide +kernel) rfl ?_
    refine sy_cv (s_ST_addFour (d := d - 1) hG (by omega) (by omega) hs) (fun o1 h1 hC => jj_callV ok_ST_addFour ml_ST_65 im_ST_addFour se_ST_ST_addFour (by decide +kernel) (hs.rcST hG.2) rfl (by omega) (Nat.le_of_ble_eq_true rfl) hC) rfl (fun q => by cases q) (fun h hs => ?_)
    refine jj_aload_n (j := 0) (by decide +kernel) rfl ?_
    refine jj_iload_n (j := 2) (by decide +kernel) rfl ?_
    refine sy_cv (s_ST_addFour (d := d - 1) hG (by omega) (by omega) hs) (fun o1 h1 hC => jj_callV ok_ST_addFour ml_ST_65 im_ST_addFour se_ST_ST_addFour (by decide +kernel) (hs.rcST hG.2) rfl (by omega) (Nat.le_of_ble_eq_true rfl) hC) rfl (fun q => by cases q) (fun h hs => ?_)
    refine jj_aload_n (j := 0) (by decide +kernel) rfl ?_
    refine jj_iload_n (j := 3) (by decide +kernel) rfl ?_
    refine sy_cv (s_ST_addFour (d := d - 1) hG (by omega) (by omega) hs) (fun o1 h1 hC => jj_callV ok_ST_addFour ml_ST_65 im_ST_addFour se_ST_ST_addFour (by decide +kernel) (hs.rcST hG.2) rfl (by omega) (Nat.le_of_ble_eq_true rfl) hC) rfl (fun q => by cases q) (fun h hs => ?_)
    refine jj_aload_n (j := 0) (by decide +kernel) rfl ?_
    refine jj_iload (i := 4) (by decide +kernel) rfl ?_
    refine sy_cv (s_ST_addFour (d := d - 1) hG (by omega) (by omega) hs) (fun o1 h1 hC => jj_callV ok_ST_addFour ml_ST_65 im_ST_addFour se_ST_ST_addFour (by decide +kernel) (hs.rcST hG.2) rfl (by omega) (Nat.le_of_ble_eq_true rfl) hC) rfl (fun q => by cases q) (fun h hs => ?_)
    exact jj_vret (by decide +kernel) rfl (Or.inl ⟨hN2, rfl, hs⟩)
  · have hN2 : 16368 < N := Nat.not_le.mp (fun q => c1 (nI_le (b := 16368) q (by omega)))
    exact jj_throwS (is := 60) (text := _) ise_ok.1 ise_ok.2 (by decide) cl_ST_58 it_JI sr_ST_60 ta_ST_62 (by decide +kernel) (by decide +kernel) (by decide +kernel) (by decide +kernel) (by decide +kernel) rfl (by omega) (by decide) (Or.inr ⟨hN2, rfl, hs.thrown hG.2⟩)
set_option maxRecDepth 100000 in
set_option maxHeartbeats 4000000 in
theorem s_ST_cut {l : Launch} {G : jj_G} {X : sy_X} {K o N d : Nat} {h : jj_H} {x : Int32} (hG : sy_G G X) (hN : N ≤ 16384) (hdd : 8 ≤ d) (hs : Sy G X K o N h) : jj_Q l G y_ST_cut d [.ref (X.2.2.1 9), .int x] h (fun out h' => (∃ j : Nat, j ≤ N ∧ x = nI j ∧ out = .inl none ∧ Sy G X K o j h') ∨ ((x < 0 ∨ nI N < x) ∧ out = .inr "java/lang/IllegalArgumentException" ∧ Sy G X (K + 1) o N h')) := by
  refine jj_Q.of (by decide +kernel) (Nat.le_of_ble_eq_true rfl) ?_
  refine jj_iload_n (j := 1) (by decide +kernel) rfl ?_
  refine jj_if_lt (off := 14) (tgt := 15) (by decide +kernel) (by decide) (fun c1 => ?_) (fun c1 => ?_)
  · exact jj_throwS (is := 70) (text := _) iae_ok ise_ok.2 (by decide) cl_ST_68 it_JG sr_ST_70 ta_ST_72 (by decide +kernel) (by decide +kernel) (by decide +kernel) (by decide +kernel) (by decide +kernel) rfl (by omega) (by decide) (Or.inr ⟨Or.inl c1, rfl, hs.thrown hG.2⟩)
  · refine jj_iload_n (j := 1) (by decide +kernel) rfl ?_
    refine jj_aload_n (j := 0) (by decide +kernel) rfl ?_
    obtain ⟨fp, hg⟩ := hs.st hG.2
    refine jj_getfield 0 ck_ST fl_ST_14 (by decide) (by decide +kernel) hg rfl ?_
    refine jj_callr (s_cha_size (d := d - 1) (sy_o hG.2) hs).2 (fun o1 h1 hC => jj_callV ok_IR_size ml_ST_54 im_IR_size se_IR_IR_size (by decide +kernel) (hs.rcR (t := 0) (by decide) (sy_o hG.2)) rfl (by omega) (Nat.le_of_ble_eq_true rfl) hC) (by rintro E h1 ⟨q, -⟩; cases q) ?_
    rintro v h1 ⟨hv, rfl⟩
    cases hv
    refine jj_icmp_le (off := 13) (tgt := 25) (by decide +kernel) (by decide) (fun c2 => ?_) (fun c2 => ?_)
    · obtain ⟨j, hj, rfl⟩ := nI_of2 (nI_toInt (by omega)) c1 c2
      refine jj_aload_n (j := 0) (by decide +kernel) rfl ?_
      obtain ⟨fp, hg⟩ := hs.st hG.2
      refine jj_getfield 0 ck_ST fl_ST_14 (by decide) (by decide +kernel) hg rfl ?_
      refine jj_iload_n (j := 1) (by decide +kernel) rfl ?_
      refine sy_cv (s_cha_cut (d := d - 1) (sy_o hG.2) hs hj) (fun o1 h1 hC => jj_callV ok_IR_cutTo ml_ST_73 im_IR_cutTo se_IR_IR_cutTo (by decide +kernel) (hs.rcR (t := 0) (by decide) (sy_o hG.2)) rfl (by omega) (Nat.le_of_ble_eq_true rfl) hC) rfl (fun q => by cases q) (fun h hs => ?_)
      exact jj_vret (by decide +kernel) rfl (Or.inl ⟨j, hj, rfl, rfl, hs⟩)
    · exact jj_throwS (is := 70) (text := _) iae_ok ise_ok.2 (by decide) cl_ST_68 it_JG sr_ST_70 ta_ST_72 (by decide +kernel) (by decide +kernel) (by decide +kernel) (by decide +kernel) (by decide +kernel) rfl (by omega) (by decide) (Or.inr ⟨Or.inr (Int32.not_le.mp c2), rfl, hs.thrown hG.2⟩)
set_option maxRecDepth 100000 in
set_option maxHeartbeats 4000000 in
theorem s_ST_length {l : Launch} {G : jj_G} {X : sy_X} {K o N d : Nat} {h : jj_H} (hG : sy_G G X) (hdd : 1 ≤ d) (hs : Sy G X K o N h) : jj_Q l G y_ST_length d [.ref (X.2.2.1 9)] h (fun out h' => out = .inl (some (.int (nI N))) ∧ h' = h) := by
  refine jj_Q.of (by decide +kernel) (Nat.le_of_ble_eq_true rfl) ?_
  refine jj_aload_n (j := 0) (by decide +kernel) rfl ?_
  obtain ⟨fp, hg⟩ := hs.st hG.2
  refine jj_getfield 0 ck_ST fl_ST_14 (by decide) (by decide +kernel) hg rfl ?_
  refine jj_callr (s_cha_size (d := d - 1) (sy_o hG.2) hs).2 (fun o1 h1 hC => jj_callV ok_IR_size ml_ST_54 im_IR_size se_IR_IR_size (by decide +kernel) (hs.rcR (t := 0) (by decide) (sy_o hG.2)) rfl (by omega) (Nat.le_of_ble_eq_true rfl) hC) (by rintro E h1 ⟨q, -⟩; cases q) ?_
  rintro v h1 ⟨hv, rfl⟩
  cases hv
  exact jj_iret .int (by decide +kernel) rfl rfl ⟨rfl, rfl⟩
set_option maxRecDepth 100000 in
set_option maxHeartbeats 4000000 in
theorem s_ST_place {l : Launch} {G : jj_G} {X : sy_X} {K o N d : Nat} {h : jj_H} (hG : sy_G G X) (hs : Sy G X K o N h) : jj_Q l G y_ST_place d [.ref (X.2.2.1 9)] h (sy_F 1 false G X K o N) := by
  refine jj_Q.of (by decide +kernel) (Nat.le_of_ble_eq_true rfl) ?_
  refine jj_aload_n (j := 0) (by decide +kernel) rfl ?_
  obtain ⟨fp, hg⟩ := hs.st hG.2
  refine jj_getfield 5 ck_ST fl_ST_50 (by decide) (by decide +kernel) hg rfl ?_
  exact jj_iret .int (by decide +kernel) rfl rfl ⟨Or.inl rfl, hs⟩
set_option maxRecDepth 100000 in
set_option maxHeartbeats 4000000 in
theorem s_ST_nodes {l : Launch} {G : jj_G} {X : sy_X} {K o N d : Nat} {h : jj_H} (hG : sy_G G X) (hdd : 1 ≤ d) (hs : Sy G X K o N h) : jj_Q l G y_ST_nodes d [.ref (X.2.2.1 9)] h (sy_F 1 false G X K o N) := by
  refine jj_Q.of (by decide +kernel) (Nat.le_of_ble_eq_true rfl) ?_
  refine jj_aload_n (j := 0) (by decide +kernel) rfl ?_
  obtain ⟨fp, hg⟩ := hs.st hG.2
  refine jj_getfield 2 ck_ST fl_ST_28 (by decide) (by decide +kernel) hg rfl ?_
  refine sy_ci (s_tab_size (d := d - 1) (t := 7) hs (by decide) (by decide) (sy_o hG.2)) (fun o1 h1 hC => jj_callV ok_TB_size ml_ST_93 im_TB_size se_TB_TB_size (by decide +kernel) (hs.rcT (t := 7) (by decide) (by decide) (sy_o hG.2)) rfl (by omega) (Nat.le_of_ble_eq_true rfl) hC) (by decide) rfl (fun q => by cases q) (fun v h _ hs => ?_)
  exact jj_iret .int (by decide +kernel) rfl rfl ⟨Or.inl rfl, hs⟩
set_option maxRecDepth 100000 in
set_option maxHeartbeats 4000000 in
theorem s_ST_names {l : Launch} {G : jj_G} {X : sy_X} {K o N d : Nat} {h : jj_H} (hG : sy_G G X) (hdd : 2 ≤ d) (hs : Sy G X K o N h) : jj_Q l G y_ST_names d [.ref (X.2.2.1 9)] h (sy_F 1 false G X K o N) := by
  refine jj_Q.of (by decide +kernel) (Nat.le_of_ble_eq_true rfl) ?_
  refine jj_aload_n (j := 0) (by decide +kernel) rfl ?_
  obtain ⟨fp, hg⟩ := hs.st hG.2
  refine jj_getfield 1 ck_ST fl_ST_21 (by decide) (by decide +kernel) hg rfl ?_
  refine sy_ci (s_SP_size (d := d - 1) hG.1 (by omega) hs) (fun o1 h1 hC => jj_callV ok_SP_size ml_ST_105 im_SP_size se_SP_SP_size (by decide +kernel) hs.rcSP rfl (by omega) (Nat.le_of_ble_eq_true rfl) hC) (by decide) rfl (fun q => by cases q) (fun v h _ hs => ?_)
  refine jj_bipush (n := 57) (v := 57) (by decide +kernel) (by decide) ?_
  refine jj_isub (by decide +kernel) ?_
  exact jj_iret .int (by decide +kernel) rfl rfl ⟨Or.inl rfl, hs⟩
/-- an int, or a throw of one of these -/
def sy_T (Es : List String) (G : jj_G) (X : sy_X) (K o N : Nat) : jj_O → jj_H → Prop := fun out h' => (∃ v : Int32, out = .inl (some (.int v)) ∧ Sy G X K o N h') ∨ (∃ E ∈ Es, out = .inr E ∧ Sy G X (K + 1) o N h')
theorem s_ST_node_44 {l : Launch} {G : jj_G} {X : sy_X} {K o N d : Nat} {h : jj_H} {x1 x2 : Int32} (hG : sy_G G X) (hdd : 8 ≤ d) (hs : Sy G X K o N h) : jj_P l G y_ST_node d (sy_T ["java/lang/IndexOutOfBoundsException", "java/lang/IllegalArgumentException"] G X K o N) 44 [some (.ref (X.2.2.1 9)), some (.int x1), some (.int x2)] [] h := by
  refine jj_aload_n (j := 0) (by decide +kernel) rfl ?_
  obtain ⟨fp, hg⟩ := hs.st hG.2
  refine jj_getfield 2 ck_ST fl_ST_28 (by decide) (by decide +kernel) hg rfl ?_
  refine jj_iload_n (j := 1) (by decide +kernel) rfl ?_
  refine jj_iload_n (j := 2) (by decide +kernel) rfl ?_
  refine sy_ci (s_tab_at (d := d - 1) (t := 7) hG.1 hs (by decide) (by decide) (sy_o hG.2)) (fun o1 h1 hC => jj_callV ok_TB_at ml_ST_101 im_TB_at se_TB_TB_at (by decide +kernel) (hs.rcT (t := 7) (by decide) (by decide) (sy_o hG.2)) rfl (by omega) (Nat.le_of_ble_eq_true rfl) hC) (by decide) rfl (fun q => by cases q) (fun v h _ hs => ?_)
  exact jj_iret .int (by decide +kernel) rfl rfl (Or.inl ⟨v, rfl, hs⟩)
set_option maxRecDepth 100000 in
set_option maxHeartbeats 4000000 in
theorem s_ST_node {l : Launch} {G : jj_G} {X : sy_X} {K o N d : Nat} {h : jj_H} {x1 x2 : Int32} (hG : sy_G G X) (hdd : 8 ≤ d) (hs : Sy G X K o N h) : jj_Q l G y_ST_node d [.ref (X.2.2.1 9), .int x1, .int x2] h (sy_T ["java/lang/IndexOutOfBoundsException", "java/lang/IllegalArgumentException"] G X K o N) := by
  refine jj_Q.of (by decide +kernel) (Nat.le_of_ble_eq_true rfl) ?_
  refine jj_iload_n (j := 1) (by decide +kernel) rfl ?_
  refine jj_if_lt (off := 14) (tgt := 15) (by decide +kernel) (by decide) (fun c1 => ?_) (fun c1 => ?_)
  · exact jj_throwS (is := 96) (text := _) iob_ok ise_ok.2 (by decide) cl_ST_94 it_JX sr_ST_96 ta_ST_98 (by decide +kernel) (by decide +kernel) (by decide +kernel) (by decide +kernel) (by decide +kernel) rfl (by omega) (by decide) (Or.inr ⟨_, List.mem_cons_self, rfl, hs.thrown hG.2⟩)
  · refine jj_iload_n (j := 1) (by decide +kernel) rfl ?_
    refine jj_aload_n (j := 0) (by decide +kernel) rfl ?_
    obtain ⟨fp, hg⟩ := hs.st hG.2
    refine jj_getfield 2 ck_ST fl_ST_28 (by decide) (by decide +kernel) hg rfl ?_
    refine sy_ci (s_tab_size (d := d - 1) (t := 7) hs (by decide) (by decide) (sy_o hG.2)) (fun o1 h1 hC => jj_callV ok_TB_size ml_ST_93 im_TB_size se_TB_TB_size (by decide +kernel) (hs.rcT (t := 7) (by decide) (by decide) (sy_o hG.2)) rfl (by omega) (Nat.le_of_ble_eq_true rfl) hC) (by decide) rfl (fun q => by cases q) (fun v h _ hs => ?_)
    refine jj_icmp_lt (off := 13) (tgt := 25) (by decide +kernel) (by decide) (fun c2 => ?_) (fun c2 => ?_)
    · refine jj_iload_n (j := 2) (by decide +kernel) rfl ?_
      refine jj_if_lt (off := 8) (tgt := 34) (by decide +kernel) (by decide) (fun c3 => ?_) (fun c3 => ?_)
      · exact jj_throwS (is := 99) (text := _) iae_ok ise_ok.2 (by decide) cl_ST_68 it_JG sr_ST_99 ta_ST_72 (by decide +kernel) (by decide +kernel) (by decide +kernel) (by decide +kernel) (by decide +kernel) rfl (by omega) (by decide) (Or.inr ⟨_, List.mem_cons_of_mem _ List.mem_cons_self, rfl, hs.thrown hG.2⟩)
      · refine jj_iload_n (j := 2) (by decide +kernel) rfl ?_
        refine jj_iconst (n := 3) (v := 3) (by decide +kernel) (by decide) ?_
        refine jj_icmp_lt (off := 13) (tgt := 44) (by decide +kernel) (by decide) (fun c4 => ?_) (fun c4 => ?_)
        · exact s_ST_node_44 hG hdd hs
        · exact jj_throwS (is := 99) (text := _) iae_ok ise_ok.2 (by decide) cl_ST_68 it_JG sr_ST_99 ta_ST_72 (by decide +kernel) (by decide +kernel) (by decide +kernel) (by decide +kernel) (by decide +kernel) rfl (by omega) (by decide) (Or.inr ⟨_, List.mem_cons_of_mem _ List.mem_cons_self, rfl, hs.thrown hG.2⟩)
    · exact jj_throwS (is := 96) (text := _) iob_ok ise_ok.2 (by decide) cl_ST_94 it_JX sr_ST_96 ta_ST_98 (by decide +kernel) (by decide +kernel) (by decide +kernel) (by decide +kernel) (by decide +kernel) rfl (by omega) (by decide) (Or.inr ⟨_, List.mem_cons_self, rfl, hs.thrown hG.2⟩)
set_option maxRecDepth 100000 in
set_option maxHeartbeats 4000000 in
theorem s_ST_name {l : Launch} {G : jj_G} {X : sy_X} {K o N d : Nat} {h : jj_H} {x1 x2 : Int32} (hG : sy_G G X) (hdd : 8 ≤ d) (hs : Sy G X K o N h) : jj_Q l G y_ST_name d [.ref (X.2.2.1 9), .int x1, .int x2] h (sy_T ["java/lang/IndexOutOfBoundsException"] G X K o N) := by
  refine jj_Q.of (by decide +kernel) (Nat.le_of_ble_eq_true rfl) ?_
  refine jj_iload_n (j := 1) (by decide +kernel) rfl ?_
  refine jj_if_lt (off := 17) (tgt := 18) (by decide +kernel) (by decide) (fun c1 => ?_) (fun c1 => ?_)
  · exact jj_throwS (is := 106) (text := _) iob_ok ise_ok.2 (by decide) cl_ST_94 it_JX sr_ST_106 ta_ST_98 (by decide +kernel) (by decide +kernel) (by decide +kernel) (by decide +kernel) (by decide +kernel) rfl (by omega) (by decide) (Or.inr ⟨_, List.mem_cons_self, rfl, hs.thrown hG.2⟩)
  · refine jj_iload_n (j := 1) (by decide +kernel) rfl ?_
    refine jj_aload_n (j := 0) (by decide +kernel) rfl ?_
    obtain ⟨fp, hg⟩ := hs.st hG.2
    refine jj_getfield 1 ck_ST fl_ST_21 (by decide) (by decide +kernel) hg rfl ?_
    refine sy_ci (s_SP_size (d := d - 1) hG.1 (by omega) hs) (fun o1 h1 hC => jj_callV ok_SP_size ml_ST_105 im_SP_size se_SP_SP_size (by decide +kernel) hs.rcSP rfl (by omega) (Nat.le_of_ble_eq_true rfl) hC) (by decide) rfl (fun q => by cases q) (fun v h _ hs => ?_)
    refine jj_bipush (n := 57) (v := 57) (by decide +kernel) (by decide) ?_
    refine jj_isub (by decide +kernel) ?_
    refine jj_icmp_lt (off := 13) (tgt := 28) (by decide +kernel) (by decide) (fun c2 => ?_) (fun c2 => ?_)
    · refine jj_aload_n (j := 0) (by decide +kernel) rfl ?_
      obtain ⟨fp, hg⟩ := hs.st hG.2
      refine jj_getfield 1 ck_ST fl_ST_21 (by decide) (by decide +kernel) hg rfl ?_
      refine jj_bipush (n := 57) (v := 57) (by decide +kernel) (by decide) ?_
      refine jj_iload_n (j := 1) (by decide +kernel) rfl ?_
      refine jj_iadd (by decide +kernel) ?_
      refine jj_iload_n (j := 2) (by decide +kernel) rfl ?_
      refine sy_ci (s_SP_letterOf (d := d - 1) hG.1 (by omega) hs) (fun o1 h1 hC => jj_callV ok_SP_letterOf ml_ST_108 im_SP_letterOf se_SP_SP_letterOf (by decide +kernel) hs.rcSP rfl (by omega) (Nat.le_of_ble_eq_true rfl) hC) (by decide) rfl (fun q => by cases q) (fun v h _ hs => ?_)
      exact jj_iret .int (by decide +kernel) rfl rfl (Or.inl ⟨v, rfl, hs⟩)
    · exact jj_throwS (is := 106) (text := _) iob_ok ise_ok.2 (by decide) cl_ST_94 it_JX sr_ST_106 ta_ST_98 (by decide +kernel) (by decide +kernel) (by decide +kernel) (by decide +kernel) (by decide +kernel) rfl (by omega) (by decide) (Or.inr ⟨_, List.mem_cons_self, rfl, hs.thrown hG.2⟩)
set_option maxRecDepth 100000 in
set_option maxHeartbeats 4000000 in
theorem b_ST_read_42 {l : Launch} {G : jj_G} {X : sy_X} {K o N d : Nat} {h : jj_H} {F : jj_O → jj_H → Prop} (hG : sy_G G X) (hs : Sy G X K o N h) (hF : ∀ (v : Int32) (h' : jj_H), Sy G X K o N h' → F (.inl (some (.int v))) h') : jj_P l G y_ST_read d F 42 [some (.ref (X.2.2.1 9)), none] [] h := by
  refine jj_aload_n (j := 0) (by decide +kernel) rfl ?_
  refine jj_aload_n (j := 0) (by decide +kernel) rfl ?_
  obtain ⟨fp, hg⟩ := hs.st hG.2
  refine jj_getfield 4 ck_ST fl_ST_46 (by decide) (by decide +kernel) hg rfl ?_
  obtain ⟨ki, va, pl, fa, fp, ne, hg⟩ := hs.gr hG.2
  refine jj_getfield 7 ck_GR fl_ST_89 (by decide) (by decide +kernel) hg rfl ?_
  refine sy_putST hs hG.2 fl_ST_50 (by decide +kernel) (fun h hs => ?_)
  refine jj_aload_n (j := 0) (by decide +kernel) rfl ?_
  obtain ⟨fp, hg⟩ := hs.st hG.2
  refine jj_getfield 4 ck_ST fl_ST_46 (by decide) (by decide +kernel) hg rfl ?_
  obtain ⟨ki, va, pl, fa, fp, ne, hg⟩ := hs.gr hG.2
  refine jj_getfield 6 ck_GR fl_ST_90 (by decide) (by decide +kernel) hg rfl ?_
  exact jj_iret .int (by decide +kernel) rfl rfl (hF _ _ hs)
set_option maxRecDepth 100000 in
set_option maxHeartbeats 4000000 in
theorem b_ST_read_28 {l : Launch} {G : jj_G} {X : sy_X} {K o N d : Nat} {h : jj_H} {F : jj_O → jj_H → Prop} (hG : sy_G G X) (hdd : 12 ≤ d) (hs : Sy G X K o N h) (hF : ∀ (v : Int32) (h' : jj_H), Sy G X K o N h' → F (.inl (some (.int v))) h') : jj_P l G y_ST_read d F 28 [some (.ref (X.2.2.1 9)), none] [] h := by
  refine jj_aload_n (j := 0) (by decide +kernel) rfl ?_
  obtain ⟨fp, hg⟩ := hs.st hG.2
  refine jj_getfield 2 ck_ST fl_ST_28 (by decide) (by decide +kernel) hg rfl ?_
  refine sy_cv (s_tab_clear (d := d - 1) (t := 7) hs (by decide) (by decide) (sy_o hG.2)) (fun o1 h1 hC => jj_callV ok_TB_clear ml_ST_76 im_TB_clear se_TB_TB_clear (by decide +kernel) (hs.rcT (t := 7) (by decide) (by decide) (sy_o hG.2)) rfl (by omega) (Nat.le_of_ble_eq_true rfl) hC) (by decide +kernel) (fun q => by cases q) (fun h hs => ?_)
  refine jj_aload_n (j := 0) (by decide +kernel) rfl ?_
  obtain ⟨fp, hg⟩ := hs.st hG.2
  refine jj_getfield 1 ck_ST fl_ST_21 (by decide) (by decide +kernel) hg rfl ?_
  refine sy_cv (s_SP_reset (d := d - 1) hG.1 (by omega) hs) (fun o1 h1 hC => jj_callV ok_SP_reset ml_ST_86 im_SP_reset se_SP_SP_reset (by decide +kernel) hs.rcSP rfl (by omega) (Nat.le_of_ble_eq_true rfl) hC) (by decide +kernel) (fun q => by cases q) (fun h hs => ?_)
  exact b_ST_read_42 hG hs hF
set_option maxRecDepth 100000 in
set_option maxHeartbeats 4000000 in
theorem s_ST_read {l : Launch} {G : jj_G} {X : sy_X} {K o N d : Nat} {h : jj_H} (hG : sy_G G X) (hdd : 470 ≤ d) (hs : Sy G X K o N h) : jj_Q l G y_ST_read d [.ref (X.2.2.1 9)] h (fun out h' => ∃ (v : Int32) (K' o' : Nat), K ≤ K' ∧ K' ≤ K + 1 ∧ out = .inl (some (.int v)) ∧ Sy G X K' o' N h') := by
  refine jj_Q.of (by decide +kernel) (Nat.le_of_ble_eq_true rfl) ?_
  refine jj_aload_n (j := 0) (by decide +kernel) rfl ?_
  obtain ⟨fp, hg⟩ := hs.st hG.2
  refine jj_getfield 2 ck_ST fl_ST_28 (by decide) (by decide +kernel) hg rfl ?_
  refine sy_cv (s_tab_clear (d := d - 1) (t := 7) hs (by decide) (by decide) (sy_o hG.2)) (fun o1 h1 hC => jj_callV ok_TB_clear ml_ST_76 im_TB_clear se_TB_TB_clear (by decide +kernel) (hs.rcT (t := 7) (by decide) (by decide) (sy_o hG.2)) rfl (by omega) (Nat.le_of_ble_eq_true rfl) hC) (by decide +kernel) (fun q => by cases q) (fun h hs => ?_)
  refine jj_aload_n (j := 0) (by decide +kernel) rfl ?_
  obtain ⟨fp, hg⟩ := hs.st hG.2
  refine jj_getfield 3 ck_ST fl_ST_37 (by decide) (by decide +kernel) hg rfl ?_
  refine sy_cv (s_SC_scan (d := d - 1) hG (by omega) hs) (fun o1 h1 hC => jj_callV ok_SC_scan ml_ST_79 im_SC_scan se_SC_SC_scan (by decide +kernel) (hs.rcSC hG.2) rfl (by omega) (Nat.le_of_ble_eq_true rfl) hC) (by decide +kernel) (fun q => by cases q) (fun h hs => ?_)
  refine jj_aload_n (j := 0) (by decide +kernel) rfl ?_
  obtain ⟨fp, hg⟩ := hs.st hG.2
  refine jj_getfield 4 ck_ST fl_ST_46 (by decide) (by decide +kernel) hg rfl ?_
  refine jj_bipush (n := 12) (v := 12) (by decide +kernel) (by decide) ?_
  obtain ⟨o1, h1, hP, hC⟩ := s_GR_one_12 (l := l) (d := d - 1) hG (by omega) hs
  have hR : jj_R l G y_ST_read d [.ref (X.2.2.1 12), .int 12] h o1 h1 20 [.int 12, .ref (X.2.2.1 12)] [] := jj_callVN (index := 82) (host := "SourceTree") (As := [.int 12]) ok_GR_one (List.mem_of_getElem? (i := 4) rfl) im_GR_one se_GR_GR_one (by decide +kernel) (hs.rcGR hG.2) rfl (by omega) (Nat.le_of_ble_eq_true rfl) hC
  cases o1 with
  | inl v =>
    cases v with
    | none => exact absurd hP.1 (by decide)
    | some v =>
      cases v with
      | int v =>
        refine hR.ret hC.1 ?_
        refine jj_pop (v := .int v) (by decide +kernel) rfl ?_
        refine jj_goto (off := 18) (tgt := 42) (by decide +kernel) (by decide) ?_
        exact b_ST_read_42 hG hP.2 (fun v h' hs' => ⟨v, K, 0, Nat.le_refl _, Nat.le_succ _, rfl, hs'⟩)
      | _ => exact hP.elim
  | inr E =>
    obtain ⟨-, rfl, o', hS⟩ := hP
    refine hR.catchA [] _ [] rfl (by intro z hz; cases hz) (by decide +kernel) (by decide) cl_ST_58 cs_JI_JI (i := 1) (len := 1) (Or.inr ⟨1, rfl, (by decide +kernel), rfl⟩) (by decide) rfl hC.1 ?_
    exact b_ST_read_28 hG (by omega) hS (fun v h' hs' => ⟨v, K + 1, o', Nat.le_succ _, Nat.le_refl _, rfl, hs'⟩)
end
section
/-! constructors -/
theorem im_JO : Cond.instanceMethod Lib.objectInit ∈ jj_T := jw 163 (by decide +kernel) rfl
theorem cw_JO : Cond.code Lib.objectInit ⟨#[0xb1]⟩ 1 none ∈ jj_T := jw 164 (by decide +kernel) rfl
set_option maxRecDepth 100000 in
set_option maxHeartbeats 4000000 in
theorem c_IR_init {l : Launch} {G : jj_G} {d : Nat} {h : jj_H} {r : Nat} {m : Nat} {u w : Value} (hG : jj_tyG G) (h0 : 1 ≤ m) (hm : m ≤ 1000) (hrr : h.1 r = some (.inr (1, [u, w]))) (hrl : r < h.2.1) (hdd : 1 ≤ d) : jj_Q l G y_IR_init d [.ref r, .int (nI m)] h (fun out h' => out = .inl none ∧ h' = (jj_up (jj_up h.1 h.2.1 (.inl (jj_cI G, m, .inl (fun _ => 0)))) r (.inr (1, [.ref h.2.1, .int (nI 0)])), h.2.1 + 1, h.2.2 + m)) := by
  refine jj_Q.of (by decide +kernel) (Nat.le_of_ble_eq_true rfl) ?_
  refine jj_aload_n (j := 0) (by decide +kernel) rfl ?_
  refine jj_objInit ml_IR_3 im_JO cw_JO (by decide +kernel) (by omega) (by decide) ?_
  refine jj_aload_n (j := 0) (by decide +kernel) rfl ?_
  refine jj_iload_n (j := 1) (by decide +kernel) rfl ?_
  refine jj_iconst (n := 1) (v := 1) (by decide +kernel) (by decide) ?_
  refine jj_icmp_ge (off := 7) (tgt := 14) (by decide +kernel) (by decide) (fun c1 => ?_) (fun c1 => absurd (show nI 1 ≤ nI m from nI_le h0 (by omega)) c1)
  refine jj_iload_n (j := 1) (by decide +kernel) rfl ?_
  refine jj_newarray (atype := .int) (fty := .int) (N' := m) (a0 := (m, .inl (fun _ => 0))) rfl (jj_tI hG) (fun _ q => q) ac_int (fun _ => rfl) (nI_pos (by omega)) (nI_clamp (by omega)) (by show m * 4 ≤ _; omega) (by decide +kernel) ?_
  have hrr2 : (jj_up h.1 h.2.1 (.inl (jj_cI G, m, .inl (fun _ => 0)))) r = some (.inr (1, [u, w])) := (jj_up_ne (by omega)).trans hrr
  refine jj_putfield 0 ck_IR fl_IR_9 (by decide) rfl (by decide +kernel) hrr2 rfl rfl (Nat.lt_of_sub_eq_succ rfl) ?_
  refine jj_aload_n (j := 0) (by decide +kernel) rfl ?_
  refine jj_iconst (n := 0) (v := 0) (by decide +kernel) (by decide) ?_
  refine jj_putfield 1 ck_IR fl_IR_15 (by decide) rfl (by decide +kernel) jj_up_self rfl rfl (Nat.lt_of_sub_eq_succ rfl) ?_
  refine jj_vret (by decide +kernel) rfl ⟨rfl, ?_⟩
  rw [jj_up_up]
  rfl
set_option maxRecDepth 100000 in
set_option maxHeartbeats 4000000 in
theorem c_TB_init {l : Launch} {G : jj_G} {d : Nat} {h : jj_H} {r : Nat} {u w : Value} (hG : jj_tyG G) (hrr : h.1 r = some (.inr (2, [u, w]))) (hrl : r < h.2.1) (hdd : 1 ≤ d) : jj_Q l G y_TB_init d [.ref r] h (fun out h' => out = .inl none ∧ h' = (jj_up (jj_up h.1 h.2.1 (.inl (jj_cI G, 192, .inl (fun _ => 0)))) r (.inr (2, [.ref h.2.1, .int (nI 0)])), h.2.1 + 1, h.2.2 + 192)) := by
  refine jj_Q.of (by decide +kernel) (Nat.le_of_ble_eq_true rfl) ?_
  refine jj_aload_n (j := 0) (by decide +kernel) rfl ?_
  refine jj_objInit ml_TB_3 im_JO cw_JO (by decide +kernel) (by omega) (by decide) ?_
  refine jj_aload_n (j := 0) (by decide +kernel) rfl ?_
  refine jj_sipush (n := 192) (v := nI 192) (by decide +kernel) (by decide) ?_
  refine jj_newarray (atype := .int) (fty := .int) (N' := 192) (a0 := (192, .inl (fun _ => 0))) rfl (jj_tI hG) (fun _ q => q) ac_int (fun _ => rfl) (nI_pos (by omega)) (nI_clamp (by omega)) (by show 192 * 4 ≤ _; omega) (by decide +kernel) ?_
  have hrr2 : (jj_up h.1 h.2.1 (.inl (jj_cI G, 192, .inl (fun _ => 0)))) r = some (.inr (2, [u, w])) := (jj_up_ne (by omega)).trans hrr
  refine jj_putfield 0 ck_TB fl_TB_9 (by decide) rfl (by decide +kernel) hrr2 rfl rfl (Nat.lt_of_sub_eq_succ rfl) ?_
  refine jj_aload_n (j := 0) (by decide +kernel) rfl ?_
  refine jj_iconst (n := 0) (v := 0) (by decide +kernel) (by decide) ?_
  refine jj_putfield 1 ck_TB fl_TB_15 (by decide) rfl (by decide +kernel) jj_up_self rfl rfl (Nat.lt_of_sub_eq_succ rfl) ?_
  refine jj_vret (by decide +kernel) rfl ⟨rfl, ?_⟩
  rw [jj_up_up]
  rfl
set_option maxRecDepth 100000 in
set_option maxHeartbeats 4000000 in
theorem c_SC_init {l : Launch} {G : jj_G} {d : Nat} {h : jj_H} {r : Nat} {a b c : Nat} {u0 u1 u2 u3 : Value} (hrr : h.1 r = some (.inr (4, [u0, u1, u2, u3]))) (hdd : 1 ≤ d) : jj_Q l G y_SC_init d [.ref r, .ref a, .ref b, .ref c] h (fun out h' => out = .inl none ∧ h' = (jj_up h.1 r (.inr (4, [.ref a, .ref b, .ref c, .int (-1)])), h.2)) := by
  refine jj_Q.of (by decide +kernel) (Nat.le_of_ble_eq_true rfl) ?_
  refine jj_aload_n (j := 0) (by decide +kernel) rfl ?_
  refine jj_objInit ml_SC_3 im_JO cw_JO (by decide +kernel) (by omega) (by decide) ?_
  refine jj_aload_n (j := 0) (by decide +kernel) rfl ?_
  refine jj_aload_n (j := 1) (by decide +kernel) rfl ?_
  refine jj_putfinal 0 ck_SC fl_SC_9 (by decide) rfl rfl rfl (by decide +kernel) hrr rfl rfl (Nat.lt_of_sub_eq_succ rfl) ?_
  refine jj_aload_n (j := 0) (by decide +kernel) rfl ?_
  refine jj_aload_n (j := 2) (by decide +kernel) rfl ?_
  refine jj_putfinal 1 ck_SC fl_SC_15 (by decide) rfl rfl rfl (by decide +kernel) jj_up_self rfl rfl (Nat.lt_of_sub_eq_succ rfl) ?_
  refine jj_aload_n (j := 0) (by decide +kernel) rfl ?_
  refine jj_aload_n (j := 3) (by decide +kernel) rfl ?_
  refine jj_putfinal 2 ck_SC fl_SC_19 (by decide) rfl rfl rfl (by decide +kernel) jj_up_self rfl rfl (Nat.lt_of_sub_eq_succ rfl) ?_
  refine jj_aload_n (j := 0) (by decide +kernel) rfl ?_
  refine jj_iconst (n := (-1)) (v := (-1)) (by decide +kernel) (by decide) ?_
  refine jj_putfield 3 ck_SC fl_SC_23 (by decide) rfl (by decide +kernel) jj_up_self rfl rfl (Nat.lt_of_sub_eq_succ rfl) ?_
  refine jj_vret (by decide +kernel) rfl ⟨rfl, ?_⟩
  rw [jj_up_up, jj_up_up, jj_up_up]
  rfl
set_option maxRecDepth 100000 in
set_option maxHeartbeats 4000000 in
theorem c_CU_init {l : Launch} {G : jj_G} {d : Nat} {h : jj_H} {r : Nat} {a b : Nat} {u0 u1 u2 u3 u4 u5 u6 u7 u8 u9 u10 u11 : Value} (hrr : h.1 r = some (.inr (5, [u0, u1, u2, u3, u4, u5, u6, u7, u8, u9, u10, u11]))) (hdd : 1 ≤ d) : jj_Q l G y_CU_init d [.ref r, .ref a, .ref b] h (fun out h' => out = .inl none ∧ h' = (jj_up h.1 r (.inr (5, [u0, u1, u2, .int (-1), .int 0, .int 0, .int 0, .int (-1), .ref a, .ref b, .int 0, .int (nI 0)])), h.2)) := by
  refine jj_Q.of (by decide +kernel) (Nat.le_of_ble_eq_true rfl) ?_
  refine jj_aload_n (j := 0) (by decide +kernel) rfl ?_
  refine jj_objInit ml_CU_3 im_JO cw_JO (by decide +kernel) (by omega) (by decide) ?_
  refine jj_aload_n (j := 0) (by decide +kernel) rfl ?_
  refine jj_aload_n (j := 1) (by decide +kernel) rfl ?_
  refine jj_putfinal 8 ck_GR fl_CU_9 (by decide) rfl rfl rfl (by decide +kernel) hrr rfl rfl (Nat.lt_of_sub_eq_succ rfl) ?_
  refine jj_aload_n (j := 0) (by decide +kernel) rfl ?_
  refine jj_aload_n (j := 2) (by decide +kernel) rfl ?_
  refine jj_putfinal 9 ck_GR fl_CU_15 (by decide) rfl rfl rfl (by decide +kernel) jj_up_self rfl rfl (Nat.lt_of_sub_eq_succ rfl) ?_
  refine jj_aload_n (j := 0) (by decide +kernel) rfl ?_
  refine jj_iconst (n := (-1)) (v := (-1)) (by decide +kernel) (by decide) ?_
  refine jj_putfield 3 ck_GR fl_CU_18 (by decide) rfl (by decide +kernel) jj_up_self rfl rfl (Nat.lt_of_sub_eq_succ rfl) ?_
  refine jj_aload_n (j := 0) (by decide +kernel) rfl ?_
  refine jj_iconst (n := 0) (v := 0) (by decide +kernel) (by decide) ?_
  refine jj_putfield 4 ck_GR fl_CU_22 (by decide) rfl (by decide +kernel) jj_up_self rfl rfl (Nat.lt_of_sub_eq_succ rfl) ?_
  refine jj_aload_n (j := 0) (by decide +kernel) rfl ?_
  refine jj_iconst (n := 0) (v := 0) (by decide +kernel) (by decide) ?_
  refine jj_putfield 5 ck_GR fl_CU_25 (by decide) rfl (by decide +kernel) jj_up_self rfl rfl (Nat.lt_of_sub_eq_succ rfl) ?_
  refine jj_aload_n (j := 0) (by decide +kernel) rfl ?_
  refine jj_iconst (n := 0) (v := 0) (by decide +kernel) (by decide) ?_
  refine jj_putfield 6 ck_GR fl_CU_28 (by decide) rfl (by decide +kernel) jj_up_self rfl rfl (Nat.lt_of_sub_eq_succ rfl) ?_
  refine jj_aload_n (j := 0) (by decide +kernel) rfl ?_
  refine jj_iconst (n := (-1)) (v := (-1)) (by decide +kernel) (by decide) ?_
  refine jj_putfield 7 ck_GR fl_CU_31 (by decide) rfl (by decide +kernel) jj_up_self rfl rfl (Nat.lt_of_sub_eq_succ rfl) ?_
  refine jj_aload_n (j := 0) (by decide +kernel) rfl ?_
  refine jj_iconst (n := 0) (v := 0) (by decide +kernel) (by decide) ?_
  refine jj_putfield 10 ck_GR fl_CU_34 (by decide) rfl (by decide +kernel) jj_up_self rfl rfl (Nat.lt_of_sub_eq_succ rfl) ?_
  refine jj_aload_n (j := 0) (by decide +kernel) rfl ?_
  refine jj_iconst (n := 0) (v := 0) (by decide +kernel) (by decide) ?_
  refine jj_putfield 11 ck_GR fl_CU_37 (by decide) rfl (by decide +kernel) jj_up_self rfl rfl (Nat.lt_of_sub_eq_succ rfl) ?_
  refine jj_vret (by decide +kernel) rfl ⟨rfl, ?_⟩
  rw [jj_up_up, jj_up_up, jj_up_up, jj_up_up, jj_up_up, jj_up_up, jj_up_up, jj_up_up]
  rfl
set_option maxRecDepth 100000 in
set_option maxHeartbeats 4000000 in
theorem c_GR_init {l : Launch} {G : jj_G} {d : Nat} {h : jj_H} {r : Nat} {a b c : Nat} {u0 u1 u2 u3 u4 u5 u6 u7 u8 u9 u10 u11 : Value} (hG : jj_tyG G) (hrr : h.1 r = some (.inr (5, [u0, u1, u2, u3, u4, u5, u6, u7, u8, u9, u10, u11]))) (hrl : r < h.2.1) (hdd : 3 ≤ d) : jj_Q l G y_GR_init d [.ref r, .ref a, .ref b, .ref c] h (fun out h' => out = .inl none ∧ h'.1 r = some (.inr (5, [.ref a, .ref h.2.1, .ref (h.2.1 + 2), .int (-1), .int 0, .int 0, .int 0, .int (-1), .ref b, .ref c, .int 0, .int (nI 0)])) ∧ h'.1 h.2.1 = some (.inr (1, [.ref (h.2.1 + 1), .int (nI 0)])) ∧ h'.1 (h.2.1 + 1) = some (.inl (jj_cI G, 64, .inl (fun _ => 0))) ∧ h'.1 (h.2.1 + 2) = some (.inr (1, [.ref (h.2.1 + 3), .int (nI 0)])) ∧ h'.1 (h.2.1 + 3) = some (.inl (jj_cI G, 64, .inl (fun _ => 0))) ∧ (∀ q, q < h.2.1 → q ≠ r → h'.1 q = h.1 q) ∧ h'.2 = (h.2.1 + 4, h.2.2 + 132)) := by
  refine jj_Q.of (by decide +kernel) (Nat.le_of_ble_eq_true rfl) ?_
  refine jj_aload_n (j := 0) (by decide +kernel) rfl ?_
  refine jj_aload_n (j := 2) (by decide +kernel) rfl ?_
  refine jj_aload_n (j := 3) (by decide +kernel) rfl ?_
  refine jj_callr (c_CU_init (d := d - 1) hrr (by omega)) (fun o1 h1 hC => jj_callI ok_CU_init rfl rfl rfl ml_GR_3 im_CU_init (by decide +kernel) rfl (by omega) (Nat.le_of_ble_eq_true rfl) hC) (by rintro E h1 ⟨q, -⟩; cases q) ?_
  rintro v h1 ⟨hv, rfl⟩
  cases hv
  refine jj_aload_n (j := 0) (by decide +kernel) rfl ?_
  refine jj_aload_n (j := 1) (by decide +kernel) rfl ?_
  refine jj_putfinal 0 ck_GR fl_GR_9 (by decide) rfl rfl rfl (by decide +kernel) jj_up_self rfl rfl (Nat.lt_of_sub_eq_succ rfl) ?_
  rw [jj_up_up]
  refine jj_aload_n (j := 0) (by decide +kernel) rfl ?_
  refine jj_new (fs := [.null, .int 0]) ck_IR cl_GR_15 ni_IR it_IR (by intro j hj; rcases (show j = 0 ∨ j = 1 by omega) with rfl | rfl <;> rfl) (by decide +kernel) ?_
  refine jj_dup (by decide +kernel) rfl ?_
  refine jj_bipush (n := 64) (v := nI 64) (by decide +kernel) (by decide) ?_
  refine jj_callr (c_IR_init (d := d - 1) hG (by decide) (by decide) jj_up_self (Nat.lt_succ_self _) (by omega)) (fun o1 h1 hC => jj_callI ok_IR_init rfl rfl rfl ml_GR_17 im_IR_init (by decide +kernel) rfl (by omega) (Nat.le_of_ble_eq_true rfl) hC) (by rintro E h1 ⟨q, -⟩; cases q) ?_
  rintro v h1 ⟨hv, rfl⟩
  cases hv
  refine jj_putfinal 1 ck_GR fl_GR_20 (by decide) rfl rfl rfl (by decide +kernel) ((jj_up_ne (Nat.ne_of_lt hrl)).trans ((jj_up_ne (by show r ≠ h.2.1 + 1; omega)).trans ((jj_up_ne (Nat.ne_of_lt hrl)).trans jj_up_self))) rfl rfl (Nat.lt_of_sub_eq_succ rfl) ?_
  refine jj_aload_n (j := 0) (by decide +kernel) rfl ?_
  refine jj_new (fs := [.null, .int 0]) ck_IR cl_GR_15 ni_IR it_IR (by intro j hj; rcases (show j = 0 ∨ j = 1 by omega) with rfl | rfl <;> rfl) (by decide +kernel) ?_
  refine jj_dup (by decide +kernel) rfl ?_
  refine jj_bipush (n := 64) (v := nI 64) (by decide +kernel) (by decide) ?_
  refine jj_callr (c_IR_init (d := d - 1) hG (by decide) (by decide) jj_up_self (Nat.lt_succ_self _) (by omega)) (fun o1 h1 hC => jj_callI ok_IR_init rfl rfl rfl ml_GR_17 im_IR_init (by decide +kernel) rfl (by omega) (Nat.le_of_ble_eq_true rfl) hC) (by rintro E h1 ⟨q, -⟩; cases q) ?_
  rintro v h1 ⟨hv, rfl⟩
  cases hv
  refine jj_putfinal 2 ck_GR fl_GR_23 (by decide) rfl rfl rfl (by decide +kernel) ((jj_up_ne (by show r ≠ h.2.1 + 1 + 1; omega)).trans ((jj_up_ne (by show r ≠ h.2.1 + 1 + 1 + 1; omega)).trans ((jj_up_ne (by show r ≠ h.2.1 + 1 + 1; omega)).trans jj_up_self))) rfl rfl (Nat.lt_of_sub_eq_succ rfl) ?_
  have n0 : h.2.1 ≠ r := by omega
  have n1 : h.2.1 + 1 ≠ r := by omega
  have n2 : h.2.1 + 2 ≠ r := by omega
  have n3 : h.2.1 + 3 ≠ r := by omega
  refine jj_vret (by decide +kernel) rfl ⟨rfl, jj_up_self, ?_, ?_, ?_, ?_, fun q hq hne => ?_, rfl⟩
  · simp [jj_up, n0, n1, n2, n3]
    rw [if_neg (by omega), if_neg (by omega), if_neg (by omega)]
  · simp [jj_up, n0, n1, n2, n3]
  · simp [jj_up, n0, n1, n2, n3]
  · simp [jj_up, n0, n1, n2, n3]
  · simp [jj_up]
    repeat' (rw [if_neg (by omega)])
end
section
/-! a new row, its object and its array side by side -/
def mk_row (G : jj_G) (h : jj_H) (ci x m : Nat) : Prop := h.1 x = some (.inr (ci, [.ref (x + 1), .int (nI 0)])) ∧ h.1 (x + 1) = some (.inl (jj_cI G, m, .inl (fun _ => 0)))
theorem mk_row.keep {G : jj_G} {h h' : jj_H} {ci x m : Nat} (hr : mk_row G h ci x m) (h1 : h'.1 x = h.1 x) (h2 : h'.1 (x + 1) = h.1 (x + 1)) : mk_row G h' ci x m := ⟨h1.trans hr.1, h2.trans hr.2⟩
/-- what a new row leaves behind: object r has it in field k -/
def mk_st (G : jj_G) (h : jj_H) (r ci : Nat) (fs : List Value) (cj m : Nat) (h' : jj_H) : Prop := h'.1 r = some (.inr (ci, fs)) ∧ mk_row G h' cj h.2.1 m ∧ (∀ q, q < h.2.1 → q ≠ r → h'.1 q = h.1 q) ∧ h'.2 = (h.2.1 + 2, h.2.2 + 2 + m)
theorem mk_st.of {G : jj_G} {h : jj_H} {r ci cj m : Nat} {fs : List Value} {e0 : va_E} (hrl : r < h.2.1) : mk_st G h r ci fs cj m (jj_up (jj_up (jj_up (jj_up h.1 h.2.1 e0) (h.2.1 + 1) (.inl (jj_cI G, m, .inl (fun _ => 0)))) h.2.1 (.inr (cj, [.ref (h.2.1 + 1), .int (nI 0)]))) r (.inr (ci, fs)), h.2.1 + 1 + 1, h.2.2 + 2 + m) := by
  refine ⟨jj_up_self, ⟨(jj_up_ne (by omega)).trans jj_up_self, (jj_up_ne (by omega)).trans ((jj_up_ne (by omega)).trans jj_up_self)⟩, fun q hq hne => ?_, rfl⟩
  exact (jj_up_ne hne).trans ((jj_up_ne (by omega)).trans ((jj_up_ne (by omega)).trans (jj_up_ne (by omega))))
set_option maxRecDepth 100000 in
set_option maxHeartbeats 4000000 in
theorem b_SP_init_4 {l : Launch} {G : jj_G} {d : Nat} {F : jj_O → jj_H → Prop} {h : jj_H} {r : Nat} {u0 u1 u2 u3 u4 : Value} (hG : jj_tyG G) (hdd : 2 ≤ d) (hrl : r < h.2.1) (hrr : h.1 r = some (.inr (3, [u0, u1, u2, u3, u4]))) (kk : ∀ h' : jj_H, mk_st G h r 3 [.ref h.2.1, u1, u2, u3, u4] 1 512 h' → jj_P l G y_SP_init d F 18 [some (.ref r), none] [] h') : jj_P l G y_SP_init d F 4 [some (.ref r), none] [] h := by
  refine jj_aload_n (j := 0) (by decide +kernel) rfl ?_
  refine jj_new (fs := [.null, .int 0]) ck_IR cl_SP_9 ni_IR it_IR (by intro j hj; rcases (show j = 0 ∨ j = 1 by omega) with rfl | rfl <;> rfl) (by decide +kernel) ?_
  refine jj_dup (by decide +kernel) rfl ?_
  refine jj_sipush (n := 512) (v := nI 512) (by decide +kernel) (by decide) ?_
  refine jj_callr (c_IR_init (d := d - 1) hG (by decide) (by decide) jj_up_self (Nat.lt_succ_self _) (by omega)) (fun o1 h1 hC => jj_callI ok_IR_init rfl rfl rfl ml_SP_11 im_IR_init (by decide +kernel) rfl (by omega) (Nat.le_of_ble_eq_true rfl) hC) (by rintro E h1 ⟨q, -⟩; cases q) ?_
  rintro v h1 ⟨hv, rfl⟩
  cases hv
  refine jj_putfinal 0 ck_SP fl_SP_14 (by decide) rfl rfl rfl (by decide +kernel) ((jj_up_ne (Nat.ne_of_lt hrl)).trans ((jj_up_ne (by show r ≠ h.2.1 + 1; omega)).trans ((jj_up_ne (Nat.ne_of_lt hrl)).trans hrr))) rfl rfl (Nat.lt_of_sub_eq_succ rfl) ?_
  exact kk _ (mk_st.of hrl)
set_option maxRecDepth 100000 in
set_option maxHeartbeats 4000000 in
theorem b_SP_init_18 {l : Launch} {G : jj_G} {d : Nat} {F : jj_O → jj_H → Prop} {h : jj_H} {r : Nat} {u0 u1 u2 u3 u4 : Value} (hG : jj_tyG G) (hdd : 2 ≤ d) (hrl : r < h.2.1) (hrr : h.1 r = some (.inr (3, [u0, u1, u2, u3, u4]))) (kk : ∀ h' : jj_H, mk_st G h r 3 [u0, .ref h.2.1, u2, u3, u4] 1 64 h' → jj_P l G y_SP_init d F 31 [some (.ref r), none] [] h') : jj_P l G y_SP_init d F 18 [some (.ref r), none] [] h := by
  refine jj_aload_n (j := 0) (by decide +kernel) rfl ?_
  refine jj_new (fs := [.null, .int 0]) ck_IR cl_SP_9 ni_IR it_IR (by intro j hj; rcases (show j = 0 ∨ j = 1 by omega) with rfl | rfl <;> rfl) (by decide +kernel) ?_
  refine jj_dup (by decide +kernel) rfl ?_
  refine jj_bipush (n := 64) (v := nI 64) (by decide +kernel) (by decide) ?_
  refine jj_callr (c_IR_init (d := d - 1) hG (by decide) (by decide) jj_up_self (Nat.lt_succ_self _) (by omega)) (fun o1 h1 hC => jj_callI ok_IR_init rfl rfl rfl ml_SP_11 im_IR_init (by decide +kernel) rfl (by omega) (Nat.le_of_ble_eq_true rfl) hC) (by rintro E h1 ⟨q, -⟩; cases q) ?_
  rintro v h1 ⟨hv, rfl⟩
  cases hv
  refine jj_putfinal 1 ck_SP fl_SP_20 (by decide) rfl rfl rfl (by decide +kernel) ((jj_up_ne (Nat.ne_of_lt hrl)).trans ((jj_up_ne (by show r ≠ h.2.1 + 1; omega)).trans ((jj_up_ne (Nat.ne_of_lt hrl)).trans hrr))) rfl rfl (Nat.lt_of_sub_eq_succ rfl) ?_
  exact kk _ (mk_st.of hrl)
set_option maxRecDepth 100000 in
set_option maxHeartbeats 4000000 in
theorem b_SP_init_31 {l : Launch} {G : jj_G} {d : Nat} {F : jj_O → jj_H → Prop} {h : jj_H} {r : Nat} {u0 u1 u2 u3 u4 : Value} (hG : jj_tyG G) (hdd : 2 ≤ d) (hrl : r < h.2.1) (hrr : h.1 r = some (.inr (3, [u0, u1, u2, u3, u4]))) (kk : ∀ h' : jj_H, mk_st G h r 3 [u0, u1, u2, .ref h.2.1, u4] 1 64 h' → jj_P l G y_SP_init d F 44 [some (.ref r), none] [] h') : jj_P l G y_SP_init d F 31 [some (.ref r), none] [] h := by
  refine jj_aload_n (j := 0) (by decide +kernel) rfl ?_
  refine jj_new (fs := [.null, .int 0]) ck_IR cl_SP_9 ni_IR it_IR (by intro j hj; rcases (show j = 0 ∨ j = 1 by omega) with rfl | rfl <;> rfl) (by decide +kernel) ?_
  refine jj_dup (by decide +kernel) rfl ?_
  refine jj_bipush (n := 64) (v := nI 64) (by decide +kernel) (by decide) ?_
  refine jj_callr (c_IR_init (d := d - 1) hG (by decide) (by decide) jj_up_self (Nat.lt_succ_self _) (by omega)) (fun o1 h1 hC => jj_callI ok_IR_init rfl rfl rfl ml_SP_11 im_IR_init (by decide +kernel) rfl (by omega) (Nat.le_of_ble_eq_true rfl) hC) (by rintro E h1 ⟨q, -⟩; cases q) ?_
  rintro v h1 ⟨hv, rfl⟩
  cases hv
  refine jj_putfinal 3 ck_SP fl_SP_23 (by decide) rfl rfl rfl (by decide +kernel) ((jj_up_ne (Nat.ne_of_lt hrl)).trans ((jj_up_ne (by show r ≠ h.2.1 + 1; omega)).trans ((jj_up_ne (Nat.ne_of_lt hrl)).trans hrr))) rfl rfl (Nat.lt_of_sub_eq_succ rfl) ?_
  exact kk _ (mk_st.of hrl)
set_option maxRecDepth 100000 in
set_option maxHeartbeats 4000000 in
theorem b_SP_init_44 {l : Launch} {G : jj_G} {d : Nat} {F : jj_O → jj_H → Prop} {h : jj_H} {r : Nat} {u0 u1 u2 u3 u4 : Value} (hG : jj_tyG G) (hdd : 2 ≤ d) (hrl : r < h.2.1) (hrr : h.1 r = some (.inr (3, [u0, u1, u2, u3, u4]))) (kk : ∀ h' : jj_H, mk_st G h r 3 [u0, u1, .ref h.2.1, u3, u4] 1 512 h' → jj_P l G y_SP_init d F 58 [some (.ref r), none] [] h') : jj_P l G y_SP_init d F 44 [some (.ref r), none] [] h := by
  refine jj_aload_n (j := 0) (by decide +kernel) rfl ?_
  refine jj_new (fs := [.null, .int 0]) ck_IR cl_SP_9 ni_IR it_IR (by intro j hj; rcases (show j = 0 ∨ j = 1 by omega) with rfl | rfl <;> rfl) (by decide +kernel) ?_
  refine jj_dup (by decide +kernel) rfl ?_
  refine jj_sipush (n := 512) (v := nI 512) (by decide +kernel) (by decide) ?_
  refine jj_callr (c_IR_init (d := d - 1) hG (by decide) (by decide) jj_up_self (Nat.lt_succ_self _) (by omega)) (fun o1 h1 hC => jj_callI ok_IR_init rfl rfl rfl ml_SP_11 im_IR_init (by decide +kernel) rfl (by omega) (Nat.le_of_ble_eq_true rfl) hC) (by rintro E h1 ⟨q, -⟩; cases q) ?_
  rintro v h1 ⟨hv, rfl⟩
  cases hv
  refine jj_putfinal 2 ck_SP fl_SP_26 (by decide) rfl rfl rfl (by decide +kernel) ((jj_up_ne (Nat.ne_of_lt hrl)).trans ((jj_up_ne (by show r ≠ h.2.1 + 1; omega)).trans ((jj_up_ne (Nat.ne_of_lt hrl)).trans hrr))) rfl rfl (Nat.lt_of_sub_eq_succ rfl) ?_
  exact kk _ (mk_st.of hrl)
/-- the spellings alone as a system, just made: object r, rows at n, n + 2, n + 4, n + 6 -/
def sp_A (r n : Nat) : Nat → Nat := fun i => if i = 1 then n else if i = 2 then n + 2 else if i = 3 then n + 6 else if i = 4 then n + 4 else r
def sp_w (r n : Nat) : Nat → Nat := fun q => if q = r then 10 else if q = n ∨ q = n + 1 then 1 else if q = n + 2 ∨ q = n + 3 then 2 else if q = n + 4 ∨ q = n + 5 then 4 else if q = n + 6 ∨ q = n + 7 then 3 else 13
def sp_c : Nat → Nat := fun t => if t = 1 ∨ t = 3 then 512 else if t = 2 ∨ t = 4 then 64 else 0
theorem sp_made {G : jj_G} {h h' : jj_H} {r : Nat} {x : Int32} (hrl : r < h.2.1) (h0 : h'.1 r = some (.inr (3, [.ref h.2.1, .ref (h.2.1 + 2), .ref (h.2.1 + 6), .ref (h.2.1 + 4), .int x]))) (h1 : mk_row G h' 1 h.2.1 512) (h2 : mk_row G h' 1 (h.2.1 + 2) 64) (h3 : mk_row G h' 1 (h.2.1 + 4) 64) (h4 : mk_row G h' 1 (h.2.1 + 6) 512) (h5 : ∀ q, q < h.2.1 → q ≠ r → h'.1 q = h.1 q) (h6 : h'.2 = (h.2.1 + 8, h.2.2 + 1160)) : Sy G (h, (fun q => q = r), sp_A r h.2.1, h.2.1, h.2.2, true) 0 0 0 h' := by
  have e1 : h'.2.1 = h.2.1 + 8 := by rw [h6]
  have e2 : h'.2.2 = h.2.2 + 1160 := by rw [h6]
  refine ⟨sp_w r h.2.1, sp_c, ?_, ?_, ⟨fun q => ?_, ⟨x, h0⟩, fun q => ?_, fun q => ?_⟩, ?_, ?_, h5, ?_, ?_, ?_, ?_⟩
  · intro t ht hon
    rcases (show t = 1 ∨ t = 2 ∨ t = 3 ∨ t = 4 by have := hon rfl; omega) with rfl | rfl | rfl | rfl
    · exact ⟨h.2.1 + 1, fun _ => 0, 0, h1.1, h1.2, by decide, by decide, by decide, by decide, by unfold sp_w; rw [if_neg (by omega), if_pos (by omega)], by omega, by show h.2.1 ≠ _; omega, fun q => absurd q (by decide)⟩
    · exact ⟨h.2.1 + 2 + 1, fun _ => 0, 0, h2.1, h2.2, by decide, by decide, by decide, by decide, by unfold sp_w; rw [if_neg (by omega), if_neg (by omega), if_pos (by omega)], by omega, by show h.2.1 + 2 ≠ _; omega, fun q => absurd q (by decide)⟩
    · exact ⟨h.2.1 + 6 + 1, fun _ => 0, 0, h4.1, h4.2, by decide, by decide, by decide, by decide, by unfold sp_w; rw [if_neg (by omega), if_neg (by omega), if_neg (by omega), if_neg (by omega), if_pos (by omega)], by omega, by show h.2.1 + 6 ≠ _; omega, fun q => absurd q (by decide)⟩
    · exact ⟨h.2.1 + 4 + 1, fun _ => 0, 0, h3.1, h3.2, by decide, by decide, by decide, by decide, by unfold sp_w; rw [if_neg (by omega), if_neg (by omega), if_neg (by omega), if_pos (by omega)], by omega, by show h.2.1 + 4 ≠ _; omega, fun q => absurd q (by decide)⟩
  · intro t h7 ht hon
    have := hon rfl
    omega
  · exact absurd (q rfl) (by decide)
  · exact absurd (q rfl) (by decide)
  · exact absurd (q rfl) (by decide)
  · intro i hi hon
    rcases hon rfl with rfl | rfl | rfl | rfl | rfl
    · exact ⟨show sp_w r h.2.1 h.2.1 = 1 by unfold sp_w; rw [if_neg (by omega), if_pos (by omega)], show h.2.1 < _ by omega⟩
    · exact ⟨show sp_w r h.2.1 (h.2.1 + 2) = 2 by unfold sp_w; rw [if_neg (by omega), if_neg (by omega), if_pos (by omega)], show h.2.1 + 2 < _ by omega⟩
    · exact ⟨show sp_w r h.2.1 (h.2.1 + 6) = 3 by unfold sp_w; rw [if_neg (by omega), if_neg (by omega), if_neg (by omega), if_neg (by omega), if_pos (by omega)], show h.2.1 + 6 < _ by omega⟩
    · exact ⟨show sp_w r h.2.1 (h.2.1 + 4) = 4 by unfold sp_w; rw [if_neg (by omega), if_neg (by omega), if_neg (by omega), if_pos (by omega)], show h.2.1 + 4 < _ by omega⟩
    · exact ⟨show sp_w r h.2.1 r = 10 by unfold sp_w; rw [if_pos rfl], show r < _ by omega⟩
  · intro q hq hlt
    have hlt2 : q < h.2.1 := hlt
    by_cases e : q = r
    · exact e
    · exfalso
      unfold sp_w at hq
      rw [if_neg e, if_neg (by omega), if_neg (by omega), if_neg (by omega), if_neg (by omega)] at hq
      omega
  · show h.2.1 ≤ h'.2.1
    omega
  · show 64 * h'.2.1 ≤ 64 * (h.2.1 + 0) + sy_sum sp_c
    have : sy_sum sp_c = 1152 := by decide
    omega
  · show h'.2.2 ≤ h.2.2 + 6 * 0 + 2 * sy_sum sp_c
    have : sy_sum sp_c = 1152 := by decide
    omega
  · intro t ht hno
    unfold sp_c
    rw [if_neg (fun q => hno (sy_p (by omega))), if_neg (fun q => hno (sy_p (by omega)))]
set_option maxRecDepth 100000 in
set_option maxHeartbeats 4000000 in
theorem b_SP_init_60 {l : Launch} {G : jj_G} {X : sy_X} {K o N d : Nat} (hG : jj_tyG G) (hdd : 11 ≤ d) : ∀ (n : Nat) (x1 : Int32) (h : jj_H), (2147483647 - x1.toInt).toNat < n → Sy G X K o N h → jj_P l G y_SP_init d (sy_F 0 false G X K o N) 60 [some (.ref (X.2.2.1 10)), some (.int x1)] [] h := by
  intro n
  induction n with
  | zero => intro x1 h hn; exact absurd hn (Nat.not_lt_zero _)
  | succ n ih =>
    intro x1 h hn hs
    refine jj_iload_n (j := 1) (by decide +kernel) rfl ?_
    refine jj_sipush (n := 512) (v := 512) (by decide +kernel) (by decide) ?_
    refine jj_icmp_ge (off := 17) (tgt := 81) (by decide +kernel) (by decide) (fun c1 => ?_) (fun c1 => ?_)
    · refine jj_aload_n (j := 0) (by decide +kernel) rfl ?_
      refine sy_cv (s_SP_reset (d := d - 1) hG (by omega) hs) (fun o1 h1 hC => jj_callV ok_SP_reset ml_SP_32 im_SP_reset se_SP_SP_reset (by decide +kernel) hs.rcSP rfl (by omega) (Nat.le_of_ble_eq_true rfl) hC) rfl (fun q => by cases q) (fun h hs => ?_)
      exact jj_vret (by decide +kernel) rfl ⟨rfl, hs⟩
    · have hdec := up_lt (Int32.not_le.mp c1) hn
      refine jj_aload_n (j := 0) (by decide +kernel) rfl ?_
      obtain ⟨mi, hg⟩ := hs.sp
      refine jj_getfield 2 ck_SP fl_SP_26 (by decide) (by decide +kernel) hg rfl ?_
      refine jj_iconst (n := (-1)) (v := (-1)) (by decide +kernel) (by decide) ?_
      refine sy_cv (s_row_add (d := d - 1) (t := 3) hG hs (by decide) (sy_p (by decide)) (by decide) (by omega)) (fun o1 h1 hC => jj_callV ok_IR_add ml_SP_29 im_IR_add se_IR_IR_add (by decide +kernel) (hs.rcR (t := 3) (by decide) (sy_p (by decide))) rfl (by omega) (Nat.le_of_ble_eq_true rfl) hC) rfl (fun q => by cases q) (fun h hs => ?_)
      refine jj_iinc (i := 1) (n := 1) (by decide +kernel) rfl rfl (by decide) rfl ?_
      refine jj_goto (off := (-18)) (tgt := 60) (by decide +kernel) (by decide) ?_
      exact jj_wk (js_s (js_s js_0)) (ih _ _ hdec hs)
set_option maxRecDepth 100000 in
set_option maxHeartbeats 4000000 in
theorem c_SP_init {l : Launch} {G : jj_G} {d : Nat} {h : jj_H} {r : Nat} {u0 u1 u2 u3 : Value} {x : Int32} (hG : jj_tyG G) (hrr : h.1 r = some (.inr (3, [u0, u1, u2, u3, .int x]))) (hrl : r < h.2.1) (hdd : 11 ≤ d) : jj_Q l G y_SP_init d [.ref r] h (fun out h' => out = .inl none ∧ Sy G (h, (fun q => q = r), sp_A r h.2.1, h.2.1, h.2.2, true) 0 0 0 h') := by
  refine jj_Q.of (by decide +kernel) (Nat.le_of_ble_eq_true rfl) ?_
  refine jj_aload_n (j := 0) (by decide +kernel) rfl ?_
  refine jj_objInit ml_SP_3 im_JO cw_JO (by decide +kernel) (by omega) (by decide) ?_
  refine b_SP_init_4 hG (by omega) hrl hrr (fun ha ⟨a1, a2, a3, a4⟩ => ?_)
  have za : ha.2.1 = h.2.1 + 2 := by rw [a4]
  refine b_SP_init_18 hG (by omega) (by omega) a1 (fun hb ⟨b1, b2, b3, b4⟩ => ?_)
  have zb : hb.2.1 = h.2.1 + 4 := by rw [b4]; show ha.2.1 + 2 = _; omega
  refine b_SP_init_31 hG (by omega) (by omega) b1 (fun hc ⟨c1, c2, c3, c4⟩ => ?_)
  have zc : hc.2.1 = h.2.1 + 6 := by rw [c4]; show hb.2.1 + 2 = _; omega
  refine b_SP_init_44 hG (by omega) (by omega) c1 (fun hd ⟨d1, d2, d3, d4⟩ => ?_)
  have zd : hd.2.1 = h.2.1 + 8 := by rw [d4]; show hc.2.1 + 2 = _; omega
  have sd : hd.2.2 = h.2.2 + 1160 := by
    rw [d4]
    show hc.2.2 + 2 + 512 = _
    rw [c4]
    show hb.2.2 + 2 + 64 + 2 + 512 = _
    rw [b4]
    show ha.2.2 + 2 + 64 + 2 + 64 + 2 + 512 = _
    rw [a4]
  rw [za] at b2 b1 c1 d1
  rw [zb] at c2 c1 d1
  rw [zc] at d2 d1
  have hS : Sy G (h, (fun q => q = r), sp_A r h.2.1, h.2.1, h.2.2, true) 0 0 0 hd := by
    refine sp_made hrl d1 ?_ ?_ ?_ d2 ?_ (Prod.ext zd sd)
    · exact ((a2.keep (b3 _ (by omega) (by omega)) (b3 _ (by omega) (by omega))).keep (c3 _ (by omega) (by omega)) (c3 _ (by omega) (by omega))).keep (d3 _ (by omega) (by omega)) (d3 _ (by omega) (by omega))
    · exact (b2.keep (c3 _ (by omega) (by omega)) (c3 _ (by omega) (by omega))).keep (d3 _ (by omega) (by omega)) (d3 _ (by omega) (by omega))
    · exact c2.keep (d3 _ (by omega) (by omega)) (d3 _ (by omega) (by omega))
    · intro q hq hne
      exact (d3 q (by omega) hne).trans ((c3 q (by omega) hne).trans ((b3 q (by omega) hne).trans (a3 q hq hne)))
  refine jj_iconst (n := 0) (v := 0) (by decide +kernel) (by decide) ?_
  refine jj_istore_n (j := 1) (by decide +kernel) (by decide) rfl ?_
  refine jj_P.imp (F := sy_F 0 false G (h, (fun q => q = r), sp_A r h.2.1, h.2.1, h.2.2, true) 0 0 0) ?_ ?_
  · exact jj_wk (js_s (js_s js_0)) (b_SP_init_60 (X := (h, (fun q => q = r), sp_A r h.2.1, h.2.1, h.2.2, true)) hG hdd _ _ _ (Nat.lt_succ_self _) hS)
  · intro out h9 hP
    cases out with
    | inl v =>
      cases v with
      | none => exact ⟨rfl, hP.2⟩
      | some v =>
        cases v with
        | int v =>
          obtain ⟨q | ⟨q, -⟩ | ⟨q, -⟩, -⟩ := hP <;> exact absurd q (by decide)
        | _ => exact hP.elim
    | inr E => exact absurd hP.1 (by decide)
end
section
theorem Sy.frame {G : jj_G} {X : sy_X} {K o N : Nat} {h : jj_H} (hs : Sy G X K o N h) : X.1.2.1 ≤ h.2.1 ∧ ∀ q, q < X.1.2.1 → ¬ X.2.1 q → h.1 q = X.1.1 q := by
  obtain ⟨w, c, hs⟩ := hs
  exact ⟨hs.2.2.2.2.2.2.1, hs.2.2.2.2.2.1⟩
set_option maxRecDepth 100000 in
set_option maxHeartbeats 4000000 in
theorem b_ST_init_4 {l : Launch} {G : jj_G} {d : Nat} {F : jj_O → jj_H → Prop} {h : jj_H} {r : Nat} {u0 u1 u2 u3 u4 u5 : Value} (hG : jj_tyG G) (hdd : 2 ≤ d) (hrl : r < h.2.1) (hrr : h.1 r = some (.inr (0, [u0, u1, u2, u3, u4, u5]))) (kk : ∀ h' : jj_H, mk_st G h r 0 [.ref h.2.1, u1, u2, u3, u4, u5] 1 64 h' → jj_P l G y_ST_init d F 17 [some (.ref r), none] [] h') : jj_P l G y_ST_init d F 4 [some (.ref r), none] [] h := by
  refine jj_aload_n (j := 0) (by decide +kernel) rfl ?_
  refine jj_new (fs := [.null, .int 0]) ck_IR cl_ST_9 ni_IR it_IR (by intro j hj; rcases (show j = 0 ∨ j = 1 by omega) with rfl | rfl <;> rfl) (by decide +kernel) ?_
  refine jj_dup (by decide +kernel) rfl ?_
  refine jj_bipush (n := 64) (v := nI 64) (by decide +kernel) (by decide) ?_
  refine jj_callr (c_IR_init (d := d - 1) hG (by decide) (by decide) jj_up_self (Nat.lt_succ_self _) (by omega)) (fun o1 h1 hC => jj_callI ok_IR_init rfl rfl rfl ml_ST_11 im_IR_init (by decide +kernel) rfl (by omega) (Nat.le_of_ble_eq_true rfl) hC) (by rintro E h1 ⟨q, -⟩; cases q) ?_
  rintro v h1 ⟨hv, rfl⟩
  cases hv
  refine jj_putfinal 0 ck_ST fl_ST_14 (by decide) rfl rfl rfl (by decide +kernel) ((jj_up_ne (Nat.ne_of_lt hrl)).trans ((jj_up_ne (by show r ≠ h.2.1 + 1; omega)).trans ((jj_up_ne (Nat.ne_of_lt hrl)).trans hrr))) rfl rfl (Nat.lt_of_sub_eq_succ rfl) ?_
  exact kk _ (mk_st.of hrl)
set_option maxRecDepth 100000 in
set_option maxHeartbeats 4000000 in
theorem b_ST_init_17 {l : Launch} {G : jj_G} {d : Nat} {F : jj_O → jj_H → Prop} {h : jj_H} {r : Nat} {u0 u1 u2 u3 u4 u5 : Value} (hG : jj_tyG G) (hdd : 13 ≤ d) (hrl : r < h.2.1) (hrr : h.1 r = some (.inr (0, [u0, u1, u2, u3, u4, u5]))) (kk : ∀ h3 : jj_H, Sy G ((jj_up h.1 h.2.1 (.inr (3, [.null, .null, .null, .null, .int 0])), h.2.1 + 1, h.2.2 + 5), (fun q => q = h.2.1), sp_A h.2.1 (h.2.1 + 1), h.2.1 + 1, h.2.2 + 5, true) 0 0 0 h3 → jj_P l G y_ST_init d F 28 [some (.ref r), none] [] (jj_up h3.1 r (.inr (0, [u0, .ref h.2.1, u2, u3, u4, u5])), h3.2)) : jj_P l G y_ST_init d F 17 [some (.ref r), none] [] h := by
  refine jj_aload_n (j := 0) (by decide +kernel) rfl ?_
  refine jj_new (fs := [.null, .null, .null, .null, .int 0]) ck_SP cl_ST_18 ni_SP it_SP (by intro j hj; rcases (show j = 0 ∨ j = 1 ∨ j = 2 ∨ j = 3 ∨ j = 4 by omega) with rfl | rfl | rfl | rfl | rfl <;> rfl) (by decide +kernel) ?_
  refine jj_dup (by decide +kernel) rfl ?_
  refine jj_callr (c_SP_init (d := d - 1) hG jj_up_self (Nat.lt_succ_self _) (by omega)) (fun o1 h1 hC => jj_callI ok_SP_init rfl rfl rfl ml_ST_20 im_SP_init (by decide +kernel) rfl (by omega) (Nat.le_of_ble_eq_true rfl) hC) (by rintro E h1 ⟨q, -⟩; cases q) ?_
  rintro v h1 ⟨hv, hS⟩
  cases hv
  have hrr2 : h1.1 r = some (.inr (0, [u0, u1, u2, u3, u4, u5])) := (hS.frame.2 r (Nat.lt_succ_of_lt hrl) (Nat.ne_of_lt hrl)).trans ((jj_up_ne (Nat.ne_of_lt hrl)).trans hrr)
  refine jj_putfinal 1 ck_ST fl_ST_21 (by decide) rfl rfl rfl (by decide +kernel) hrr2 rfl rfl (Nat.lt_of_sub_eq_succ rfl) ?_
  exact kk h1 hS
set_option maxRecDepth 100000 in
set_option maxHeartbeats 4000000 in
theorem b_ST_init_28 {l : Launch} {G : jj_G} {d : Nat} {F : jj_O → jj_H → Prop} {h : jj_H} {r : Nat} {u0 u1 u2 u3 u4 u5 : Value} (hG : jj_tyG G) (hdd : 2 ≤ d) (hrl : r < h.2.1) (hrr : h.1 r = some (.inr (0, [u0, u1, u2, u3, u4, u5]))) (kk : ∀ h' : jj_H, mk_st G h r 0 [u0, u1, .ref h.2.1, u3, u4, u5] 2 192 h' → jj_P l G y_ST_init d F 39 [some (.ref r), none] [] h') : jj_P l G y_ST_init d F 28 [some (.ref r), none] [] h := by
  refine jj_aload_n (j := 0) (by decide +kernel) rfl ?_
  refine jj_new (fs := [.null, .int 0]) ck_TB cl_ST_25 ni_TB it_TB (by intro j hj; rcases (show j = 0 ∨ j = 1 by omega) with rfl | rfl <;> rfl) (by decide +kernel) ?_
  refine jj_dup (by decide +kernel) rfl ?_
  refine jj_callr (c_TB_init (d := d - 1) hG jj_up_self (Nat.lt_succ_self _) (by omega)) (fun o1 h1 hC => jj_callI ok_TB_init rfl rfl rfl ml_ST_27 im_TB_init (by decide +kernel) rfl (by omega) (Nat.le_of_ble_eq_true rfl) hC) (by rintro E h1 ⟨q, -⟩; cases q) ?_
  rintro v h1 ⟨hv, rfl⟩
  cases hv
  refine jj_putfinal 2 ck_ST fl_ST_28 (by decide) rfl rfl rfl (by decide +kernel) ((jj_up_ne (Nat.ne_of_lt hrl)).trans ((jj_up_ne (by show r ≠ h.2.1 + 1; omega)).trans ((jj_up_ne (Nat.ne_of_lt hrl)).trans hrr))) rfl rfl (Nat.lt_of_sub_eq_succ rfl) ?_
  exact kk _ (mk_st.of hrl)
set_option maxRecDepth 100000 in
set_option maxHeartbeats 4000000 in
theorem b_ST_init_39 {l : Launch} {G : jj_G} {d : Nat} {F : jj_O → jj_H → Prop} {h : jj_H} {r : Nat} {u0 u1 u2 u3 u4 u5 : Value} (hG : jj_tyG G) (hdd : 2 ≤ d) (hrl : r < h.2.1) (hrr : h.1 r = some (.inr (0, [u0, u1, u2, u3, u4, u5]))) (kk : ∀ h' : jj_H, mk_row G h' 2 h.2.1 192 → (∀ q, q < h.2.1 → h'.1 q = h.1 q) → h'.2 = (h.2.1 + 2, h.2.2 + 194) → jj_P l G y_ST_init d F 47 [some (.ref r), some (.ref h.2.1)] [] h') : jj_P l G y_ST_init d F 39 [some (.ref r), none] [] h := by
  refine jj_new (fs := [.null, .int 0]) ck_TB cl_ST_25 ni_TB it_TB (by intro j hj; rcases (show j = 0 ∨ j = 1 by omega) with rfl | rfl <;> rfl) (by decide +kernel) ?_
  refine jj_dup (by decide +kernel) rfl ?_
  refine jj_callr (c_TB_init (d := d - 1) hG jj_up_self (Nat.lt_succ_self _) (by omega)) (fun o1 h1 hC => jj_callI ok_TB_init rfl rfl rfl ml_ST_27 im_TB_init (by decide +kernel) rfl (by omega) (Nat.le_of_ble_eq_true rfl) hC) (by rintro E h1 ⟨q, -⟩; cases q) ?_
  rintro v h1 ⟨hv, rfl⟩
  cases hv
  refine jj_astore_n (j := 1) (by decide +kernel) (by decide) rfl ?_
  exact kk _ ⟨jj_up_self, (jj_up_ne (Nat.succ_ne_self _)).trans jj_up_self⟩ (fun q hq => (jj_up_ne (Nat.ne_of_lt hq)).trans ((jj_up_ne (Nat.ne_of_lt (Nat.lt_succ_of_lt hq))).trans (jj_up_ne (Nat.ne_of_lt hq)))) rfl
set_option maxRecDepth 100000 in
set_option maxHeartbeats 4000000 in
theorem b_ST_init_47 {l : Launch} {G : jj_G} {d : Nat} {F : jj_O → jj_H → Prop} {h : jj_H} {r a b c t : Nat} {u3 u4 u5 : Value} (hdd : 2 ≤ d) (hrl : r < h.2.1) (hrr : h.1 r = some (.inr (0, [.ref a, .ref b, .ref c, u3, u4, u5]))) (kk : ∀ h' : jj_H, h'.1 r = some (.inr (0, [.ref a, .ref b, .ref c, .ref h.2.1, u4, u5])) → h'.1 h.2.1 = some (.inr (4, [.ref a, .ref b, .ref t, .int (-1)])) → (∀ q, q < h.2.1 → q ≠ r → h'.1 q = h.1 q) → h'.2 = (h.2.1 + 1, h.2.2 + 4) → jj_P l G y_ST_init d F 67 [some (.ref r), some (.ref t)] [] h') : jj_P l G y_ST_init d F 47 [some (.ref r), some (.ref t)] [] h := by
  refine jj_aload_n (j := 0) (by decide +kernel) rfl ?_
  refine jj_new (fs := [.null, .null, .null, .int 0]) ck_SC cl_ST_32 ni_SC it_SC (by intro j hj; rcases (show j = 0 ∨ j = 1 ∨ j = 2 ∨ j = 3 by omega) with rfl | rfl | rfl | rfl <;> rfl) (by decide +kernel) ?_
  refine jj_dup (by decide +kernel) rfl ?_
  have hrr2 := (jj_up_ne (f := h.1) (a := h.2.1) (e := .inr (4, [.null, .null, .null, .int 0])) (Nat.ne_of_lt hrl)).trans hrr
  refine jj_aload_n (j := 0) (by decide +kernel) rfl ?_
  refine jj_getfield 0 ck_ST fl_ST_14 (by decide) (by decide +kernel) hrr2 rfl ?_
  refine jj_aload_n (j := 0) (by decide +kernel) rfl ?_
  refine jj_getfield 1 ck_ST fl_ST_21 (by decide) (by decide +kernel) hrr2 rfl ?_
  refine jj_aload_n (j := 1) (by decide +kernel) rfl ?_
  refine jj_callr (c_SC_init (d := d - 1) jj_up_self (by omega)) (fun o1 h1 hC => jj_callI ok_SC_init rfl rfl rfl ml_ST_34 im_SC_init (by decide +kernel) rfl (by omega) (Nat.le_of_ble_eq_true rfl) hC) (by rintro E h1 ⟨q, -⟩; cases q) ?_
  rintro v h1 ⟨hv, rfl⟩
  cases hv
  rw [jj_up_up]
  have hrr3 := (jj_up_ne (f := h.1) (a := h.2.1) (e := .inr (4, [.ref a, .ref b, .ref t, .int (-1)])) (Nat.ne_of_lt hrl)).trans hrr
  refine jj_putfinal 3 ck_ST fl_ST_37 (by decide) rfl rfl rfl (by decide +kernel) hrr3 rfl rfl (Nat.lt_of_sub_eq_succ rfl) ?_
  exact kk _ jj_up_self ((jj_up_ne (Nat.ne_of_gt hrl)).trans jj_up_self) (fun q hq hne => (jj_up_ne hne).trans (jj_up_ne (Nat.ne_of_lt hq))) rfl
set_option maxRecDepth 100000 in
set_option maxHeartbeats 4000000 in
theorem b_ST_init_67 {l : Launch} {G : jj_G} {d : Nat} {F : jj_O → jj_H → Prop} {h : jj_H} {r a b c t s : Nat} {u4 u5 : Value} (hG : jj_tyG G) (hdd : 5 ≤ d) (hrl : r < h.2.1) (hrr : h.1 r = some (.inr (0, [.ref a, .ref b, .ref c, .ref s, u4, u5]))) (kk : ∀ h' : jj_H, h'.1 r = some (.inr (0, [.ref a, .ref b, .ref c, .ref s, .ref h.2.1, .int (-1)])) → h'.1 h.2.1 = some (.inr (5, [.ref a, .ref (h.2.1 + 1), .ref (h.2.1 + 3), .int (-1), .int 0, .int 0, .int 0, .int (-1), .ref t, .ref c, .int 0, .int (nI 0)])) → mk_row G h' 1 (h.2.1 + 1) 64 → mk_row G h' 1 (h.2.1 + 3) 64 → (∀ q, q < h.2.1 → q ≠ r → h'.1 q = h.1 q) → h'.2 = (h.2.1 + 5, h.2.2 + 144) → F (.inl none) h') : jj_P l G y_ST_init d F 67 [some (.ref r), some (.ref t)] [] h := by
  refine jj_aload_n (j := 0) (by decide +kernel) rfl ?_
  refine jj_new (fs := [.null, .null, .null, .int 0, .int 0, .int 0, .int 0, .int 0, .null, .null, .int 0, .int 0]) ck_GR cl_ST_41 ni_GR it_GR (by intro j hj; rcases (show j = 0 ∨ j = 1 ∨ j = 2 ∨ j = 3 ∨ j = 4 ∨ j = 5 ∨ j = 6 ∨ j = 7 ∨ j = 8 ∨ j = 9 ∨ j = 10 ∨ j = 11 by omega) with rfl | rfl | rfl | rfl | rfl | rfl | rfl | rfl | rfl | rfl | rfl | rfl <;> rfl) (by decide +kernel) ?_
  refine jj_dup (by decide +kernel) rfl ?_
  have hrr2 := (jj_up_ne (f := h.1) (a := h.2.1) (e := .inr (5, [.null, .null, .null, .int 0, .int 0, .int 0, .int 0, .int 0, .null, .null, .int 0, .int 0])) (Nat.ne_of_lt hrl)).trans hrr
  refine jj_aload_n (j := 0) (by decide +kernel) rfl ?_
  refine jj_getfield 0 ck_ST fl_ST_14 (by decide) (by decide +kernel) hrr2 rfl ?_
  refine jj_aload_n (j := 1) (by decide +kernel) rfl ?_
  refine jj_aload_n (j := 0) (by decide +kernel) rfl ?_
  refine jj_getfield 2 ck_ST fl_ST_28 (by decide) (by decide +kernel) hrr2 rfl ?_
  refine jj_callr (c_GR_init (d := d - 1) hG jj_up_self (Nat.lt_succ_self _) (by omega)) (fun o1 h1 hC => jj_callI ok_GR_init rfl rfl rfl ml_ST_43 im_GR_init (by decide +kernel) rfl (by omega) (Nat.le_of_ble_eq_true rfl) hC) (by rintro E h1 ⟨q, -⟩; cases q) ?_
  rintro v h1 ⟨hv, g1, g2, g3, g4, g5, g6, g7⟩
  cases hv
  have hrr3 : h1.1 r = some (.inr (0, [.ref a, .ref b, .ref c, .ref s, u4, u5])) := (g6 r (Nat.lt_succ_of_lt hrl) (Nat.ne_of_lt hrl)).trans hrr2
  refine jj_putfinal 4 ck_ST fl_ST_46 (by decide) rfl rfl rfl (by decide +kernel) hrr3 rfl rfl (Nat.lt_of_sub_eq_succ rfl) ?_
  refine jj_aload_n (j := 0) (by decide +kernel) rfl ?_
  refine jj_iconst (n := (-1)) (v := (-1)) (by decide +kernel) (by decide) ?_
  refine jj_putfield 5 ck_ST fl_ST_50 (by decide) rfl (by decide +kernel) jj_up_self rfl rfl (Nat.lt_of_sub_eq_succ rfl) ?_
  refine jj_vret (by decide +kernel) rfl ?_
  rw [jj_up_up]
  refine kk _ jj_up_self ((jj_up_ne (by omega)).trans g1) ⟨(jj_up_ne (by omega)).trans g2, (jj_up_ne (by omega)).trans g3⟩ ⟨(jj_up_ne (by omega)).trans g4, (jj_up_ne (by omega)).trans g5⟩ (fun q hq hne => (jj_up_ne hne).trans ((g6 q (Nat.lt_succ_of_lt hq) (Nat.ne_of_lt hq)).trans (jj_up_ne (Nat.ne_of_lt hq)))) ?_
  show h1.2 = _
  rw [g7]
/-! the whole system, just made -/
def st_A (r n p : Nat) : Nat → Nat := fun i => if i = 0 then n else if i ≤ 4 then sp_A (n + 2) (n + 3) i else if i = 5 then p + 6 else if i = 6 then p + 8 else if i = 7 then p else if i = 8 then p + 2 else if i = 9 then r else if i = 10 then n + 2 else if i = 11 then p + 4 else p + 5
def st_w (r n p : Nat) (w : Nat → Nat) : Nat → Nat := fun q => if q = r then 9 else if q = n ∨ q = n + 1 then 0 else if q < p then w q else if q = p ∨ q = p + 1 then 7 else if q = p + 2 ∨ q = p + 3 then 8 else if q = p + 4 then 11 else if q = p + 5 then 12 else if q = p + 6 ∨ q = p + 7 then 5 else if q = p + 8 ∨ q = p + 9 then 6 else 13
def st_c (c : Nat → Nat) : Nat → Nat := fun t => if t = 0 then 64 else if t ≤ 4 then c t else if t ≤ 6 then 64 else 192
theorem st_made {G : jj_G} {h h1 h3 h' : jj_H} {r : Nat} {x : Int32} (hrl : r < h.2.1) (q1 : h1.2 = (h.2.1 + 2, h.2.2 + 66)) (hS : Sy G ((jj_up h1.1 h1.2.1 (.inr (3, [.null, .null, .null, .null, .int 0])), h1.2.1 + 1, h1.2.2 + 5), (fun q => q = h1.2.1), sp_A h1.2.1 (h1.2.1 + 1), h1.2.1 + 1, h1.2.2 + 5, true) 0 0 0 h3)
    (f1 : h'.1 r = some (.inr (0, [.ref h.2.1, .ref (h.2.1 + 2), .ref h3.2.1, .ref (h3.2.1 + 4), .ref (h3.2.1 + 5), .int x]))) (f2 : mk_row G h' 1 h.2.1 64) (f3 : ∀ q, h.2.1 + 2 ≤ q → q < h3.2.1 → h'.1 q = h3.1 q) (f4 : mk_row G h' 2 h3.2.1 192) (f5 : mk_row G h' 2 (h3.2.1 + 2) 192)
    (f6 : h'.1 (h3.2.1 + 4) = some (.inr (4, [.ref h.2.1, .ref (h.2.1 + 2), .ref (h3.2.1 + 2), .int (-1)]))) (f7 : h'.1 (h3.2.1 + 5) = some (.inr (5, [.ref h.2.1, .ref (h3.2.1 + 6), .ref (h3.2.1 + 8), .int (-1), .int 0, .int 0, .int 0, .int (-1), .ref (h3.2.1 + 2), .ref h3.2.1, .int 0, .int (nI 0)]))) (f8 : mk_row G h' 1 (h3.2.1 + 6) 64) (f9 : mk_row G h' 1 (h3.2.1 + 8) 64) (f10 : ∀ q, q < h.2.1 → q ≠ r → h'.1 q = h.1 q) (f11 : h'.2 = (h3.2.1 + 10, h3.2.2 + 536)) : Sy G (h, (fun q => q = r), st_A r h.2.1 h3.2.1, h.2.1 + 10, h.2.2, false) 0 0 0 h' := by
  have hn1 : h1.2.1 = h.2.1 + 2 := by rw [q1]
  have hn2 : h1.2.2 = h.2.2 + 66 := by rw [q1]
  rw [hn1, hn2] at hS
  obtain ⟨w, c, s1, s2, ⟨-, ⟨y, s3⟩, -, -⟩, s4, s5, s6, s7, s8, s9, s10⟩ := hS
  have e1 : h'.2.1 = h3.2.1 + 10 := by rw [f11]
  have e2 : h'.2.2 = h3.2.2 + 536 := by rw [f11]
  have s7' : h.2.1 + 3 ≤ h3.2.1 := s7
  have s8' : 64 * h3.2.1 ≤ 64 * (h.2.1 + 3 + 0) + sy_sum c := s8
  have s9' : h3.2.2 ≤ h.2.2 + 66 + 5 + 6 * 0 + 2 * sy_sum c := s9
  have s3' : h3.1 (h.2.1 + 2) = some (.inr (3, [.ref (h.2.1 + 3), .ref (h.2.1 + 5), .ref (h.2.1 + 9), .ref (h.2.1 + 7), .int y])) := s3
  have s5' : ∀ q, w q < 13 → q < h.2.1 + 3 → q = h.2.1 + 2 := s5
  have hw10 : w (h.2.1 + 2) = 10 := (s4 10 (by decide) (sy_p (by decide))).1
  have hA : ∀ t, (t = 1 ∨ t = 2 ∨ t = 3 ∨ t = 4) → sp_A (h.2.1 + 2) (h.2.1 + 3) t = h.2.1 + 3 ∨ sp_A (h.2.1 + 2) (h.2.1 + 3) t = h.2.1 + 5 ∨ sp_A (h.2.1 + 2) (h.2.1 + 3) t = h.2.1 + 9 ∨ sp_A (h.2.1 + 2) (h.2.1 + 3) t = h.2.1 + 7 := by
    rintro t (rfl | rfl | rfl | rfl)
    · exact Or.inl rfl
    · exact Or.inr (Or.inl rfl)
    · exact Or.inr (Or.inr (Or.inl rfl))
    · exact Or.inr (Or.inr (Or.inr rfl))
  have hrow : ∀ t, (t = 1 ∨ t = 2 ∨ t = 3 ∨ t = 4) → sy_row G (st_A r h.2.1 h3.2.1) (st_w r h.2.1 h3.2.1 w) (st_c c) h' 1 1 32768 0 t := by
    intro t ht
    have hon : sy_on ((jj_up h1.1 (h.2.1 + 2) (.inr (3, [.null, .null, .null, .null, .int 0])), h.2.1 + 2 + 1, h.2.2 + 66 + 5), (fun q => q = h.2.1 + 2), sp_A (h.2.1 + 2) (h.2.1 + 2 + 1), h.2.1 + 2 + 1, h.2.2 + 66 + 5, true) t := sy_p (by omega)
    obtain ⟨a, f, n, r1, r2, r3, r4, r5, r6, r7, r8, r9, r10⟩ := s1 t (by omega) hon
    have ht4 := (s4 t (by omega) hon).2
    have hAt : st_A r h.2.1 h3.2.1 t = sp_A (h.2.1 + 2) (h.2.1 + 3) t := by unfold st_A; rw [if_neg (by omega), if_pos (by omega)]
    have hct : st_c c t = c t := by unfold st_c; rw [if_neg (by omega), if_pos (by omega)]
    have hb := hA t ht
    have ha3 : h.2.1 + 3 ≤ a := by
      rcases Nat.lt_or_ge a (h.2.1 + 3) with q | q
      · have h9 := s5' a (by omega) q
        rw [h9, hw10] at r7
        omega
      · exact q
    have r8' : a < h3.2.1 := r8
    have ht4' : sp_A (h.2.1 + 2) (h.2.1 + 3) t < h3.2.1 := ht4
    refine ⟨a, f, n, ?_, ?_, by rw [hct]; exact r3, r4, by rw [hct]; exact r5, by rw [hct]; exact r6, ?_, by omega, by rw [hAt]; exact r9, fun q => by omega⟩
    · rw [hAt]
      exact (f3 _ (by omega) ht4').trans r1
    · rw [hct]
      exact (f3 _ (by omega) r8').trans r2
    · unfold st_w
      rw [if_neg (by omega), if_neg (by omega), if_pos r8']
      exact r7
  have z : ∀ t, t < 9 → ¬ (t = 1 ∨ t = 2 ∨ t = 3 ∨ t = 4) → c t = 0 := by
    intro t ht hno
    exact s10 t ht (fun q => by have := q rfl; omega)
  have hcsum : sy_sum (st_c c) = sy_sum c + 576 := by
    have z0 := z 0 (by decide) (by decide)
    have z5 := z 5 (by decide) (by decide)
    have z6 := z 6 (by decide) (by decide)
    have z7 := z 7 (by decide) (by decide)
    have z8 := z 8 (by decide) (by decide)
    show 64 + c 1 + c 2 + c 3 + c 4 + 64 + 64 + 192 + 192 = c 0 + c 1 + c 2 + c 3 + c 4 + c 5 + c 6 + c 7 + c 8 + 576
    omega
  refine ⟨st_w r h.2.1 h3.2.1 w, st_c c, ?_, ?_, ⟨fun _ => ⟨x, f1⟩, ⟨y, (f3 (h.2.1 + 2) (by omega) (by omega)).trans s3'⟩, fun _ => ⟨_, f6⟩, fun _ => ⟨_, _, _, _, _, _, f7⟩⟩, ?_, ?_, f10, ?_, ?_, ?_, ?_⟩
  · intro t ht _
    rcases (show t = 0 ∨ (t = 1 ∨ t = 2 ∨ t = 3 ∨ t = 4) ∨ t = 5 ∨ t = 6 by omega) with rfl | q | rfl | rfl
    · exact ⟨h.2.1 + 1, fun _ => 0, 0, f2.1, f2.2, by show 1 * 0 ≤ 64; decide, by decide, by show 64 ≤ 64; decide, by show 64 ≤ 200000; decide, by unfold st_w; rw [if_neg (by omega), if_pos (by omega)], by omega, by show h.2.1 ≠ _; omega, fun _ => rfl⟩
    · exact hrow t q
    · exact ⟨h3.2.1 + 6 + 1, fun _ => 0, 0, f8.1, f8.2, by show 1 * 0 ≤ 64; decide, by decide, by show 64 ≤ 64; decide, by show 64 ≤ 200000; decide, by unfold st_w; rw [if_neg (by omega), if_neg (by omega), if_neg (by omega), if_neg (by omega), if_neg (by omega), if_neg (by omega), if_neg (by omega), if_pos (by omega)], by omega, by show h3.2.1 + 6 ≠ _; omega, fun q => by omega⟩
    · exact ⟨h3.2.1 + 8 + 1, fun _ => 0, 0, f9.1, f9.2, by show 1 * 0 ≤ 64; decide, by decide, by show 64 ≤ 64; decide, by show 64 ≤ 200000; decide, by unfold st_w; rw [if_neg (by omega), if_neg (by omega), if_neg (by omega), if_neg (by omega), if_neg (by omega), if_neg (by omega), if_neg (by omega), if_neg (by omega), if_pos (by omega)], by omega, by show h3.2.1 + 8 ≠ _; omega, fun q => by omega⟩
  · intro t h7 ht _
    rcases (show t = 7 ∨ t = 8 by omega) with rfl | rfl
    · exact ⟨h3.2.1 + 1, fun _ => 0, 0, f4.1, f4.2, by show 3 * 0 ≤ 192; decide, by decide, by show 64 ≤ 192; decide, by show 192 ≤ 200000; decide, by unfold st_w; rw [if_neg (by omega), if_neg (by omega), if_neg (by omega), if_pos (by omega)], by omega, by show h3.2.1 ≠ _; omega, fun q => by omega⟩
    · exact ⟨h3.2.1 + 2 + 1, fun _ => 0, 0, f5.1, f5.2, by show 3 * 0 ≤ 192; decide, by decide, by show 64 ≤ 192; decide, by show 192 ≤ 200000; decide, by unfold st_w; rw [if_neg (by omega), if_neg (by omega), if_neg (by omega), if_neg (by omega), if_pos (by omega)], by omega, by show h3.2.1 + 2 ≠ _; omega, fun q => by omega⟩
  · intro i hi _
    rcases (show i = 0 ∨ (i = 1 ∨ i = 2 ∨ i = 3 ∨ i = 4) ∨ i = 5 ∨ i = 6 ∨ i = 7 ∨ i = 8 ∨ i = 9 ∨ i = 10 ∨ i = 11 ∨ i = 12 by omega) with rfl | q | rfl | rfl | rfl | rfl | rfl | rfl | rfl | rfl
    · exact ⟨show st_w r h.2.1 h3.2.1 w h.2.1 = 0 by unfold st_w; rw [if_neg (by omega), if_pos (by omega)], show h.2.1 < _ by omega⟩
    · have hs4 := s4 i hi (sy_p (by omega))
      have hAt : st_A r h.2.1 h3.2.1 i = sp_A (h.2.1 + 2) (h.2.1 + 3) i := by unfold st_A; rw [if_neg (by omega), if_pos (by omega)]
      have hb := hA i q
      have ht4' : sp_A (h.2.1 + 2) (h.2.1 + 3) i < h3.2.1 := hs4.2
      refine ⟨?_, ?_⟩
      · show st_w r h.2.1 h3.2.1 w (st_A r h.2.1 h3.2.1 i) = i
        rw [hAt]
        unfold st_w
        rw [if_neg (by omega), if_neg (by omega), if_pos ht4']
        exact hs4.1
      · show st_A r h.2.1 h3.2.1 i < _
        rw [hAt]
        omega
    · exact ⟨show st_w r h.2.1 h3.2.1 w (h3.2.1 + 6) = 5 by unfold st_w; rw [if_neg (by omega), if_neg (by omega), if_neg (by omega), if_neg (by omega), if_neg (by omega), if_neg (by omega), if_neg (by omega), if_pos (by omega)], show h3.2.1 + 6 < _ by omega⟩
    · exact ⟨show st_w r h.2.1 h3.2.1 w (h3.2.1 + 8) = 6 by unfold st_w; rw [if_neg (by omega), if_neg (by omega), if_neg (by omega), if_neg (by omega), if_neg (by omega), if_neg (by omega), if_neg (by omega), if_neg (by omega), if_pos (by omega)], show h3.2.1 + 8 < _ by omega⟩
    · exact ⟨show st_w r h.2.1 h3.2.1 w h3.2.1 = 7 by unfold st_w; rw [if_neg (by omega), if_neg (by omega), if_neg (by omega), if_pos (by omega)], show h3.2.1 < _ by omega⟩
    · exact ⟨show st_w r h.2.1 h3.2.1 w (h3.2.1 + 2) = 8 by unfold st_w; rw [if_neg (by omega), if_neg (by omega), if_neg (by omega), if_neg (by omega), if_pos (by omega)], show h3.2.1 + 2 < _ by omega⟩
    · exact ⟨show st_w r h.2.1 h3.2.1 w r = 9 by unfold st_w; rw [if_pos rfl], show r < _ by omega⟩
    · exact ⟨show st_w r h.2.1 h3.2.1 w (h.2.1 + 2) = 10 by unfold st_w; rw [if_neg (by omega), if_neg (by omega), if_pos (by omega)]; exact hw10, show h.2.1 + 2 < _ by omega⟩
    · exact ⟨show st_w r h.2.1 h3.2.1 w (h3.2.1 + 4) = 11 by unfold st_w; rw [if_neg (by omega), if_neg (by omega), if_neg (by omega), if_neg (by omega), if_neg (by omega), if_pos (by omega)], show h3.2.1 + 4 < _ by omega⟩
    · exact ⟨show st_w r h.2.1 h3.2.1 w (h3.2.1 + 5) = 12 by unfold st_w; rw [if_neg (by omega), if_neg (by omega), if_neg (by omega), if_neg (by omega), if_neg (by omega), if_neg (by omega), if_pos (by omega)], show h3.2.1 + 5 < _ by omega⟩
  · intro q hq hlt
    have hlt2 : q < h.2.1 := hlt
    by_cases e : q = r
    · exact e
    · exfalso
      unfold st_w at hq
      rw [if_neg e, if_neg (by omega), if_pos (by omega)] at hq
      have h9 := s5' q hq (by omega)
      omega
  · show h.2.1 ≤ h'.2.1
    omega
  · show 64 * h'.2.1 ≤ 64 * (h.2.1 + 10 + 0) + sy_sum (st_c c)
    omega
  · show h'.2.2 ≤ h.2.2 + 6 * 0 + 2 * sy_sum (st_c c)
    omega
  · intro t ht hno
    exact absurd (sy_o rfl) hno

set_option maxRecDepth 100000 in
set_option maxHeartbeats 4000000 in
theorem c_ST_init {l : Launch} {G : jj_G} {d : Nat} {h : jj_H} {r : Nat} {u0 u1 u2 u3 u4 u5 : Value} (hG : jj_tyG G) (hrr : h.1 r = some (.inr (0, [u0, u1, u2, u3, u4, u5]))) (hrl : r < h.2.1) (hdd : 14 ≤ d) : jj_Q l G y_ST_init d [.ref r] h (fun out h' => out = .inl none ∧ ∃ A : Nat → Nat, A 9 = r ∧ Sy G (h, (fun q => q = r), A, h.2.1 + 10, h.2.2, false) 0 0 0 h') := by
  refine jj_Q.of (by decide +kernel) (Nat.le_of_ble_eq_true rfl) ?_
  refine jj_aload_n (j := 0) (by decide +kernel) rfl ?_
  refine jj_objInit ml_ST_3 im_JO cw_JO (by decide +kernel) (by omega) (by decide) ?_
  refine b_ST_init_4 hG (by omega) hrl hrr (fun ha ⟨a1, a2, a3, a4⟩ => ?_)
  have za : ha.2.1 = h.2.1 + 2 := by rw [a4]
  refine b_ST_init_17 hG (by omega) (by omega) a1 (fun h3 hS => ?_)
  have fr := hS.frame
  have fr1 : ha.2.1 + 1 ≤ h3.2.1 := fr.1
  have fr2 : ∀ q, q < ha.2.1 → h3.1 q = ha.1 q := fun q hq => (fr.2 q (Nat.lt_succ_of_lt hq) (Nat.ne_of_lt hq)).trans (jj_up_ne (Nat.ne_of_lt hq))
  refine b_ST_init_28 hG (by omega) (by show r < h3.2.1; omega) jj_up_self (fun hb ⟨b1, b2, b3, b4⟩ => ?_)
  have zb : hb.2.1 = h3.2.1 + 2 := by rw [b4]
  refine b_ST_init_39 hG (by omega) (by omega) b1 (fun hc c2 c3 c4 => ?_)
  have zc : hc.2.1 = h3.2.1 + 4 := by rw [c4]; show hb.2.1 + 2 = _; omega
  refine b_ST_init_47 (by omega) (by omega) ((c3 r (by omega)).trans b1) (fun hd d1 d2 d3 d4 => ?_)
  have zd : hd.2.1 = h3.2.1 + 5 := by rw [d4]; show hc.2.1 + 1 = _; omega
  refine b_ST_init_67 hG (by omega) (by omega) d1 (fun he e1 e2 e3 e4 e5 e6 => ?_)
  have b3' : ∀ q, q < h3.2.1 → q ≠ r → hb.1 q = h3.1 q := fun q hq hne => (b3 q hq hne).trans (jj_up_ne hne)
  refine ⟨rfl, st_A r h.2.1 h3.2.1, rfl, ?_⟩
  have b2' : mk_row G hb 2 h3.2.1 192 := b2
  rw [zb] at c2 d2 e2
  rw [zc] at d1 d2 e1
  rw [zd] at e1 e2 e3 e4
  rw [za] at e1 d2 e2
  have hk : ∀ q, q < h3.2.1 → q ≠ r → he.1 q = h3.1 q := fun q hq hne => (e5 q (by omega) hne).trans ((d3 q (by omega) hne).trans ((c3 q (by omega)).trans (b3' q hq hne)))
  have hk2 : ∀ q, q < ha.2.1 → q ≠ r → he.1 q = ha.1 q := fun q hq hne => (hk q (by omega) hne).trans (fr2 q hq)
  refine st_made hrl a4 hS e1 ?_ ?_ ?_ ?_ ?_ e2 e3 e4 ?_ ?_
  · exact a2.keep (hk2 _ (by omega) (by omega)) (hk2 _ (by omega) (by omega))
  · intro q h9 hq
    exact hk q hq (by omega)
  · exact (b2'.keep (c3 _ (by omega)) (c3 _ (by omega))).keep ((e5 _ (by omega) (by omega)).trans (d3 _ (by omega) (by omega))) ((e5 _ (by omega) (by omega)).trans (d3 _ (by omega) (by omega)))
  · exact c2.keep ((e5 _ (by omega) (by omega)).trans (d3 _ (by omega) (by omega))) ((e5 _ (by omega) (by omega)).trans (d3 _ (by omega) (by omega)))
  · exact (e5 _ (by omega) (by omega)).trans d2
  · intro q hq hne
    exact (hk2 q (by omega) hne).trans (a3 q hq hne)
  · rw [e6, d4, c4, b4]
end
section
/-! the law's own helpers -/
set_option maxRecDepth 100000 in
set_option maxHeartbeats 4000000 in
theorem c_LW_text {l : Launch} {G : jj_G} {X : sy_X} {K o N d : Nat} {h : jj_H} {x y z w : Int32} (hG : sy_G G X) (hN : N ≤ 16384) (hdd : 10 ≤ d) (hs : Sy G X K o N h) : jj_Q l G y_LW_text d [.ref (X.2.2.1 9), .int x, .int y, .int z, .int w] h (fun out h' => (N ≤ 16368 ∧ out = .inl (some (.int 0)) ∧ Sy G X K o (N + 16) h') ∨ (16368 < N ∧ out = .inl (some (.int 1)) ∧ Sy G X (K + 1) o N h')) := by
  refine jj_Q.of (by decide +kernel) (Nat.le_of_ble_eq_true rfl) ?_
  refine jj_aload_n (j := 0) (by decide +kernel) rfl ?_
  refine jj_iload_n (j := 1) (by decide +kernel) rfl ?_
  refine jj_iload_n (j := 2) (by decide +kernel) rfl ?_
  refine jj_iload_n (j := 3) (by decide +kernel) rfl ?_
  refine jj_iload (i := 4) (by decide +kernel) rfl ?_
  obtain ⟨o1, h1, hP, hC⟩ := s_ST_text (l := l) (d := d - 1) (x := x) (y := y) (z := z) (w := w) hG hN (by omega) hs
  have hR : jj_R l G y_LW_text d [.ref (X.2.2.1 9), .int x, .int y, .int z, .int w] h o1 h1 6 [.int w, .int z, .int y, .int x, .ref (X.2.2.1 9)] [] := jj_callV (As := [.int x, .int y, .int z, .int w]) ok_ST_text ml_LW_7 im_ST_text se_ST_ST_text (by decide +kernel) (hs.rcST hG.2) rfl (by omega) (Nat.le_of_ble_eq_true rfl) hC
  rcases hP with ⟨a, rfl, b⟩ | ⟨a, rfl, b⟩
  · refine hR.ret hC.1 ?_
    refine jj_goto (off := 7) (tgt := 16) (by decide +kernel) (by decide) ?_
    refine jj_iconst (n := 0) (v := 0) (by decide +kernel) (by decide) ?_
    exact jj_iret .int (by decide +kernel) rfl rfl (Or.inl ⟨a, rfl, b⟩)
  · refine hR.catchA [] _ [] rfl (by intro z hz; cases hz) (by decide +kernel) (by decide) cl_LW_13 cs_JI_JI (i := 5) (len := 2) (Or.inl ⟨(by decide +kernel), rfl⟩) (by decide) rfl hC.1 ?_
    refine jj_iconst (n := 1) (v := 1) (by decide +kernel) (by decide) ?_
    exact jj_iret .int (by decide +kernel) rfl rfl (Or.inr ⟨a, rfl, b⟩)
set_option maxRecDepth 100000 in
set_option maxHeartbeats 4000000 in
theorem c_LW_cut {l : Launch} {G : jj_G} {X : sy_X} {K o N d : Nat} {h : jj_H} {x : Int32} (hG : sy_G G X) (hN : N ≤ 16384) (hdd : 10 ≤ d) (hs : Sy G X K o N h) : jj_Q l G y_LW_cut d [.ref (X.2.2.1 9), .int x] h (fun out h' => (∃ j : Nat, j ≤ N ∧ x = nI j ∧ out = .inl (some (.int 0)) ∧ Sy G X K o j h') ∨ ((x < 0 ∨ nI N < x) ∧ out = .inl (some (.int 1)) ∧ Sy G X (K + 1) o N h')) := by
  refine jj_Q.of (by decide +kernel) (Nat.le_of_ble_eq_true rfl) ?_
  refine jj_aload_n (j := 0) (by decide +kernel) rfl ?_
  refine jj_iload_n (j := 1) (by decide +kernel) rfl ?_
  obtain ⟨o1, h1, hP, hC⟩ := s_ST_cut (l := l) (d := d - 1) (x := x) hG hN (by omega) hs
  have hR : jj_R l G y_LW_cut d [.ref (X.2.2.1 9), .int x] h o1 h1 2 [.int x, .ref (X.2.2.1 9)] [] := jj_callV (As := [.int x]) ok_ST_cut ml_LW_15 im_ST_cut se_ST_ST_cut (by decide +kernel) (hs.rcST hG.2) rfl (by omega) (Nat.le_of_ble_eq_true rfl) hC
  rcases hP with ⟨j, a, e, rfl, b⟩ | ⟨a, rfl, b⟩
  · refine hR.ret hC.1 ?_
    refine jj_goto (off := 6) (tgt := 11) (by decide +kernel) (by decide) ?_
    refine jj_iconst (n := 0) (v := 0) (by decide +kernel) (by decide) ?_
    exact jj_iret .int (by decide +kernel) rfl rfl (Or.inl ⟨j, a, e, rfl, b⟩)
  · refine hR.catchA [] _ [] rfl (by intro z hz; cases hz) (by decide +kernel) (by decide) cl_LW_19 cs_JG_JG (i := 2) (len := 1) (Or.inr ⟨2, rfl, (by decide +kernel), rfl⟩) (by decide) rfl hC.1 ?_
    refine jj_iconst (n := 1) (v := 1) (by decide +kernel) (by decide) ?_
    exact jj_iret .int (by decide +kernel) rfl rfl (Or.inr ⟨a, rfl, b⟩)
/-- the law's one long, at q: a system's state with it written or not -/
def lx_P (G : jj_G) (X : sy_X) (K N q : Nat) : jj_O → jj_H → Prop := fun out h' => ∃ (v : Int32) (K' o' : Nat) (h2 : jj_H), K' ≤ K + 1 ∧ out = .inl (some (.int v)) ∧ Sy G X K' o' N h2 ∧ (h' = h2 ∨ ∃ f : Nat → Int64, h' = (jj_up h2.1 q (.inl (jj_cL G, 1, .inr (.inl f))), h2.2))
set_option maxRecDepth 100000 in
set_option maxHeartbeats 4000000 in
theorem c_LW_node {l : Launch} {G : jj_G} {X : sy_X} {K o N d : Nat} {h : jj_H} {x1 x2 : Int32} {q : Nat} {f : Nat → Int64} (hG : sy_G G X) (hq1 : q < X.1.2.1) (hq2 : ¬ X.2.1 q) (hq3 : X.1.1 q = some (.inl (jj_cL G, 1, .inr (.inl f)))) (hdd : 10 ≤ d) (hs : Sy G X K o N h) : jj_Q l G y_LW_node d [.ref (X.2.2.1 9), .int x1, .int x2, .ref q] h (lx_P G X K N q) := by
  refine jj_Q.of (by decide +kernel) (Nat.le_of_ble_eq_true rfl) ?_
  refine jj_aload_n (j := 3) (by decide +kernel) rfl ?_
  refine jj_iconst (n := 0) (v := 0) (by decide +kernel) (by decide) ?_
  refine jj_aload_n (j := 0) (by decide +kernel) rfl ?_
  refine jj_iload_n (j := 1) (by decide +kernel) rfl ?_
  refine jj_iload_n (j := 2) (by decide +kernel) rfl ?_
  obtain ⟨o1, h1, hP, hC⟩ := s_ST_node (l := l) (d := d - 1) (x1 := x1) (x2 := x2) hG (by omega) hs
  have hR : jj_R l G y_LW_node d [.ref (X.2.2.1 9), .int x1, .int x2] h o1 h1 5 [.int x2, .int x1, .ref (X.2.2.1 9), .int 0, .ref q] [.int 0, .ref q] := jj_callV (As := [.int x1, .int x2]) ok_ST_node ml_LW_21 im_ST_node se_ST_ST_node (by decide +kernel) (hs.rcST hG.2) rfl (by omega) (Nat.le_of_ble_eq_true rfl) hC
  rcases hP with ⟨v, rfl, hS⟩ | ⟨E, hE, rfl, hS⟩
  · refine hR.ret hC.1 ?_
    refine jj_i2l (by decide +kernel) ?_
    have hq4 : h1.1 q = some (.inl (jj_cL G, 1, .inr (.inl f))) := (hS.frame.2 q hq1 hq2).trans hq3
    refine jj_lastore (jj_tL hG.1) (by decide +kernel) hq4 (vp_in_nI (n := 0) (by decide) (by decide)) ?_
    refine jj_goto (off := 11) (tgt := 21) (by decide +kernel) (by decide) ?_
    refine jj_iconst (n := 0) (v := 0) (by decide +kernel) (by decide) ?_
    exact jj_iret .int (by decide +kernel) rfl rfl ⟨_, K, o, h1, Nat.le_succ _, rfl, hS, Or.inr ⟨_, rfl⟩⟩
  · rcases List.mem_cons.mp hE with rfl | hE
    · refine hR.catchA [] _ [_] rfl (by intro z hz; cases hz) (by decide +kernel) (by decide) cl_LW_25 cs_JX_JX (i := 4) (len := 2) (Or.inl ⟨(by decide +kernel), rfl⟩) (by decide) rfl hC.1 ?_
      refine jj_iconst (n := 1) (v := 1) (by decide +kernel) (by decide) ?_
      exact jj_iret .int (by decide +kernel) rfl rfl ⟨_, K + 1, o, _, Nat.le_refl _, rfl, hS, Or.inl rfl⟩
    · rcases List.mem_cons.mp hE with rfl | hE
      · refine hR.catchA [_] _ [] rfl (by
            intro z hz
            rcases List.mem_cons.mp hz with rfl | q
            · exact Or.inr ⟨by decide, _, cl_LW_25, List.mem_cons_self⟩
            · cases q) (by decide +kernel) (by decide) cl_LW_19 cs_JG_JG (i := 4) (len := 2) (Or.inl ⟨(by decide +kernel), rfl⟩) (by decide) rfl hC.1 ?_
        refine jj_iconst (n := 2) (v := 2) (by decide +kernel) (by decide) ?_
        exact jj_iret .int (by decide +kernel) rfl rfl ⟨_, K + 1, o, _, Nat.le_refl _, rfl, hS, Or.inl rfl⟩
      · cases hE
set_option maxRecDepth 100000 in
set_option maxHeartbeats 4000000 in
theorem c_LW_name {l : Launch} {G : jj_G} {X : sy_X} {K o N d : Nat} {h : jj_H} {x1 x2 : Int32} {q : Nat} {f : Nat → Int64} (hG : sy_G G X) (hq1 : q < X.1.2.1) (hq2 : ¬ X.2.1 q) (hq3 : X.1.1 q = some (.inl (jj_cL G, 1, .inr (.inl f)))) (hdd : 10 ≤ d) (hs : Sy G X K o N h) : jj_Q l G y_LW_name d [.ref (X.2.2.1 9), .int x1, .int x2, .ref q] h (lx_P G X K N q) := by
  refine jj_Q.of (by decide +kernel) (Nat.le_of_ble_eq_true rfl) ?_
  refine jj_aload_n (j := 3) (by decide +kernel) rfl ?_
  refine jj_iconst (n := 0) (v := 0) (by decide +kernel) (by decide) ?_
  refine jj_aload_n (j := 0) (by decide +kernel) rfl ?_
  refine jj_iload_n (j := 1) (by decide +kernel) rfl ?_
  refine jj_iload_n (j := 2) (by decide +kernel) rfl ?_
  obtain ⟨o1, h1, hP, hC⟩ := s_ST_name (l := l) (d := d - 1) (x1 := x1) (x2 := x2) hG (by omega) hs
  have hR : jj_R l G y_LW_name d [.ref (X.2.2.1 9), .int x1, .int x2] h o1 h1 5 [.int x2, .int x1, .ref (X.2.2.1 9), .int 0, .ref q] [.int 0, .ref q] := jj_callV (As := [.int x1, .int x2]) ok_ST_name ml_LW_27 im_ST_name se_ST_ST_name (by decide +kernel) (hs.rcST hG.2) rfl (by omega) (Nat.le_of_ble_eq_true rfl) hC
  rcases hP with ⟨v, rfl, hS⟩ | ⟨E, hE, rfl, hS⟩
  · refine hR.ret hC.1 ?_
    refine jj_i2l (by decide +kernel) ?_
    have hq4 : h1.1 q = some (.inl (jj_cL G, 1, .inr (.inl f))) := (hS.frame.2 q hq1 hq2).trans hq3
    refine jj_lastore (jj_tL hG.1) (by decide +kernel) hq4 (vp_in_nI (n := 0) (by decide) (by decide)) ?_
    refine jj_goto (off := 7) (tgt := 17) (by decide +kernel) (by decide) ?_
    refine jj_iconst (n := 0) (v := 0) (by decide +kernel) (by decide) ?_
    exact jj_iret .int (by decide +kernel) rfl rfl ⟨_, K, o, h1, Nat.le_succ _, rfl, hS, Or.inr ⟨_, rfl⟩⟩
  · rcases List.mem_cons.mp hE with rfl | hE
    · refine hR.catchA [] _ [] rfl (by intro z hz; cases hz) (by decide +kernel) (by decide) cl_LW_25 cs_JX_JX (i := 4) (len := 2) (Or.inl ⟨(by decide +kernel), rfl⟩) (by decide) rfl hC.1 ?_
      refine jj_iconst (n := 1) (v := 1) (by decide +kernel) (by decide) ?_
      exact jj_iret .int (by decide +kernel) rfl rfl ⟨_, K + 1, o, _, Nat.le_refl _, rfl, hS, Or.inl rfl⟩
    · cases hE
end
section
/-! the world at the law's start -/
def st_eA : List (String × Nat × Nat) := [("SourceTree$Spellings", 46, 0), ("SourceTree$Spellings", 52, 1), ("SourceTree$Spellings", 54, 2), ("SourceTree$Spellings", 56, 3), ("SourceTree", 114, 4), ("SourceTree$Scanner", 111, 5), ("SourceTree$Cursor", 66, 6), ("SourceTree", 60, 7), ("SourceTree", 70, 8), ("SourceTree", 96, 9), ("SourceTree", 99, 10), ("SourceTree", 106, 11), ("SourceTreeModel", 57, 3)]
def st_eB : List (String × Nat × Nat) := [("SourceTreeModel", 68, 12), ("SourceTreeModel", 74, 13), ("SourceTreeModel", 118, 14), ("SourceTreeModel", 178, 15), ("SourceTreeModel", 186, 16), ("SourceTreeModel", 192, 17), ("SourceTreeModel", 214, 18), ("SourceTreeModel", 216, 19), ("SourceTreeModel", 218, 20), ("SourceTreeModel", 233, 21), ("SourceTreeModel", 436, 22), ("SourceTreeModel", 438, 23), ("SourceTreeModel", 235, 24), ("SourceTreeModel", 237, 25), ("SourceTreeModel", 432, 26), ("SourceTreeModel", 434, 27), ("SourceTreeModel", 416, 28), ("SourceTreeModel", 418, 29), ("SourceTreeModel", 398, 30), ("SourceTreeModel", 400, 31), ("SourceTreeModel", 402, 32), ("SourceTreeModel", 404, 33), ("SourceTreeModel", 406, 34), ("SourceTreeModel", 408, 35), ("SourceTreeModel", 198, 36), ("SourceTreeModel", 200, 37), ("SourceTreeModel", 182, 38), ("SourceTreeModel", 239, 39), ("SourceTreeModel", 252, 40), ("SourceTreeModel", 257, 41), ("SourceTreeModel", 259, 42), ("SourceTreeModel", 261, 43), ("SourceTreeModel", 265, 44), ("SourceTreeModel", 247, 45), ("SourceTreeModel", 269, 46), ("SourceTreeModel", 315, 47), ("SourceTreeModel", 317, 48), ("SourceTreeModel", 322, 49), ("SourceTreeModel", 327, 50), ("SourceTreeModel", 287, 51), ("SourceTreeModel", 386, 52), ("SourceTreeModel", 388, 53), ("SourceTreeModel", 340, 54), ("SourceTreeModel", 352, 55), ("SourceTreeModel", 338, 56), ("SourceTreeModel", 390, 57), ("SourceTreeModel", 282, 58), ("SourceTreeModel", 357, 59), ("SourceTreeModel", 359, 60), ("SourceTreeModel", 363, 61), ("SourceTreeModel", 368, 62), ("SourceTreeModel", 370, 63), ("SourceTreeModel", 392, 64), ("SourceTreeModel", 393, 65), ("SourceTreeModel", 375, 66), ("SourceTreeModel", 380, 67), ("SourceTreeModel", 384, 68), ("SourceTreeModel", 301, 69), ("SourceTreeModel", 303, 70), ("SourceTreeModel", 310, 71)]
def st_tm : List (String × Nat) := [("SourceTree$Spellings", 46), ("SourceTree$Spellings", 52), ("SourceTree$Spellings", 54), ("SourceTree$Spellings", 56), ("SourceTree", 114), ("SourceTree$Scanner", 111), ("SourceTree$Cursor", 66), ("SourceTree", 60), ("SourceTree", 70), ("SourceTree", 96), ("SourceTree", 99), ("SourceTree", 106), ("SourceTreeModel", 68), ("SourceTreeModel", 74), ("SourceTreeModel", 118), ("SourceTreeModel", 178), ("SourceTreeModel", 186), ("SourceTreeModel", 192), ("SourceTreeModel", 214), ("SourceTreeModel", 216), ("SourceTreeModel", 218), ("SourceTreeModel", 233), ("SourceTreeModel", 436), ("SourceTreeModel", 438), ("SourceTreeModel", 235), ("SourceTreeModel", 237), ("SourceTreeModel", 432), ("SourceTreeModel", 434), ("SourceTreeModel", 416), ("SourceTreeModel", 418), ("SourceTreeModel", 398), ("SourceTreeModel", 400), ("SourceTreeModel", 402), ("SourceTreeModel", 404), ("SourceTreeModel", 406), ("SourceTreeModel", 408), ("SourceTreeModel", 198), ("SourceTreeModel", 200), ("SourceTreeModel", 182), ("SourceTreeModel", 239), ("SourceTreeModel", 252), ("SourceTreeModel", 257), ("SourceTreeModel", 259), ("SourceTreeModel", 261), ("SourceTreeModel", 265), ("SourceTreeModel", 247), ("SourceTreeModel", 269), ("SourceTreeModel", 315), ("SourceTreeModel", 317), ("SourceTreeModel", 322), ("SourceTreeModel", 327), ("SourceTreeModel", 287), ("SourceTreeModel", 386), ("SourceTreeModel", 388), ("SourceTreeModel", 340), ("SourceTreeModel", 352), ("SourceTreeModel", 338), ("SourceTreeModel", 390), ("SourceTreeModel", 282), ("SourceTreeModel", 357), ("SourceTreeModel", 359), ("SourceTreeModel", 363), ("SourceTreeModel", 368), ("SourceTreeModel", 370), ("SourceTreeModel", 392), ("SourceTreeModel", 393), ("SourceTreeModel", 375), ("SourceTreeModel", 380), ("SourceTreeModel", 384), ("SourceTreeModel", 301), ("SourceTreeModel", 303), ("SourceTreeModel", 310)]
def st_pr (q : String × Nat × Nat) : List Cond := [.exactly (.string q.1 q.2.1) "java/lang/String", .eq (.field (.string q.1 q.2.1) "java/lang/String" "coder" "B") (.int 0), .arrayOf (.field (.string q.1 q.2.1) "java/lang/String" "value" "[B") .byte, .eq (.length (.field (.string q.1 q.2.1) "java/lang/String" "value" "[B")) (.int (Int32.ofNat (jj_lS.getD q.2.2 0)))] ++ (List.range (jj_lS.getD q.2.2 0)).map (fun j => .eq (.elem (.field (.string q.1 q.2.1) "java/lang/String" "value" "[B") (.int (Int32.ofNat j))) (.int ((jj_bS.getD q.2.2 []).getD j 0)))
set_option maxRecDepth 100000 in
set_option maxHeartbeats 4000000 in
theorem st_flat : (flatC (Jvm.Cond.and given_1 narrow_1)).drop 38 = st_eA.flatMap st_pr ++ [.eq (.string "SourceTree$Spellings" 56) (.string "SourceTreeModel" 57)] ++ st_eB.flatMap st_pr := by decide +kernel
theorem st_in {q : String × Nat × Nat} (hq : q ∈ st_eA ∨ q ∈ st_eB) {w : Cond} (hw : w ∈ st_pr q) : w ∈ flatC (Jvm.Cond.and given_1 narrow_1) := by
  refine List.mem_of_mem_drop (i := 38) ?_
  rw [st_flat]
  rcases hq with h | h
  · exact List.mem_append_left _ (List.mem_append_left _ (List.mem_flatMap.mpr ⟨q, h, hw⟩))
  · exact List.mem_append_right _ (List.mem_flatMap.mpr ⟨q, h, hw⟩)
theorem st_eq : Cond.eq (.string "SourceTree$Spellings" 56) (.string "SourceTreeModel" 57) ∈ flatC (Jvm.Cond.and given_1 narrow_1) := by
  refine List.mem_of_mem_drop (i := 38) ?_
  rw [st_flat]
  exact List.mem_append_left _ (List.mem_append_right _ List.mem_cons_self)
theorem st_tmi : ∀ i, i < jj_nS → ((st_tm.getD i ("", 0)).1, (st_tm.getD i ("", 0)).2, i) ∈ st_eA ∨ ((st_tm.getD i ("", 0)).1, (st_tm.getD i ("", 0)).2, i) ∈ st_eB := by decide +kernel
theorem st_strs : ∀ q ∈ jj_str, q.2.2.2 < jj_nS ∧ ((q.1, q.2.1) = st_tm.getD q.2.2.2 ("", 0) ∨ (q.1 = "SourceTreeModel" ∧ q.2.1 = 57 ∧ q.2.2.2 = 3)) := by decide +kernel
theorem st_str_in : ∀ q ∈ jj_str, Cond.stringRef q.1 q.2.1 q.2.2.1 ∈ lw_tbl := by decide +kernel
theorem st_nm_in : ∀ q ∈ jj_nm, Cond.methodLinkNest q.1 q.2.1 q.2.2.1 q.2.2.2 ∈ lw_tbl := by decide +kernel
/-- the strings, out of what the Statement gives of them -/
theorem st_vS {args : Array Value} {s : State} {A : Nat → Prop} (hgv : (Jvm.Cond.and given_1 narrow_1).before args s = true) (hA : ∀ a : Nat, a < s.heap.size → ¬ A a) : ∃ adK adV : Nat → Nat, jj_vS jj_nS jj_lS jj_bS adK adV A s s.heap ∧ ∀ i : Nat, i < jj_nS → (Term.string (st_tm.getD i ("", 0)).1 (st_tm.getD i ("", 0)).2).eval args s none [] s = some (.ref (adK i)) := by
  have hfl := flat_of_before _ hgv
  have h0 : ∀ i : Nat, ∃ q : Nat × Nat, i < jj_nS → (Term.string (st_tm.getD i ("", 0)).1 (st_tm.getD i ("", 0)).2).eval args s none [] s = some (.ref q.1) ∧ va_O "java/lang/String" q.1 A s s.heap ∧ va_OF "java/lang/String" "coder" "B" (.int 0) q.1 A s s.heap ∧ va_OF "java/lang/String" "value" "[B" (.ref q.2) q.1 A s s.heap ∧ va_T .byte q.2 (jj_lS.getD i 0) (fun j => .int ((jj_bS.getD i []).getD j 0)) A s s.heap := by
    intro i
    by_cases hi : i < jj_nS
    · have hin := fun w hw => hfl w (st_in (st_tmi i hi) hw)
      have hlen := lS_small i hi
      generalize hown : (st_tm.getD i ("", 0)).1 = own at hin ⊢
      generalize hk : (st_tm.getD i ("", 0)).2 = k at hin ⊢
      obtain ⟨a, c, cA, kA, q1, q2, q3, q4, q5, q6, -⟩ := Cond.exactly_spec (args := args) (first := s) (o := none) (s := s) (idx := []) (t := .string own k) (cls := "java/lang/String") (hin _ (List.mem_append_left _ List.mem_cons_self))
      obtain ⟨t, ht, hT⟩ := va_Tof (f := fun j => .int ((jj_bS.getD i []).getD j 0)) (A := A) (show jj_lS.getD i 0 < 2 ^ 31 by omega) (hin _ (List.mem_append_left _ (List.mem_cons_of_mem _ (List.mem_cons_of_mem _ List.mem_cons_self)))) (va_eqt (hin _ (List.mem_append_left _ (List.mem_cons_of_mem _ (List.mem_cons_of_mem _ (List.mem_cons_of_mem _ List.mem_cons_self)))))) (fun j hj => va_eqt (hin _ (List.mem_append_right _ (List.mem_map.mpr ⟨j, List.mem_range.mpr hj, rfl⟩)))) hA
      exact ⟨(a, t), fun _ => ⟨q1, ⟨cA, q3, q5, by rw [q6]; exact q2, hA a (Array.getElem?_eq_some_iff.mp q3).1⟩, vk_OFof q1 (va_eqt (hin _ (List.mem_append_left _ (List.mem_cons_of_mem _ List.mem_cons_self)))) hA, vk_OFof q1 ht hA, hT⟩⟩
    · exact ⟨(0, 0), fun h => absurd h hi⟩
  obtain ⟨ad, had⟩ := Classical.axiomOfChoice h0
  exact ⟨fun i => (ad i).1, fun i => (ad i).2, fun i hi => (had i hi).2, fun i hi => (had i hi).1⟩
/-! the words that are carried by the heap -/
theorem kp_lays {C n d : String} {args args' : Array Value} {s V : State} (h : (Cond.laysStatic C n d).before args s = true) (hW : s.WarmedH V.vm) (hk : ∀ q, q < s.heap.size → V.heap[q]? = s.heap[q]?) : (Cond.laysStatic C n d).before args' V = true := by
  have h1 := Cond.laysStatic_setVm hW.alike h
  obtain ⟨c, k, i, f, a, cell, g1, g2, g3, g4, g5, g6, g7, g8, g9⟩ := Cond.laysStatic_spec h1
  have e1 : V.vm.findClass C = some c := g1
  have e2 : V.fieldFound? C n d = some (c, k, i, f) := g2
  have g5' : s.heap[a]? = some cell := g5
  have e5 : V.heap[a]? = some cell := (hk a (Array.getElem?_eq_some_iff.mp g5').1).trans g5'
  simp [Cond.before, Cond.holds, Cond.value, e1, e2, g4, e5, g3, g6, g7, g8, g9]
theorem kp_ref {C n d : String} {args args' : Array Value} {s V : State} (hl : (Cond.laysStatic C n d).before args s = true) (hini : (Cond.initialized C).before args s = true) (h : (Cond.isRef (.static C n d)).before args s = true) (hW : s.WarmedH V.vm) (hk : ∀ q, q < s.heap.size → V.heap[q]? = s.heap[q]?) : (Cond.isRef (.static C n d)).before args' V = true := by
  obtain ⟨v, hv, hr⟩ := Cond.isRef_spec h
  have hZ : va_Z C n d v (fun _ => False) s s.heap := va_Zof hl hini hv (fun _ _ q => q)
  obtain ⟨cf, kf, fi, f, a, cell, h1, h2, h3, h4, h5, h6, h7, -⟩ := va_Z.moved hW.alike (hZ.kept (H1 := V.heap) (fun q hq _ => hk q hq))
  have hev : (Term.static C n d).eval args' V none [] V = some v := by simp [Term.eval, State.fieldNamed?, h1, h2, h4, h5, h6, h7]
  simp [Cond.before, Cond.holds, Cond.value, hev]
  cases v <;> first | rfl | (cases hr)
end
section
theorem ck_MO : jj_ck 6 "SourceTreeModel" T_MO 20 t_MO := ⟨rfl, by decide +kernel, by decide +kernel, by decide +kernel⟩
theorem ni_MO : Cond.instantiable "SourceTreeModel" 20 ∈ jj_T := jw 1037 (by decide +kernel) rfl
theorem st_l1 : Cond.laysStatic "java/lang/String" "COMPACT_STRINGS" "Z" ∈ lw_tbl := by decide +kernel
theorem st_l2 : Cond.laysStatic "jdk/internal/util/Preconditions" "SIOOBE_FORMATTER" "Ljava/util/function/BiFunction;" ∈ lw_tbl := by decide +kernel
theorem st_l3 : Cond.laysStatic "java/lang/Throwable" "UNASSIGNED_STACK" "[Ljava/lang/StackTraceElement;" ∈ lw_tbl := by decide +kernel
theorem st_l4 : Cond.laysStatic "java/lang/Throwable" "SUPPRESSED_SENTINEL" "Ljava/util/List;" ∈ lw_tbl := by decide +kernel
theorem st_sr {own tx : String} {k : Nat} {A A' : Array Value} {u U : State} (hv : U.vm = u.vm) (h : (Cond.stringRef own k tx).before A u = true) : (Cond.stringRef own k tx).before A' U = true := by
  simp only [Cond.before, Cond.holds, Cond.value, State.names, State.poolOf?, State.resolvedAt?, hv] at h ⊢
  exact h
theorem st_ref {v : Value} (h : v.isRef = true) : ∃ k : Nat, v = (match k with | 0 => Value.null | t + 1 => Value.ref t) := by
  cases v with
  | null => exact ⟨0, rfl⟩
  | ref t => exact ⟨t + 1, rfl⟩
  | _ => cases h
set_option maxRecDepth 100000 in
set_option maxHeartbeats 4000000 in
theorem st_wd {args : Array Value} {s : State} {b L : Nat} {xs : Nat → Int32} (hts : ∀ w ∈ lw_tbl, w.before args s = true) (hX : va_X b L xs s s.heap) (hbl : b < s.heap.size) (hgv : (Jvm.Cond.and given_1 narrow_1).before args s = true) : ∃ G : jj_G, jj_tyG G ∧ G.1 = s.heap.size ∧ G.2.2.2.2.2.1 = b ∧ G.2.2.2.2.2.2.1 = L ∧ G.2.2.2.2.2.2.2 = xs ∧ jj_wd G s := by
  have hT : ∀ w ∈ jj_T, w.before args s = true := fun w hw => hts w (List.mem_filter.mp hw).1
  have hfl := flat_of_before _ hgv
  obtain ⟨c0, i0, n0⟩ := u_known hT ck_ST.2.1 (hT _ ni_ST)
  obtain ⟨c1, i1, n1⟩ := u_known hT ck_IR.2.1 (hT _ ni_IR)
  obtain ⟨c2, i2, n2⟩ := u_known hT ck_TB.2.1 (hT _ ni_TB)
  obtain ⟨c3, i3, n3⟩ := u_known hT ck_SP.2.1 (hT _ ni_SP)
  obtain ⟨c4, i4, n4⟩ := u_known hT ck_SC.2.1 (hT _ ni_SC)
  obtain ⟨c5, i5, n5⟩ := u_known hT ck_GR.2.1 (hT _ ni_GR)
  obtain ⟨c6, i6, n6⟩ := u_known hT ck_MO.2.1 (hT _ ni_MO)
  obtain ⟨cI, kI, pI, aI1, aI2, aI3⟩ := Cond.arrayClass_spec (hT _ ac_int)
  obtain ⟨cB, kB, pB, aB1, aB2, aB3⟩ := Cond.arrayClass_spec (hT _ ac_byte)
  obtain ⟨cL, kL, pL, aL1, aL2, aL3⟩ := Cond.arrayClass_spec (hT _ ac_long)
  obtain ⟨dC, dI, hKc⟩ : ∃ (dC : Nat → ClassId) (dI : Nat → Nat → Nat), ∀ (k : Nat) (q : vw_C), vwCl[k]? = some q → u_Kn s q.1 q.2.1 q.2.2 (dC k) (dI k) := by
    refine ⟨fun k => if k = 0 then c0 else if k = 1 then c1 else if k = 2 then c2 else if k = 3 then c3 else if k = 4 then c4 else if k = 5 then c5 else c6, fun k => if k = 0 then i0 else if k = 1 then i1 else if k = 2 then i2 else if k = 3 then i3 else if k = 4 then i4 else if k = 5 then i5 else i6, ?_⟩
    intro k q hq
    match k, hq with
    | 0, hq => cases hq; exact n0
    | 1, hq => cases hq; exact n1
    | 2, hq => cases hq; exact n2
    | 3, hq => cases hq; exact n3
    | 4, hq => cases hq; exact n4
    | 5, hq => cases hq; exact n5
    | 6, hq => cases hq; exact n6
    | k + 7, hq => simp [vwCl] at hq
  have hA : ∀ a : Nat, a < s.heap.size → ¬ s.heap.size ≤ a := fun a h => Nat.not_le.mpr h
  obtain ⟨adK, adV, hV, hE⟩ := st_vS (A := fun a => s.heap.size ≤ a) hgv hA
  obtain ⟨v, hv, hr⟩ := Cond.isRef_spec (t := .static "jdk/internal/util/Preconditions" "SIOOBE_FORMATTER" "Ljava/util/function/BiFunction;") (args := args) (first := s) (o := none) (s := s) (idx := []) (hfl _ (List.mem_of_getElem? (i := 5) (by decide +kernel)))
  obtain ⟨kv, hkv⟩ := st_ref hr
  have hZ1 : va_Z "java/lang/String" "COMPACT_STRINGS" "Z" (.int 1) (fun a => s.heap.size ≤ a) s s.heap := va_Zof (hts _ st_l1) (hT _ it_JS) (va_eqi (hfl _ (List.mem_of_getElem? (i := 4) (by decide +kernel)))) hA
  have hZ2 : va_Z "jdk/internal/util/Preconditions" "SIOOBE_FORMATTER" "Ljava/util/function/BiFunction;" v (fun a => s.heap.size ≤ a) s s.heap := va_Zof (hts _ st_l2) (hT _ it_JP) hv hA
  refine ⟨(s.heap.size, (dC, dI), [(cI, .int), (cB, .byte), (cL, .long)], (fun i => if i = jj_nS then kv else adK i), adV, b, L, xs), rfl, rfl, rfl, rfl, rfl, ?_⟩
  refine ⟨⟨hKc, fun k q hq => ?_⟩, Nat.le_refl _, fun q hq => va_Nw.of rfl (hts _ (st_nm_in q hq)), fun w hw => ?_, ⟨⟨fun i hi => ?_, trivial⟩, fun q hq => ?_, ⟨fun q hq => ?_, ?_⟩, hX, hbl⟩, fun a cell ha hc => ?_, fun q hq => ?_⟩
  · match k, hq with
    | 0, hq => cases hq; exact ⟨fun n z => ⟨fun k h => (by cases h), kI, aI2, pI, aI3⟩, aI1⟩
    | 1, hq => cases hq; exact ⟨fun n z => ⟨fun k h => (by cases h), kB, aB2, pB, aB3⟩, aB1⟩
    | 2, hq => cases hq; exact ⟨fun n z => ⟨fun k h => (by cases h), kL, aL2, pL, aL3⟩, aL1⟩
    | k + 3, hq => simp at hq
  · intro args' V hW hk _
    have hk' : ∀ q, q < s.heap.size → V.heap[q]? = s.heap[q]? := fun q hq => hk q hq (Nat.not_le.mpr hq)
    rcases List.mem_append.mp hw with h | h
    · obtain ⟨h1, h2⟩ := List.mem_filter.mp h
      have hb := hts w h1
      cases w with
      | declares x => exact va_Nw.use rfl (va_Nw.warmD hW (va_Nw.of rfl hb))
      | castable C T => exact va_Nw.use rfl (va_Nw.warmC hW (va_Nw.of rfl hb))
      | stringRef a k t => exact st_sr (u := s.setVm V.vm) rfl (Cond.stringRef_warmed hW hb)
      | laysStatic C n d => exact kp_lays hb hW hk'
      | _ => exact absurd h2 Bool.false_ne_true
    · rcases List.mem_cons.mp h with rfl | h
      · exact kp_ref (hts _ st_l3) (hT _ it_JT) (hfl _ (List.mem_of_getElem? (i := 9) (by decide +kernel))) hW hk'
      · rcases List.mem_cons.mp h with rfl | h
        · exact kp_ref (hts _ st_l4) (hT _ it_JT) (hfl _ (List.mem_of_getElem? (i := 10) (by decide +kernel))) hW hk'
        · cases h
  · show va_O _ (if i = jj_nS then kv else adK i) _ _ _ ∧ va_OF _ _ _ _ (if i = jj_nS then kv else adK i) _ _ _ ∧ va_OF _ _ _ _ (if i = jj_nS then kv else adK i) _ _ _ ∧ _
    rw [if_neg (Nat.ne_of_lt hi)]
    exact hV i hi
  · obtain ⟨hi, hq2⟩ := st_strs q hq
    show vk_R q.1 q.2.1 q.2.2.1 (if q.2.2.2 = jj_nS then kv else adK q.2.2.2) s
    rw [if_neg (Nat.ne_of_lt hi)]
    refine ⟨st_sr rfl (hts _ (st_str_in q hq)), ?_⟩
    have hEi := hE _ hi
    rcases hq2 with h | ⟨h1, h2, h3⟩
    · rw [← h] at hEi
      exact hEi
    · rw [h1, h2, h3]
      rw [h3] at hEi
      have hm : (("SourceTreeModel", 57, 3) : String × Nat × Nat) ∈ st_eA ∨ (("SourceTreeModel", 57, 3) : String × Nat × Nat) ∈ st_eB := by decide +kernel
      obtain ⟨a9, -, -, -, g1, -⟩ := Cond.exactly_spec (args := args) (first := s) (o := none) (s := s) (idx := []) (t := .string "SourceTreeModel" 57) (cls := "java/lang/String") (hfl _ (st_in hm (List.mem_append_left _ List.mem_cons_self)))
      have g2 := Cond.eq_refs (hfl _ st_eq) g1 rfl
      have g3 : (Term.string "SourceTree$Spellings" 56).eval args s none [] s = some (.ref (adK 3)) := hEi
      cases Option.some.inj (g2.symm.trans g3)
      exact g1
  · rcases List.mem_cons.mp hq with rfl | h
    · exact hZ1
    · cases h
  · show va_Z "jdk/internal/util/Preconditions" "SIOOBE_FORMATTER" "Ljava/util/function/BiFunction;" (match (if jj_nS = jj_nS then kv else adK jj_nS) with | 0 => Value.null | t + 1 => Value.ref t) _ s s.heap
    rw [if_pos rfl, ← hkv]
    exact hZ2
  · have h9 := (Array.getElem?_eq_some_iff.mp hc).1
    exact absurd ha (Nat.not_le.mpr h9)
  · rcases List.mem_cons.mp hq with rfl | h
    · exact va_Nc.of (hfl _ (List.mem_of_getElem? (i := 37) (by decide +kernel)))
    · cases h
end
