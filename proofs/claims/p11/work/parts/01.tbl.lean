-- ===== PART A: goes FIRST, ahead of the names: the tables' words, and 'selects' of the private methods out of them =====
/-- a private method of a class that the tables say can be made, by its rows of tables_1 -/
def lw_okq (q : MethodName × Nat) : Prop := (q.1.cls ≠ "java/lang/invoke/MethodHandle" ∧ q.1.cls ≠ "java/lang/invoke/VarHandle") ∧ Cond.instantiable q.1.cls q.2 ∈ tables_1 ∧ Cond.privateMethod q.1 ∈ tables_1 ∧ Cond.instanceMethod q.1 ∈ tables_1
theorem lw_p0 : lw_okq (⟨"AppealCourt", "putBytes", "(I)V"⟩, 9) := ⟨⟨by decide +kernel, by decide +kernel⟩, List.mem_of_getElem? (i := 22) (by decide +kernel), List.mem_of_getElem? (i := 234) (by decide +kernel), List.mem_of_getElem? (i := 235) (by decide +kernel)⟩
theorem lw_p1 : lw_okq (⟨"AppealCourt$Tokens", "behindBlanks", "(I)I"⟩, 7) := ⟨⟨by decide +kernel, by decide +kernel⟩, List.mem_of_getElem? (i := 248) (by decide +kernel), List.mem_of_getElem? (i := 422) (by decide +kernel), List.mem_of_getElem? (i := 423) (by decide +kernel)⟩
theorem lw_p2 : lw_okq (⟨"AppealCourt$Tokens", "byteAt", "(I)I"⟩, 7) := ⟨⟨by decide +kernel, by decide +kernel⟩, List.mem_of_getElem? (i := 248) (by decide +kernel), List.mem_of_getElem? (i := 426) (by decide +kernel), List.mem_of_getElem? (i := 427) (by decide +kernel)⟩
theorem lw_p3 : lw_okq (⟨"AppealCourt$Tokens", "putNumber", "(I)I"⟩, 7) := ⟨⟨by decide +kernel, by decide +kernel⟩, List.mem_of_getElem? (i := 248) (by decide +kernel), List.mem_of_getElem? (i := 436) (by decide +kernel), List.mem_of_getElem? (i := 437) (by decide +kernel)⟩
theorem lw_p4 : lw_okq (⟨"AppealCourt$Tokens", "behindLettersAndDigits", "(I)I"⟩, 7) := ⟨⟨by decide +kernel, by decide +kernel⟩, List.mem_of_getElem? (i := 248) (by decide +kernel), List.mem_of_getElem? (i := 440) (by decide +kernel), List.mem_of_getElem? (i := 441) (by decide +kernel)⟩
theorem lw_p5 : lw_okq (⟨"AppealCourt$Tokens", "put", "(III)V"⟩, 7) := ⟨⟨by decide +kernel, by decide +kernel⟩, List.mem_of_getElem? (i := 248) (by decide +kernel), List.mem_of_getElem? (i := 447) (by decide +kernel), List.mem_of_getElem? (i := 448) (by decide +kernel)⟩
theorem lw_p6 : lw_okq (⟨"AppealCourt$Tokens", "putWord", "(I)I"⟩, 7) := ⟨⟨by decide +kernel, by decide +kernel⟩, List.mem_of_getElem? (i := 248) (by decide +kernel), List.mem_of_getElem? (i := 451) (by decide +kernel), List.mem_of_getElem? (i := 452) (by decide +kernel)⟩
theorem lw_p7 : lw_okq (⟨"AppealCourt$Tokens", "putSign", "(II)I"⟩, 7) := ⟨⟨by decide +kernel, by decide +kernel⟩, List.mem_of_getElem? (i := 248) (by decide +kernel), List.mem_of_getElem? (i := 457) (by decide +kernel), List.mem_of_getElem? (i := 458) (by decide +kernel)⟩
theorem lw_p8 : lw_okq (⟨"AppealCourt$Reader", "advance", "()V"⟩, 15) := ⟨⟨by decide +kernel, by decide +kernel⟩, List.mem_of_getElem? (i := 242) (by decide +kernel), List.mem_of_getElem? (i := 521) (by decide +kernel), List.mem_of_getElem? (i := 522) (by decide +kernel)⟩
theorem lw_p9 : lw_okq (⟨"AppealCourt$Reader", "hearing", "()V"⟩, 15) := ⟨⟨by decide +kernel, by decide +kernel⟩, List.mem_of_getElem? (i := 242) (by decide +kernel), List.mem_of_getElem? (i := 525) (by decide +kernel), List.mem_of_getElem? (i := 526) (by decide +kernel)⟩
theorem lw_p10 : lw_okq (⟨"AppealCourt$Reader", "take", "(I)V"⟩, 15) := ⟨⟨by decide +kernel, by decide +kernel⟩, List.mem_of_getElem? (i := 242) (by decide +kernel), List.mem_of_getElem? (i := 529) (by decide +kernel), List.mem_of_getElem? (i := 530) (by decide +kernel)⟩
theorem lw_p11 : lw_okq (⟨"AppealCourt$Reader", "fail", "()V"⟩, 15) := ⟨⟨by decide +kernel, by decide +kernel⟩, List.mem_of_getElem? (i := 242) (by decide +kernel), List.mem_of_getElem? (i := 533) (by decide +kernel), List.mem_of_getElem? (i := 534) (by decide +kernel)⟩
theorem lw_p12 : lw_okq (⟨"AppealCourt$Reader", "nameHearing", "(I)V"⟩, 15) := ⟨⟨by decide +kernel, by decide +kernel⟩, List.mem_of_getElem? (i := 242) (by decide +kernel), List.mem_of_getElem? (i := 537) (by decide +kernel), List.mem_of_getElem? (i := 538) (by decide +kernel)⟩
theorem lw_p13 : lw_okq (⟨"AppealCourt$Reader", "putFault", "(II)V"⟩, 15) := ⟨⟨by decide +kernel, by decide +kernel⟩, List.mem_of_getElem? (i := 242) (by decide +kernel), List.mem_of_getElem? (i := 541) (by decide +kernel), List.mem_of_getElem? (i := 542) (by decide +kernel)⟩
theorem lw_p14 : lw_okq (⟨"AppealCourt$Reader", "takeOpening", "(II)V"⟩, 15) := ⟨⟨by decide +kernel, by decide +kernel⟩, List.mem_of_getElem? (i := 242) (by decide +kernel), List.mem_of_getElem? (i := 545) (by decide +kernel), List.mem_of_getElem? (i := 546) (by decide +kernel)⟩
theorem lw_p15 : lw_okq (⟨"AppealCourt$Reader", "parameters", "()I"⟩, 15) := ⟨⟨by decide +kernel, by decide +kernel⟩, List.mem_of_getElem? (i := 242) (by decide +kernel), List.mem_of_getElem? (i := 549) (by decide +kernel), List.mem_of_getElem? (i := 550) (by decide +kernel)⟩
def lw_privs_1 : List (MethodName × Nat) := [(⟨"AppealCourt", "putBytes", "(I)V"⟩, 9), (⟨"AppealCourt$Tokens", "behindBlanks", "(I)I"⟩, 7), (⟨"AppealCourt$Tokens", "byteAt", "(I)I"⟩, 7), (⟨"AppealCourt$Tokens", "putNumber", "(I)I"⟩, 7), (⟨"AppealCourt$Tokens", "behindLettersAndDigits", "(I)I"⟩, 7), (⟨"AppealCourt$Tokens", "put", "(III)V"⟩, 7), (⟨"AppealCourt$Tokens", "putWord", "(I)I"⟩, 7), (⟨"AppealCourt$Tokens", "putSign", "(II)I"⟩, 7), (⟨"AppealCourt$Reader", "advance", "()V"⟩, 15), (⟨"AppealCourt$Reader", "hearing", "()V"⟩, 15), (⟨"AppealCourt$Reader", "take", "(I)V"⟩, 15), (⟨"AppealCourt$Reader", "fail", "()V"⟩, 15), (⟨"AppealCourt$Reader", "nameHearing", "(I)V"⟩, 15), (⟨"AppealCourt$Reader", "putFault", "(II)V"⟩, 15), (⟨"AppealCourt$Reader", "takeOpening", "(II)V"⟩, 15), (⟨"AppealCourt$Reader", "parameters", "()I"⟩, 15)]
theorem lw_r1 : ∀ q ∈ lw_privs_1, lw_okq q := List.forall_mem_cons.mpr ⟨lw_p0, List.forall_mem_cons.mpr ⟨lw_p1, List.forall_mem_cons.mpr ⟨lw_p2, List.forall_mem_cons.mpr ⟨lw_p3, List.forall_mem_cons.mpr ⟨lw_p4, List.forall_mem_cons.mpr ⟨lw_p5, List.forall_mem_cons.mpr ⟨lw_p6, List.forall_mem_cons.mpr ⟨lw_p7, List.forall_mem_cons.mpr ⟨lw_p8, List.forall_mem_cons.mpr ⟨lw_p9, List.forall_mem_cons.mpr ⟨lw_p10, List.forall_mem_cons.mpr ⟨lw_p11, List.forall_mem_cons.mpr ⟨lw_p12, List.forall_mem_cons.mpr ⟨lw_p13, List.forall_mem_cons.mpr ⟨lw_p14, List.forall_mem_cons.mpr ⟨lw_p15, fun _ h => absurd h List.not_mem_nil⟩⟩⟩⟩⟩⟩⟩⟩⟩⟩⟩⟩⟩⟩⟩⟩
theorem lw_p16 : lw_okq (⟨"AppealCourt$Reader", "newName", "()I"⟩, 15) := ⟨⟨by decide +kernel, by decide +kernel⟩, List.mem_of_getElem? (i := 242) (by decide +kernel), List.mem_of_getElem? (i := 553) (by decide +kernel), List.mem_of_getElem? (i := 554) (by decide +kernel)⟩
theorem lw_p17 : lw_okq (⟨"AppealCourt$Reader", "isTold", "(I)Z"⟩, 15) := ⟨⟨by decide +kernel, by decide +kernel⟩, List.mem_of_getElem? (i := 242) (by decide +kernel), List.mem_of_getElem? (i := 557) (by decide +kernel), List.mem_of_getElem? (i := 558) (by decide +kernel)⟩
theorem lw_p18 : lw_okq (⟨"AppealCourt$Reader", "tell", "(II)V"⟩, 15) := ⟨⟨by decide +kernel, by decide +kernel⟩, List.mem_of_getElem? (i := 242) (by decide +kernel), List.mem_of_getElem? (i := 561) (by decide +kernel), List.mem_of_getElem? (i := 562) (by decide +kernel)⟩
theorem lw_p19 : lw_okq (⟨"AppealCourt$Reader", "block", "(I)V"⟩, 15) := ⟨⟨by decide +kernel, by decide +kernel⟩, List.mem_of_getElem? (i := 242) (by decide +kernel), List.mem_of_getElem? (i := 565) (by decide +kernel), List.mem_of_getElem? (i := 566) (by decide +kernel)⟩
theorem lw_p20 : lw_okq (⟨"AppealCourt$Reader", "statement", "(I)V"⟩, 15) := ⟨⟨by decide +kernel, by decide +kernel⟩, List.mem_of_getElem? (i := 242) (by decide +kernel), List.mem_of_getElem? (i := 569) (by decide +kernel), List.mem_of_getElem? (i := 570) (by decide +kernel)⟩
theorem lw_p21 : lw_okq (⟨"AppealCourt$Reader", "choice", "(I)V"⟩, 15) := ⟨⟨by decide +kernel, by decide +kernel⟩, List.mem_of_getElem? (i := 242) (by decide +kernel), List.mem_of_getElem? (i := 573) (by decide +kernel), List.mem_of_getElem? (i := 574) (by decide +kernel)⟩
theorem lw_p22 : lw_okq (⟨"AppealCourt$Reader", "emit", "(I)V"⟩, 15) := ⟨⟨by decide +kernel, by decide +kernel⟩, List.mem_of_getElem? (i := 242) (by decide +kernel), List.mem_of_getElem? (i := 577) (by decide +kernel), List.mem_of_getElem? (i := 578) (by decide +kernel)⟩
theorem lw_p23 : lw_okq (⟨"AppealCourt$Reader", "expression", "(I)V"⟩, 15) := ⟨⟨by decide +kernel, by decide +kernel⟩, List.mem_of_getElem? (i := 242) (by decide +kernel), List.mem_of_getElem? (i := 585) (by decide +kernel), List.mem_of_getElem? (i := 586) (by decide +kernel)⟩
theorem lw_p24 : lw_okq (⟨"AppealCourt$Reader", "factor", "(I)V"⟩, 15) := ⟨⟨by decide +kernel, by decide +kernel⟩, List.mem_of_getElem? (i := 242) (by decide +kernel), List.mem_of_getElem? (i := 589) (by decide +kernel), List.mem_of_getElem? (i := 590) (by decide +kernel)⟩
theorem lw_p25 : lw_okq (⟨"AppealCourt$Reader", "emit", "(II)V"⟩, 15) := ⟨⟨by decide +kernel, by decide +kernel⟩, List.mem_of_getElem? (i := 242) (by decide +kernel), List.mem_of_getElem? (i := 593) (by decide +kernel), List.mem_of_getElem? (i := 594) (by decide +kernel)⟩
theorem lw_p26 : lw_okq (⟨"AppealCourt$Reader", "name", "()I"⟩, 15) := ⟨⟨by decide +kernel, by decide +kernel⟩, List.mem_of_getElem? (i := 242) (by decide +kernel), List.mem_of_getElem? (i := 597) (by decide +kernel), List.mem_of_getElem? (i := 598) (by decide +kernel)⟩
theorem lw_p27 : lw_okq (⟨"AppealCourt$Reader", "slotOf", "(I)I"⟩, 15) := ⟨⟨by decide +kernel, by decide +kernel⟩, List.mem_of_getElem? (i := 242) (by decide +kernel), List.mem_of_getElem? (i := 601) (by decide +kernel), List.mem_of_getElem? (i := 602) (by decide +kernel)⟩
theorem lw_p28 : lw_okq (⟨"AppealCourt$Reader", "object", "()I"⟩, 15) := ⟨⟨by decide +kernel, by decide +kernel⟩, List.mem_of_getElem? (i := 242) (by decide +kernel), List.mem_of_getElem? (i := 605) (by decide +kernel), List.mem_of_getElem? (i := 606) (by decide +kernel)⟩
theorem lw_p29 : lw_okq (⟨"AppealCourt$Reader", "question", "()I"⟩, 15) := ⟨⟨by decide +kernel, by decide +kernel⟩, List.mem_of_getElem? (i := 242) (by decide +kernel), List.mem_of_getElem? (i := 609) (by decide +kernel), List.mem_of_getElem? (i := 610) (by decide +kernel)⟩
theorem lw_p30 : lw_okq (⟨"AppealCourt$Reader", "kind", "()I"⟩, 15) := ⟨⟨by decide +kernel, by decide +kernel⟩, List.mem_of_getElem? (i := 242) (by decide +kernel), List.mem_of_getElem? (i := 613) (by decide +kernel), List.mem_of_getElem? (i := 614) (by decide +kernel)⟩
theorem lw_p31 : lw_okq (⟨"AppealCourt$Reader", "emit", "(III)V"⟩, 15) := ⟨⟨by decide +kernel, by decide +kernel⟩, List.mem_of_getElem? (i := 242) (by decide +kernel), List.mem_of_getElem? (i := 620) (by decide +kernel), List.mem_of_getElem? (i := 621) (by decide +kernel)⟩
def lw_privs_2 : List (MethodName × Nat) := [(⟨"AppealCourt$Reader", "newName", "()I"⟩, 15), (⟨"AppealCourt$Reader", "isTold", "(I)Z"⟩, 15), (⟨"AppealCourt$Reader", "tell", "(II)V"⟩, 15), (⟨"AppealCourt$Reader", "block", "(I)V"⟩, 15), (⟨"AppealCourt$Reader", "statement", "(I)V"⟩, 15), (⟨"AppealCourt$Reader", "choice", "(I)V"⟩, 15), (⟨"AppealCourt$Reader", "emit", "(I)V"⟩, 15), (⟨"AppealCourt$Reader", "expression", "(I)V"⟩, 15), (⟨"AppealCourt$Reader", "factor", "(I)V"⟩, 15), (⟨"AppealCourt$Reader", "emit", "(II)V"⟩, 15), (⟨"AppealCourt$Reader", "name", "()I"⟩, 15), (⟨"AppealCourt$Reader", "slotOf", "(I)I"⟩, 15), (⟨"AppealCourt$Reader", "object", "()I"⟩, 15), (⟨"AppealCourt$Reader", "question", "()I"⟩, 15), (⟨"AppealCourt$Reader", "kind", "()I"⟩, 15), (⟨"AppealCourt$Reader", "emit", "(III)V"⟩, 15)]
theorem lw_r2 : ∀ q ∈ lw_privs_2, lw_okq q := List.forall_mem_cons.mpr ⟨lw_p16, List.forall_mem_cons.mpr ⟨lw_p17, List.forall_mem_cons.mpr ⟨lw_p18, List.forall_mem_cons.mpr ⟨lw_p19, List.forall_mem_cons.mpr ⟨lw_p20, List.forall_mem_cons.mpr ⟨lw_p21, List.forall_mem_cons.mpr ⟨lw_p22, List.forall_mem_cons.mpr ⟨lw_p23, List.forall_mem_cons.mpr ⟨lw_p24, List.forall_mem_cons.mpr ⟨lw_p25, List.forall_mem_cons.mpr ⟨lw_p26, List.forall_mem_cons.mpr ⟨lw_p27, List.forall_mem_cons.mpr ⟨lw_p28, List.forall_mem_cons.mpr ⟨lw_p29, List.forall_mem_cons.mpr ⟨lw_p30, List.forall_mem_cons.mpr ⟨lw_p31, fun _ h => absurd h List.not_mem_nil⟩⟩⟩⟩⟩⟩⟩⟩⟩⟩⟩⟩⟩⟩⟩⟩
theorem lw_p32 : lw_okq (⟨"AppealCourt$Reader", "toldProperty", "()I"⟩, 15) := ⟨⟨by decide +kernel, by decide +kernel⟩, List.mem_of_getElem? (i := 242) (by decide +kernel), List.mem_of_getElem? (i := 624) (by decide +kernel), List.mem_of_getElem? (i := 625) (by decide +kernel)⟩
theorem lw_p33 : lw_okq (⟨"AppealCourt$Reader", "property", "()I"⟩, 15) := ⟨⟨by decide +kernel, by decide +kernel⟩, List.mem_of_getElem? (i := 242) (by decide +kernel), List.mem_of_getElem? (i := 628) (by decide +kernel), List.mem_of_getElem? (i := 629) (by decide +kernel)⟩
theorem lw_p34 : lw_okq (⟨"AppealCourt$Reader", "restOfExpression", "(I)V"⟩, 15) := ⟨⟨by decide +kernel, by decide +kernel⟩, List.mem_of_getElem? (i := 242) (by decide +kernel), List.mem_of_getElem? (i := 632) (by decide +kernel), List.mem_of_getElem? (i := 633) (by decide +kernel)⟩
theorem lw_p35 : lw_okq (⟨"AppealCourt$Reader", "restOfProduct", "(I)V"⟩, 15) := ⟨⟨by decide +kernel, by decide +kernel⟩, List.mem_of_getElem? (i := 242) (by decide +kernel), List.mem_of_getElem? (i := 636) (by decide +kernel), List.mem_of_getElem? (i := 637) (by decide +kernel)⟩
theorem lw_p36 : lw_okq (⟨"AppealCourt$Reader", "restOfSum", "(I)V"⟩, 15) := ⟨⟨by decide +kernel, by decide +kernel⟩, List.mem_of_getElem? (i := 242) (by decide +kernel), List.mem_of_getElem? (i := 640) (by decide +kernel), List.mem_of_getElem? (i := 641) (by decide +kernel)⟩
theorem lw_p37 : lw_okq (⟨"AppealCourt$Reader", "loop", "(I)V"⟩, 15) := ⟨⟨by decide +kernel, by decide +kernel⟩, List.mem_of_getElem? (i := 242) (by decide +kernel), List.mem_of_getElem? (i := 648) (by decide +kernel), List.mem_of_getElem? (i := 649) (by decide +kernel)⟩
theorem lw_p38 : lw_okq (⟨"AppealCourt$Reader", "attempt", "(I)V"⟩, 15) := ⟨⟨by decide +kernel, by decide +kernel⟩, List.mem_of_getElem? (i := 242) (by decide +kernel), List.mem_of_getElem? (i := 652) (by decide +kernel), List.mem_of_getElem? (i := 653) (by decide +kernel)⟩
theorem lw_p39 : lw_okq (⟨"AppealCourt$Reader", "let", "(I)V"⟩, 15) := ⟨⟨by decide +kernel, by decide +kernel⟩, List.mem_of_getElem? (i := 242) (by decide +kernel), List.mem_of_getElem? (i := 656) (by decide +kernel), List.mem_of_getElem? (i := 657) (by decide +kernel)⟩
theorem lw_p40 : lw_okq (⟨"AppealCourt$Reader", "assignment", "(I)V"⟩, 15) := ⟨⟨by decide +kernel, by decide +kernel⟩, List.mem_of_getElem? (i := 242) (by decide +kernel), List.mem_of_getElem? (i := 660) (by decide +kernel), List.mem_of_getElem? (i := 661) (by decide +kernel)⟩
theorem lw_p41 : lw_okq (⟨"AppealCourt$Reader", "newObjection", "(II)V"⟩, 15) := ⟨⟨by decide +kernel, by decide +kernel⟩, List.mem_of_getElem? (i := 242) (by decide +kernel), List.mem_of_getElem? (i := 664) (by decide +kernel), List.mem_of_getElem? (i := 665) (by decide +kernel)⟩
theorem lw_p42 : lw_okq (⟨"AppealCourt$Reader", "objectOrNone", "()I"⟩, 15) := ⟨⟨by decide +kernel, by decide +kernel⟩, List.mem_of_getElem? (i := 242) (by decide +kernel), List.mem_of_getElem? (i := 668) (by decide +kernel), List.mem_of_getElem? (i := 669) (by decide +kernel)⟩
theorem lw_p43 : lw_okq (⟨"AppealCourt$Reader", "otherObjection", "(I)V"⟩, 15) := ⟨⟨by decide +kernel, by decide +kernel⟩, List.mem_of_getElem? (i := 242) (by decide +kernel), List.mem_of_getElem? (i := 672) (by decide +kernel), List.mem_of_getElem? (i := 673) (by decide +kernel)⟩
theorem lw_p44 : lw_okq (⟨"AppealCourt$Reader", "raising", "()V"⟩, 15) := ⟨⟨by decide +kernel, by decide +kernel⟩, List.mem_of_getElem? (i := 242) (by decide +kernel), List.mem_of_getElem? (i := 676) (by decide +kernel), List.mem_of_getElem? (i := 677) (by decide +kernel)⟩
theorem lw_p45 : lw_okq (⟨"AppealCourt$Reader", "joining", "()V"⟩, 15) := ⟨⟨by decide +kernel, by decide +kernel⟩, List.mem_of_getElem? (i := 242) (by decide +kernel), List.mem_of_getElem? (i := 680) (by decide +kernel), List.mem_of_getElem? (i := 681) (by decide +kernel)⟩
theorem lw_p46 : lw_okq (⟨"AppealCourt$Reader", "noting", "(I)V"⟩, 15) := ⟨⟨by decide +kernel, by decide +kernel⟩, List.mem_of_getElem? (i := 242) (by decide +kernel), List.mem_of_getElem? (i := 684) (by decide +kernel), List.mem_of_getElem? (i := 685) (by decide +kernel)⟩
theorem lw_p47 : lw_okq (⟨"AppealCourt$Reader", "hearingOther", "(I)V"⟩, 15) := ⟨⟨by decide +kernel, by decide +kernel⟩, List.mem_of_getElem? (i := 242) (by decide +kernel), List.mem_of_getElem? (i := 688) (by decide +kernel), List.mem_of_getElem? (i := 689) (by decide +kernel)⟩
def lw_privs_3 : List (MethodName × Nat) := [(⟨"AppealCourt$Reader", "toldProperty", "()I"⟩, 15), (⟨"AppealCourt$Reader", "property", "()I"⟩, 15), (⟨"AppealCourt$Reader", "restOfExpression", "(I)V"⟩, 15), (⟨"AppealCourt$Reader", "restOfProduct", "(I)V"⟩, 15), (⟨"AppealCourt$Reader", "restOfSum", "(I)V"⟩, 15), (⟨"AppealCourt$Reader", "loop", "(I)V"⟩, 15), (⟨"AppealCourt$Reader", "attempt", "(I)V"⟩, 15), (⟨"AppealCourt$Reader", "let", "(I)V"⟩, 15), (⟨"AppealCourt$Reader", "assignment", "(I)V"⟩, 15), (⟨"AppealCourt$Reader", "newObjection", "(II)V"⟩, 15), (⟨"AppealCourt$Reader", "objectOrNone", "()I"⟩, 15), (⟨"AppealCourt$Reader", "otherObjection", "(I)V"⟩, 15), (⟨"AppealCourt$Reader", "raising", "()V"⟩, 15), (⟨"AppealCourt$Reader", "joining", "()V"⟩, 15), (⟨"AppealCourt$Reader", "noting", "(I)V"⟩, 15), (⟨"AppealCourt$Reader", "hearingOther", "(I)V"⟩, 15)]
theorem lw_r3 : ∀ q ∈ lw_privs_3, lw_okq q := List.forall_mem_cons.mpr ⟨lw_p32, List.forall_mem_cons.mpr ⟨lw_p33, List.forall_mem_cons.mpr ⟨lw_p34, List.forall_mem_cons.mpr ⟨lw_p35, List.forall_mem_cons.mpr ⟨lw_p36, List.forall_mem_cons.mpr ⟨lw_p37, List.forall_mem_cons.mpr ⟨lw_p38, List.forall_mem_cons.mpr ⟨lw_p39, List.forall_mem_cons.mpr ⟨lw_p40, List.forall_mem_cons.mpr ⟨lw_p41, List.forall_mem_cons.mpr ⟨lw_p42, List.forall_mem_cons.mpr ⟨lw_p43, List.forall_mem_cons.mpr ⟨lw_p44, List.forall_mem_cons.mpr ⟨lw_p45, List.forall_mem_cons.mpr ⟨lw_p46, List.forall_mem_cons.mpr ⟨lw_p47, fun _ h => absurd h List.not_mem_nil⟩⟩⟩⟩⟩⟩⟩⟩⟩⟩⟩⟩⟩⟩⟩⟩
theorem lw_p48 : lw_okq (⟨"AppealCourt$Reader", "keepHear", "(II)V"⟩, 15) := ⟨⟨by decide +kernel, by decide +kernel⟩, List.mem_of_getElem? (i := 242) (by decide +kernel), List.mem_of_getElem? (i := 692) (by decide +kernel), List.mem_of_getElem? (i := 693) (by decide +kernel)⟩
theorem lw_p49 : lw_okq (⟨"AppealCourt$Reader", "resting", "(I)V"⟩, 15) := ⟨⟨by decide +kernel, by decide +kernel⟩, List.mem_of_getElem? (i := 242) (by decide +kernel), List.mem_of_getElem? (i := 696) (by decide +kernel), List.mem_of_getElem? (i := 697) (by decide +kernel)⟩
theorem lw_p50 : lw_okq (⟨"AppealCourt$Reader", "findHearings", "()V"⟩, 15) := ⟨⟨by decide +kernel, by decide +kernel⟩, List.mem_of_getElem? (i := 242) (by decide +kernel), List.mem_of_getElem? (i := 704) (by decide +kernel), List.mem_of_getElem? (i := 705) (by decide +kernel)⟩
theorem lw_p51 : lw_okq (⟨"AppealCourt$Session", "start", "(III)V"⟩, 16) := ⟨⟨by decide +kernel, by decide +kernel⟩, List.mem_of_getElem? (i := 117) (by decide +kernel), List.mem_of_getElem? (i := 792) (by decide +kernel), List.mem_of_getElem? (i := 793) (by decide +kernel)⟩
theorem lw_p52 : lw_okq (⟨"AppealCourt$Session", "begin", "(I)V"⟩, 16) := ⟨⟨by decide +kernel, by decide +kernel⟩, List.mem_of_getElem? (i := 117) (by decide +kernel), List.mem_of_getElem? (i := 796) (by decide +kernel), List.mem_of_getElem? (i := 797) (by decide +kernel)⟩
theorem lw_p53 : lw_okq (⟨"AppealCourt$Session", "setNumber", "(II)V"⟩, 16) := ⟨⟨by decide +kernel, by decide +kernel⟩, List.mem_of_getElem? (i := 117) (by decide +kernel), List.mem_of_getElem? (i := 800) (by decide +kernel), List.mem_of_getElem? (i := 801) (by decide +kernel)⟩
theorem lw_p54 : lw_okq (⟨"AppealCourt$Session", "setObject", "(II)V"⟩, 16) := ⟨⟨by decide +kernel, by decide +kernel⟩, List.mem_of_getElem? (i := 117) (by decide +kernel), List.mem_of_getElem? (i := 804) (by decide +kernel), List.mem_of_getElem? (i := 805) (by decide +kernel)⟩
theorem lw_p55 : lw_okq (⟨"AppealCourt$Session", "fetch", "()I"⟩, 16) := ⟨⟨by decide +kernel, by decide +kernel⟩, List.mem_of_getElem? (i := 117) (by decide +kernel), List.mem_of_getElem? (i := 814) (by decide +kernel), List.mem_of_getElem? (i := 815) (by decide +kernel)⟩
theorem lw_p56 : lw_okq (⟨"AppealCourt$Session", "doCourse", "(I)V"⟩, 16) := ⟨⟨by decide +kernel, by decide +kernel⟩, List.mem_of_getElem? (i := 117) (by decide +kernel), List.mem_of_getElem? (i := 819) (by decide +kernel), List.mem_of_getElem? (i := 820) (by decide +kernel)⟩
theorem lw_p57 : lw_okq (⟨"AppealCourt$Session", "countStep", "()V"⟩, 16) := ⟨⟨by decide +kernel, by decide +kernel⟩, List.mem_of_getElem? (i := 117) (by decide +kernel), List.mem_of_getElem? (i := 823) (by decide +kernel), List.mem_of_getElem? (i := 824) (by decide +kernel)⟩
theorem lw_p58 : lw_okq (⟨"AppealCourt$Session", "pop", "()I"⟩, 16) := ⟨⟨by decide +kernel, by decide +kernel⟩, List.mem_of_getElem? (i := 117) (by decide +kernel), List.mem_of_getElem? (i := 827) (by decide +kernel), List.mem_of_getElem? (i := 828) (by decide +kernel)⟩
theorem lw_p59 : lw_okq (⟨"AppealCourt$Session", "putNote", "(I)V"⟩, 16) := ⟨⟨by decide +kernel, by decide +kernel⟩, List.mem_of_getElem? (i := 117) (by decide +kernel), List.mem_of_getElem? (i := 831) (by decide +kernel), List.mem_of_getElem? (i := 832) (by decide +kernel)⟩
theorem lw_p60 : lw_okq (⟨"AppealCourt$Session", "hear", "()V"⟩, 16) := ⟨⟨by decide +kernel, by decide +kernel⟩, List.mem_of_getElem? (i := 117) (by decide +kernel), List.mem_of_getElem? (i := 839) (by decide +kernel), List.mem_of_getElem? (i := 840) (by decide +kernel)⟩
theorem lw_p61 : lw_okq (⟨"AppealCourt$Session", "rest", "(I)V"⟩, 16) := ⟨⟨by decide +kernel, by decide +kernel⟩, List.mem_of_getElem? (i := 117) (by decide +kernel), List.mem_of_getElem? (i := 843) (by decide +kernel), List.mem_of_getElem? (i := 844) (by decide +kernel)⟩
theorem lw_p62 : lw_okq (⟨"AppealCourt$Session", "tryField", "(II)I"⟩, 16) := ⟨⟨by decide +kernel, by decide +kernel⟩, List.mem_of_getElem? (i := 117) (by decide +kernel), List.mem_of_getElem? (i := 847) (by decide +kernel), List.mem_of_getElem? (i := 848) (by decide +kernel)⟩
theorem lw_p63 : lw_okq (⟨"AppealCourt$Session", "doLastly", "(II)V"⟩, 16) := ⟨⟨by decide +kernel, by decide +kernel⟩, List.mem_of_getElem? (i := 117) (by decide +kernel), List.mem_of_getElem? (i := 851) (by decide +kernel), List.mem_of_getElem? (i := 852) (by decide +kernel)⟩
def lw_privs_4 : List (MethodName × Nat) := [(⟨"AppealCourt$Reader", "keepHear", "(II)V"⟩, 15), (⟨"AppealCourt$Reader", "resting", "(I)V"⟩, 15), (⟨"AppealCourt$Reader", "findHearings", "()V"⟩, 15), (⟨"AppealCourt$Session", "start", "(III)V"⟩, 16), (⟨"AppealCourt$Session", "begin", "(I)V"⟩, 16), (⟨"AppealCourt$Session", "setNumber", "(II)V"⟩, 16), (⟨"AppealCourt$Session", "setObject", "(II)V"⟩, 16), (⟨"AppealCourt$Session", "fetch", "()I"⟩, 16), (⟨"AppealCourt$Session", "doCourse", "(I)V"⟩, 16), (⟨"AppealCourt$Session", "countStep", "()V"⟩, 16), (⟨"AppealCourt$Session", "pop", "()I"⟩, 16), (⟨"AppealCourt$Session", "putNote", "(I)V"⟩, 16), (⟨"AppealCourt$Session", "hear", "()V"⟩, 16), (⟨"AppealCourt$Session", "rest", "(I)V"⟩, 16), (⟨"AppealCourt$Session", "tryField", "(II)I"⟩, 16), (⟨"AppealCourt$Session", "doLastly", "(II)V"⟩, 16)]
theorem lw_r4 : ∀ q ∈ lw_privs_4, lw_okq q := List.forall_mem_cons.mpr ⟨lw_p48, List.forall_mem_cons.mpr ⟨lw_p49, List.forall_mem_cons.mpr ⟨lw_p50, List.forall_mem_cons.mpr ⟨lw_p51, List.forall_mem_cons.mpr ⟨lw_p52, List.forall_mem_cons.mpr ⟨lw_p53, List.forall_mem_cons.mpr ⟨lw_p54, List.forall_mem_cons.mpr ⟨lw_p55, List.forall_mem_cons.mpr ⟨lw_p56, List.forall_mem_cons.mpr ⟨lw_p57, List.forall_mem_cons.mpr ⟨lw_p58, List.forall_mem_cons.mpr ⟨lw_p59, List.forall_mem_cons.mpr ⟨lw_p60, List.forall_mem_cons.mpr ⟨lw_p61, List.forall_mem_cons.mpr ⟨lw_p62, List.forall_mem_cons.mpr ⟨lw_p63, fun _ h => absurd h List.not_mem_nil⟩⟩⟩⟩⟩⟩⟩⟩⟩⟩⟩⟩⟩⟩⟩⟩
theorem lw_p64 : lw_okq (⟨"AppealCourt$Session", "setTryField", "(III)V"⟩, 16) := ⟨⟨by decide +kernel, by decide +kernel⟩, List.mem_of_getElem? (i := 117) (by decide +kernel), List.mem_of_getElem? (i := 855) (by decide +kernel), List.mem_of_getElem? (i := 856) (by decide +kernel)⟩
theorem lw_p65 : lw_okq (⟨"AppealCourt$Session", "push", "(I)V"⟩, 16) := ⟨⟨by decide +kernel, by decide +kernel⟩, List.mem_of_getElem? (i := 117) (by decide +kernel), List.mem_of_getElem? (i := 859) (by decide +kernel), List.mem_of_getElem? (i := 860) (by decide +kernel)⟩
theorem lw_p66 : lw_okq (⟨"AppealCourt$Session", "openTry", "()V"⟩, 16) := ⟨⟨by decide +kernel, by decide +kernel⟩, List.mem_of_getElem? (i := 117) (by decide +kernel), List.mem_of_getElem? (i := 863) (by decide +kernel), List.mem_of_getElem? (i := 864) (by decide +kernel)⟩
theorem lw_p67 : lw_okq (⟨"AppealCourt$Session", "goOnBehindLastly", "()V"⟩, 16) := ⟨⟨by decide +kernel, by decide +kernel⟩, List.mem_of_getElem? (i := 117) (by decide +kernel), List.mem_of_getElem? (i := 867) (by decide +kernel), List.mem_of_getElem? (i := 868) (by decide +kernel)⟩
theorem lw_p68 : lw_okq (⟨"AppealCourt$Session", "doNumber", "(I)V"⟩, 16) := ⟨⟨by decide +kernel, by decide +kernel⟩, List.mem_of_getElem? (i := 117) (by decide +kernel), List.mem_of_getElem? (i := 871) (by decide +kernel), List.mem_of_getElem? (i := 872) (by decide +kernel)⟩
theorem lw_p69 : lw_okq (⟨"AppealCourt$Session", "numberAt", "(I)I"⟩, 16) := ⟨⟨by decide +kernel, by decide +kernel⟩, List.mem_of_getElem? (i := 117) (by decide +kernel), List.mem_of_getElem? (i := 875) (by decide +kernel), List.mem_of_getElem? (i := 876) (by decide +kernel)⟩
theorem lw_p70 : lw_okq (⟨"AppealCourt$Session", "doTwoNumbers", "(I)V"⟩, 16) := ⟨⟨by decide +kernel, by decide +kernel⟩, List.mem_of_getElem? (i := 117) (by decide +kernel), List.mem_of_getElem? (i := 879) (by decide +kernel), List.mem_of_getElem? (i := 880) (by decide +kernel)⟩
theorem lw_p71 : lw_okq (⟨"AppealCourt$Session", "raiseNew", "(II)V"⟩, 16) := ⟨⟨by decide +kernel, by decide +kernel⟩, List.mem_of_getElem? (i := 117) (by decide +kernel), List.mem_of_getElem? (i := 883) (by decide +kernel), List.mem_of_getElem? (i := 884) (by decide +kernel)⟩
theorem lw_p72 : lw_okq (⟨"AppealCourt$Session", "doObjection", "(I)V"⟩, 16) := ⟨⟨by decide +kernel, by decide +kernel⟩, List.mem_of_getElem? (i := 117) (by decide +kernel), List.mem_of_getElem? (i := 895) (by decide +kernel), List.mem_of_getElem? (i := 896) (by decide +kernel)⟩
theorem lw_p73 : lw_okq (⟨"AppealCourt$Session", "tellOf", "(II)V"⟩, 16) := ⟨⟨by decide +kernel, by decide +kernel⟩, List.mem_of_getElem? (i := 117) (by decide +kernel), List.mem_of_getElem? (i := 899) (by decide +kernel), List.mem_of_getElem? (i := 900) (by decide +kernel)⟩
theorem lw_p74 : lw_okq (⟨"AppealCourt$Session", "objectAt", "(I)I"⟩, 16) := ⟨⟨by decide +kernel, by decide +kernel⟩, List.mem_of_getElem? (i := 117) (by decide +kernel), List.mem_of_getElem? (i := 903) (by decide +kernel), List.mem_of_getElem? (i := 904) (by decide +kernel)⟩
theorem lw_p75 : lw_okq (⟨"AppealCourt$Docket", "get", "(II)I"⟩, 4) := ⟨⟨by decide +kernel, by decide +kernel⟩, List.mem_of_getElem? (i := 57) (by decide +kernel), List.mem_of_getElem? (i := 911) (by decide +kernel), List.mem_of_getElem? (i := 912) (by decide +kernel)⟩
theorem lw_p76 : lw_okq (⟨"AppealCourt$Docket", "chainLength", "(I)I"⟩, 4) := ⟨⟨by decide +kernel, by decide +kernel⟩, List.mem_of_getElem? (i := 57) (by decide +kernel), List.mem_of_getElem? (i := 923) (by decide +kernel), List.mem_of_getElem? (i := 924) (by decide +kernel)⟩
theorem lw_p77 : lw_okq (⟨"AppealCourt$Session", "pushIs", "(II)V"⟩, 16) := ⟨⟨by decide +kernel, by decide +kernel⟩, List.mem_of_getElem? (i := 117) (by decide +kernel), List.mem_of_getElem? (i := 927) (by decide +kernel), List.mem_of_getElem? (i := 928) (by decide +kernel)⟩
theorem lw_p78 : lw_okq (⟨"AppealCourt$Session", "holdCause", "(II)V"⟩, 16) := ⟨⟨by decide +kernel, by decide +kernel⟩, List.mem_of_getElem? (i := 117) (by decide +kernel), List.mem_of_getElem? (i := 939) (by decide +kernel), List.mem_of_getElem? (i := 940) (by decide +kernel)⟩
theorem lw_p79 : lw_okq (⟨"AppealCourt$Session", "holdNew", "(I)V"⟩, 16) := ⟨⟨by decide +kernel, by decide +kernel⟩, List.mem_of_getElem? (i := 117) (by decide +kernel), List.mem_of_getElem? (i := 947) (by decide +kernel), List.mem_of_getElem? (i := 948) (by decide +kernel)⟩
def lw_privs_5 : List (MethodName × Nat) := [(⟨"AppealCourt$Session", "setTryField", "(III)V"⟩, 16), (⟨"AppealCourt$Session", "push", "(I)V"⟩, 16), (⟨"AppealCourt$Session", "openTry", "()V"⟩, 16), (⟨"AppealCourt$Session", "goOnBehindLastly", "()V"⟩, 16), (⟨"AppealCourt$Session", "doNumber", "(I)V"⟩, 16), (⟨"AppealCourt$Session", "numberAt", "(I)I"⟩, 16), (⟨"AppealCourt$Session", "doTwoNumbers", "(I)V"⟩, 16), (⟨"AppealCourt$Session", "raiseNew", "(II)V"⟩, 16), (⟨"AppealCourt$Session", "doObjection", "(I)V"⟩, 16), (⟨"AppealCourt$Session", "tellOf", "(II)V"⟩, 16), (⟨"AppealCourt$Session", "objectAt", "(I)I"⟩, 16), (⟨"AppealCourt$Docket", "get", "(II)I"⟩, 4), (⟨"AppealCourt$Docket", "chainLength", "(I)I"⟩, 4), (⟨"AppealCourt$Session", "pushIs", "(II)V"⟩, 16), (⟨"AppealCourt$Session", "holdCause", "(II)V"⟩, 16), (⟨"AppealCourt$Session", "holdNew", "(I)V"⟩, 16)]
theorem lw_r5 : ∀ q ∈ lw_privs_5, lw_okq q := List.forall_mem_cons.mpr ⟨lw_p64, List.forall_mem_cons.mpr ⟨lw_p65, List.forall_mem_cons.mpr ⟨lw_p66, List.forall_mem_cons.mpr ⟨lw_p67, List.forall_mem_cons.mpr ⟨lw_p68, List.forall_mem_cons.mpr ⟨lw_p69, List.forall_mem_cons.mpr ⟨lw_p70, List.forall_mem_cons.mpr ⟨lw_p71, List.forall_mem_cons.mpr ⟨lw_p72, List.forall_mem_cons.mpr ⟨lw_p73, List.forall_mem_cons.mpr ⟨lw_p74, List.forall_mem_cons.mpr ⟨lw_p75, List.forall_mem_cons.mpr ⟨lw_p76, List.forall_mem_cons.mpr ⟨lw_p77, List.forall_mem_cons.mpr ⟨lw_p78, List.forall_mem_cons.mpr ⟨lw_p79, fun _ h => absurd h List.not_mem_nil⟩⟩⟩⟩⟩⟩⟩⟩⟩⟩⟩⟩⟩⟩⟩⟩
theorem lw_p80 : lw_okq (⟨"AppealCourt$Docket", "exists", "(I)Z"⟩, 4) := ⟨⟨by decide +kernel, by decide +kernel⟩, List.mem_of_getElem? (i := 57) (by decide +kernel), List.mem_of_getElem? (i := 955) (by decide +kernel), List.mem_of_getElem? (i := 956) (by decide +kernel)⟩
theorem lw_p81 : lw_okq (⟨"AppealCourt$Session", "raiseHeld", "(I)V"⟩, 16) := ⟨⟨by decide +kernel, by decide +kernel⟩, List.mem_of_getElem? (i := 117) (by decide +kernel), List.mem_of_getElem? (i := 959) (by decide +kernel), List.mem_of_getElem? (i := 960) (by decide +kernel)⟩
theorem lw_p82 : lw_okq (⟨"AppealCourt$Session", "joinHeld", "(II)V"⟩, 16) := ⟨⟨by decide +kernel, by decide +kernel⟩, List.mem_of_getElem? (i := 117) (by decide +kernel), List.mem_of_getElem? (i := 963) (by decide +kernel), List.mem_of_getElem? (i := 964) (by decide +kernel)⟩
theorem lw_p83 : lw_okq (⟨"AppealCourt$Session", "goOut", "()V"⟩, 16) := ⟨⟨by decide +kernel, by decide +kernel⟩, List.mem_of_getElem? (i := 117) (by decide +kernel), List.mem_of_getElem? (i := 972) (by decide +kernel), List.mem_of_getElem? (i := 973) (by decide +kernel)⟩
theorem lw_p84 : lw_okq (⟨"AppealCourt$Session", "upholdFor", "(I)I"⟩, 16) := ⟨⟨by decide +kernel, by decide +kernel⟩, List.mem_of_getElem? (i := 117) (by decide +kernel), List.mem_of_getElem? (i := 976) (by decide +kernel), List.mem_of_getElem? (i := 977) (by decide +kernel)⟩
theorem lw_p85 : lw_okq (⟨"AppealCourt$Session", "doUphold", "(I)V"⟩, 16) := ⟨⟨by decide +kernel, by decide +kernel⟩, List.mem_of_getElem? (i := 117) (by decide +kernel), List.mem_of_getElem? (i := 980) (by decide +kernel), List.mem_of_getElem? (i := 981) (by decide +kernel)⟩
theorem lw_p86 : lw_okq (⟨"AppealCourt$Bench", "policyIndex", "(II)I"⟩, 6) := ⟨⟨by decide +kernel, by decide +kernel⟩, List.mem_of_getElem? (i := 174) (by decide +kernel), List.mem_of_getElem? (i := 993) (by decide +kernel), List.mem_of_getElem? (i := 994) (by decide +kernel)⟩
theorem lw_p87 : lw_okq (⟨"AppealCourt$Bench", "dealtWith", "(IIII)I"⟩, 6) := ⟨⟨by decide +kernel, by decide +kernel⟩, List.mem_of_getElem? (i := 174) (by decide +kernel), List.mem_of_getElem? (i := 998) (by decide +kernel), List.mem_of_getElem? (i := 999) (by decide +kernel)⟩
theorem lw_p88 : lw_okq (⟨"AppealCourt$Bench", "struck", "(II)I"⟩, 6) := ⟨⟨by decide +kernel, by decide +kernel⟩, List.mem_of_getElem? (i := 174) (by decide +kernel), List.mem_of_getElem? (i := 1002) (by decide +kernel), List.mem_of_getElem? (i := 1003) (by decide +kernel)⟩
theorem lw_p89 : lw_okq (⟨"AppealCourt$Bench", "wrapped", "(II)I"⟩, 6) := ⟨⟨by decide +kernel, by decide +kernel⟩, List.mem_of_getElem? (i := 174) (by decide +kernel), List.mem_of_getElem? (i := 1010) (by decide +kernel), List.mem_of_getElem? (i := 1011) (by decide +kernel)⟩
theorem lw_p90 : lw_okq (⟨"AppealCourt$Bench", "entered", "(II)I"⟩, 6) := ⟨⟨by decide +kernel, by decide +kernel⟩, List.mem_of_getElem? (i := 174) (by decide +kernel), List.mem_of_getElem? (i := 1021) (by decide +kernel), List.mem_of_getElem? (i := 1022) (by decide +kernel)⟩
theorem lw_p91 : lw_okq (⟨"AppealCourt$Docket", "inChain", "(II)I"⟩, 4) := ⟨⟨by decide +kernel, by decide +kernel⟩, List.mem_of_getElem? (i := 57) (by decide +kernel), List.mem_of_getElem? (i := 1059) (by decide +kernel), List.mem_of_getElem? (i := 1060) (by decide +kernel)⟩
theorem lw_p92 : lw_okq (⟨"AppealCourtModel", "word4", "(I)V"⟩, 88) := ⟨⟨by decide +kernel, by decide +kernel⟩, List.mem_of_getElem? (i := 1069) (by decide +kernel), List.mem_of_getElem? (i := 1345) (by decide +kernel), List.mem_of_getElem? (i := 1346) (by decide +kernel)⟩
theorem lw_p93 : lw_okq (⟨"AppealCourtModel", "next", "()V"⟩, 88) := ⟨⟨by decide +kernel, by decide +kernel⟩, List.mem_of_getElem? (i := 1069) (by decide +kernel), List.mem_of_getElem? (i := 1353) (by decide +kernel), List.mem_of_getElem? (i := 1354) (by decide +kernel)⟩
theorem lw_p94 : lw_okq (⟨"AppealCourtModel", "byteAt", "(I)I"⟩, 88) := ⟨⟨by decide +kernel, by decide +kernel⟩, List.mem_of_getElem? (i := 1069) (by decide +kernel), List.mem_of_getElem? (i := 1357) (by decide +kernel), List.mem_of_getElem? (i := 1358) (by decide +kernel)⟩
theorem lw_p95 : lw_okq (⟨"AppealCourtModel", "wordToken", "(I)V"⟩, 88) := ⟨⟨by decide +kernel, by decide +kernel⟩, List.mem_of_getElem? (i := 1069) (by decide +kernel), List.mem_of_getElem? (i := 1373) (by decide +kernel), List.mem_of_getElem? (i := 1374) (by decide +kernel)⟩
def lw_privs_6 : List (MethodName × Nat) := [(⟨"AppealCourt$Docket", "exists", "(I)Z"⟩, 4), (⟨"AppealCourt$Session", "raiseHeld", "(I)V"⟩, 16), (⟨"AppealCourt$Session", "joinHeld", "(II)V"⟩, 16), (⟨"AppealCourt$Session", "goOut", "()V"⟩, 16), (⟨"AppealCourt$Session", "upholdFor", "(I)I"⟩, 16), (⟨"AppealCourt$Session", "doUphold", "(I)V"⟩, 16), (⟨"AppealCourt$Bench", "policyIndex", "(II)I"⟩, 6), (⟨"AppealCourt$Bench", "dealtWith", "(IIII)I"⟩, 6), (⟨"AppealCourt$Bench", "struck", "(II)I"⟩, 6), (⟨"AppealCourt$Bench", "wrapped", "(II)I"⟩, 6), (⟨"AppealCourt$Bench", "entered", "(II)I"⟩, 6), (⟨"AppealCourt$Docket", "inChain", "(II)I"⟩, 4), (⟨"AppealCourtModel", "word4", "(I)V"⟩, 88), (⟨"AppealCourtModel", "next", "()V"⟩, 88), (⟨"AppealCourtModel", "byteAt", "(I)I"⟩, 88), (⟨"AppealCourtModel", "wordToken", "(I)V"⟩, 88)]
theorem lw_r6 : ∀ q ∈ lw_privs_6, lw_okq q := List.forall_mem_cons.mpr ⟨lw_p80, List.forall_mem_cons.mpr ⟨lw_p81, List.forall_mem_cons.mpr ⟨lw_p82, List.forall_mem_cons.mpr ⟨lw_p83, List.forall_mem_cons.mpr ⟨lw_p84, List.forall_mem_cons.mpr ⟨lw_p85, List.forall_mem_cons.mpr ⟨lw_p86, List.forall_mem_cons.mpr ⟨lw_p87, List.forall_mem_cons.mpr ⟨lw_p88, List.forall_mem_cons.mpr ⟨lw_p89, List.forall_mem_cons.mpr ⟨lw_p90, List.forall_mem_cons.mpr ⟨lw_p91, List.forall_mem_cons.mpr ⟨lw_p92, List.forall_mem_cons.mpr ⟨lw_p93, List.forall_mem_cons.mpr ⟨lw_p94, List.forall_mem_cons.mpr ⟨lw_p95, fun _ h => absurd h List.not_mem_nil⟩⟩⟩⟩⟩⟩⟩⟩⟩⟩⟩⟩⟩⟩⟩⟩
theorem lw_p96 : lw_okq (⟨"AppealCourtModel", "among", "(Ljava/lang/String;)I"⟩, 88) := ⟨⟨by decide +kernel, by decide +kernel⟩, List.mem_of_getElem? (i := 1069) (by decide +kernel), List.mem_of_getElem? (i := 1379) (by decide +kernel), List.mem_of_getElem? (i := 1380) (by decide +kernel)⟩
theorem lw_p97 : lw_okq (⟨"AppealCourtModel", "name", "()I"⟩, 88) := ⟨⟨by decide +kernel, by decide +kernel⟩, List.mem_of_getElem? (i := 1069) (by decide +kernel), List.mem_of_getElem? (i := 1385) (by decide +kernel), List.mem_of_getElem? (i := 1386) (by decide +kernel)⟩
theorem lw_p98 : lw_okq (⟨"AppealCourtModel", "text", "()V"⟩, 88) := ⟨⟨by decide +kernel, by decide +kernel⟩, List.mem_of_getElem? (i := 1069) (by decide +kernel), List.mem_of_getElem? (i := 1389) (by decide +kernel), List.mem_of_getElem? (i := 1390) (by decide +kernel)⟩
theorem lw_p99 : lw_okq (⟨"AppealCourtModel", "bad", "()Z"⟩, 88) := ⟨⟨by decide +kernel, by decide +kernel⟩, List.mem_of_getElem? (i := 1069) (by decide +kernel), List.mem_of_getElem? (i := 1393) (by decide +kernel), List.mem_of_getElem? (i := 1394) (by decide +kernel)⟩
theorem lw_p100 : lw_okq (⟨"AppealCourtModel", "needWord", "(I)V"⟩, 88) := ⟨⟨by decide +kernel, by decide +kernel⟩, List.mem_of_getElem? (i := 1069) (by decide +kernel), List.mem_of_getElem? (i := 1397) (by decide +kernel), List.mem_of_getElem? (i := 1398) (by decide +kernel)⟩
theorem lw_p101 : lw_okq (⟨"AppealCourtModel", "isWord", "(I)Z"⟩, 88) := ⟨⟨by decide +kernel, by decide +kernel⟩, List.mem_of_getElem? (i := 1069) (by decide +kernel), List.mem_of_getElem? (i := 1401) (by decide +kernel), List.mem_of_getElem? (i := 1402) (by decide +kernel)⟩
theorem lw_p102 : lw_okq (⟨"AppealCourtModel", "pass", "()V"⟩, 88) := ⟨⟨by decide +kernel, by decide +kernel⟩, List.mem_of_getElem? (i := 1069) (by decide +kernel), List.mem_of_getElem? (i := 1405) (by decide +kernel), List.mem_of_getElem? (i := 1406) (by decide +kernel)⟩
theorem lw_p103 : lw_okq (⟨"AppealCourtModel", "fail", "()V"⟩, 88) := ⟨⟨by decide +kernel, by decide +kernel⟩, List.mem_of_getElem? (i := 1069) (by decide +kernel), List.mem_of_getElem? (i := 1409) (by decide +kernel), List.mem_of_getElem? (i := 1410) (by decide +kernel)⟩
theorem lw_p104 : lw_okq (⟨"AppealCourtModel", "taken", "(I)I"⟩, 88) := ⟨⟨by decide +kernel, by decide +kernel⟩, List.mem_of_getElem? (i := 1069) (by decide +kernel), List.mem_of_getElem? (i := 1413) (by decide +kernel), List.mem_of_getElem? (i := 1414) (by decide +kernel)⟩
theorem lw_p105 : lw_okq (⟨"AppealCourtModel", "hearing", "()V"⟩, 88) := ⟨⟨by decide +kernel, by decide +kernel⟩, List.mem_of_getElem? (i := 1069) (by decide +kernel), List.mem_of_getElem? (i := 1420) (by decide +kernel), List.mem_of_getElem? (i := 1421) (by decide +kernel)⟩
theorem lw_p106 : lw_okq (⟨"AppealCourtModel", "opens", "(I)V"⟩, 88) := ⟨⟨by decide +kernel, by decide +kernel⟩, List.mem_of_getElem? (i := 1069) (by decide +kernel), List.mem_of_getElem? (i := 1424) (by decide +kernel), List.mem_of_getElem? (i := 1425) (by decide +kernel)⟩
theorem lw_p107 : lw_okq (⟨"AppealCourtModel", "isSign", "(I)Z"⟩, 88) := ⟨⟨by decide +kernel, by decide +kernel⟩, List.mem_of_getElem? (i := 1069) (by decide +kernel), List.mem_of_getElem? (i := 1428) (by decide +kernel), List.mem_of_getElem? (i := 1429) (by decide +kernel)⟩
theorem lw_p108 : lw_okq (⟨"AppealCourtModel", "parameter", "(I)V"⟩, 88) := ⟨⟨by decide +kernel, by decide +kernel⟩, List.mem_of_getElem? (i := 1069) (by decide +kernel), List.mem_of_getElem? (i := 1432) (by decide +kernel), List.mem_of_getElem? (i := 1433) (by decide +kernel)⟩
theorem lw_p109 : lw_okq (⟨"AppealCourtModel", "tell", "(II)V"⟩, 88) := ⟨⟨by decide +kernel, by decide +kernel⟩, List.mem_of_getElem? (i := 1069) (by decide +kernel), List.mem_of_getElem? (i := 1436) (by decide +kernel), List.mem_of_getElem? (i := 1437) (by decide +kernel)⟩
theorem lw_p110 : lw_okq (⟨"AppealCourtModel", "closes", "(I)V"⟩, 88) := ⟨⟨by decide +kernel, by decide +kernel⟩, List.mem_of_getElem? (i := 1069) (by decide +kernel), List.mem_of_getElem? (i := 1440) (by decide +kernel), List.mem_of_getElem? (i := 1441) (by decide +kernel)⟩
theorem lw_p111 : lw_okq (⟨"AppealCourtModel", "need", "(I)V"⟩, 88) := ⟨⟨by decide +kernel, by decide +kernel⟩, List.mem_of_getElem? (i := 1069) (by decide +kernel), List.mem_of_getElem? (i := 1444) (by decide +kernel), List.mem_of_getElem? (i := 1445) (by decide +kernel)⟩
def lw_privs_7 : List (MethodName × Nat) := [(⟨"AppealCourtModel", "among", "(Ljava/lang/String;)I"⟩, 88), (⟨"AppealCourtModel", "name", "()I"⟩, 88), (⟨"AppealCourtModel", "text", "()V"⟩, 88), (⟨"AppealCourtModel", "bad", "()Z"⟩, 88), (⟨"AppealCourtModel", "needWord", "(I)V"⟩, 88), (⟨"AppealCourtModel", "isWord", "(I)Z"⟩, 88), (⟨"AppealCourtModel", "pass", "()V"⟩, 88), (⟨"AppealCourtModel", "fail", "()V"⟩, 88), (⟨"AppealCourtModel", "taken", "(I)I"⟩, 88), (⟨"AppealCourtModel", "hearing", "()V"⟩, 88), (⟨"AppealCourtModel", "opens", "(I)V"⟩, 88), (⟨"AppealCourtModel", "isSign", "(I)Z"⟩, 88), (⟨"AppealCourtModel", "parameter", "(I)V"⟩, 88), (⟨"AppealCourtModel", "tell", "(II)V"⟩, 88), (⟨"AppealCourtModel", "closes", "(I)V"⟩, 88), (⟨"AppealCourtModel", "need", "(I)V"⟩, 88)]
theorem lw_r7 : ∀ q ∈ lw_privs_7, lw_okq q := List.forall_mem_cons.mpr ⟨lw_p96, List.forall_mem_cons.mpr ⟨lw_p97, List.forall_mem_cons.mpr ⟨lw_p98, List.forall_mem_cons.mpr ⟨lw_p99, List.forall_mem_cons.mpr ⟨lw_p100, List.forall_mem_cons.mpr ⟨lw_p101, List.forall_mem_cons.mpr ⟨lw_p102, List.forall_mem_cons.mpr ⟨lw_p103, List.forall_mem_cons.mpr ⟨lw_p104, List.forall_mem_cons.mpr ⟨lw_p105, List.forall_mem_cons.mpr ⟨lw_p106, List.forall_mem_cons.mpr ⟨lw_p107, List.forall_mem_cons.mpr ⟨lw_p108, List.forall_mem_cons.mpr ⟨lw_p109, List.forall_mem_cons.mpr ⟨lw_p110, List.forall_mem_cons.mpr ⟨lw_p111, fun _ h => absurd h List.not_mem_nil⟩⟩⟩⟩⟩⟩⟩⟩⟩⟩⟩⟩⟩⟩⟩⟩
theorem lw_p112 : lw_okq (⟨"AppealCourtModel", "here", "()I"⟩, 88) := ⟨⟨by decide +kernel, by decide +kernel⟩, List.mem_of_getElem? (i := 1069) (by decide +kernel), List.mem_of_getElem? (i := 1448) (by decide +kernel), List.mem_of_getElem? (i := 1449) (by decide +kernel)⟩
theorem lw_p113 : lw_okq (⟨"AppealCourtModel", "block", "()V"⟩, 88) := ⟨⟨by decide +kernel, by decide +kernel⟩, List.mem_of_getElem? (i := 1069) (by decide +kernel), List.mem_of_getElem? (i := 1452) (by decide +kernel), List.mem_of_getElem? (i := 1453) (by decide +kernel)⟩
theorem lw_p114 : lw_okq (⟨"AppealCourtModel", "statement", "()V"⟩, 88) := ⟨⟨by decide +kernel, by decide +kernel⟩, List.mem_of_getElem? (i := 1069) (by decide +kernel), List.mem_of_getElem? (i := 1456) (by decide +kernel), List.mem_of_getElem? (i := 1457) (by decide +kernel)⟩
theorem lw_p115 : lw_okq (⟨"AppealCourtModel", "put", "(IIII)I"⟩, 88) := ⟨⟨by decide +kernel, by decide +kernel⟩, List.mem_of_getElem? (i := 1069) (by decide +kernel), List.mem_of_getElem? (i := 1460) (by decide +kernel), List.mem_of_getElem? (i := 1461) (by decide +kernel)⟩
theorem lw_p116 : lw_okq (⟨"AppealCourtModel", "told", "(II)I"⟩, 88) := ⟨⟨by decide +kernel, by decide +kernel⟩, List.mem_of_getElem? (i := 1069) (by decide +kernel), List.mem_of_getElem? (i := 1464) (by decide +kernel), List.mem_of_getElem? (i := 1465) (by decide +kernel)⟩
theorem lw_p117 : lw_okq (⟨"AppealCourtModel", "whole", "()V"⟩, 88) := ⟨⟨by decide +kernel, by decide +kernel⟩, List.mem_of_getElem? (i := 1069) (by decide +kernel), List.mem_of_getElem? (i := 1468) (by decide +kernel), List.mem_of_getElem? (i := 1469) (by decide +kernel)⟩
theorem lw_p118 : lw_okq (⟨"AppealCourtModel", "sum", "()V"⟩, 88) := ⟨⟨by decide +kernel, by decide +kernel⟩, List.mem_of_getElem? (i := 1069) (by decide +kernel), List.mem_of_getElem? (i := 1472) (by decide +kernel), List.mem_of_getElem? (i := 1473) (by decide +kernel)⟩
theorem lw_p119 : lw_okq (⟨"AppealCourtModel", "product", "()V"⟩, 88) := ⟨⟨by decide +kernel, by decide +kernel⟩, List.mem_of_getElem? (i := 1069) (by decide +kernel), List.mem_of_getElem? (i := 1476) (by decide +kernel), List.mem_of_getElem? (i := 1477) (by decide +kernel)⟩
theorem lw_p120 : lw_okq (⟨"AppealCourtModel", "factor", "()V"⟩, 88) := ⟨⟨by decide +kernel, by decide +kernel⟩, List.mem_of_getElem? (i := 1069) (by decide +kernel), List.mem_of_getElem? (i := 1480) (by decide +kernel), List.mem_of_getElem? (i := 1481) (by decide +kernel)⟩
theorem lw_p121 : lw_okq (⟨"AppealCourtModel", "object", "()I"⟩, 88) := ⟨⟨by decide +kernel, by decide +kernel⟩, List.mem_of_getElem? (i := 1069) (by decide +kernel), List.mem_of_getElem? (i := 1484) (by decide +kernel), List.mem_of_getElem? (i := 1485) (by decide +kernel)⟩
theorem lw_p122 : lw_okq (⟨"AppealCourtModel", "asked", "(I)V"⟩, 88) := ⟨⟨by decide +kernel, by decide +kernel⟩, List.mem_of_getElem? (i := 1069) (by decide +kernel), List.mem_of_getElem? (i := 1488) (by decide +kernel), List.mem_of_getElem? (i := 1489) (by decide +kernel)⟩
theorem lw_p123 : lw_okq (⟨"AppealCourtModel", "productBehind", "()V"⟩, 88) := ⟨⟨by decide +kernel, by decide +kernel⟩, List.mem_of_getElem? (i := 1069) (by decide +kernel), List.mem_of_getElem? (i := 1492) (by decide +kernel), List.mem_of_getElem? (i := 1493) (by decide +kernel)⟩
theorem lw_p124 : lw_okq (⟨"AppealCourtModel", "sumBehind", "()V"⟩, 88) := ⟨⟨by decide +kernel, by decide +kernel⟩, List.mem_of_getElem? (i := 1069) (by decide +kernel), List.mem_of_getElem? (i := 1496) (by decide +kernel), List.mem_of_getElem? (i := 1497) (by decide +kernel)⟩
theorem lw_p125 : lw_okq (⟨"AppealCourtModel", "compared", "()V"⟩, 88) := ⟨⟨by decide +kernel, by decide +kernel⟩, List.mem_of_getElem? (i := 1069) (by decide +kernel), List.mem_of_getElem? (i := 1500) (by decide +kernel), List.mem_of_getElem? (i := 1501) (by decide +kernel)⟩
theorem lw_p126 : lw_okq (⟨"AppealCourtModel", "let", "()V"⟩, 88) := ⟨⟨by decide +kernel, by decide +kernel⟩, List.mem_of_getElem? (i := 1069) (by decide +kernel), List.mem_of_getElem? (i := 1504) (by decide +kernel), List.mem_of_getElem? (i := 1505) (by decide +kernel)⟩
theorem lw_p127 : lw_okq (⟨"AppealCourtModel", "hold", "()V"⟩, 88) := ⟨⟨by decide +kernel, by decide +kernel⟩, List.mem_of_getElem? (i := 1069) (by decide +kernel), List.mem_of_getElem? (i := 1508) (by decide +kernel), List.mem_of_getElem? (i := 1509) (by decide +kernel)⟩
def lw_privs_8 : List (MethodName × Nat) := [(⟨"AppealCourtModel", "here", "()I"⟩, 88), (⟨"AppealCourtModel", "block", "()V"⟩, 88), (⟨"AppealCourtModel", "statement", "()V"⟩, 88), (⟨"AppealCourtModel", "put", "(IIII)I"⟩, 88), (⟨"AppealCourtModel", "told", "(II)I"⟩, 88), (⟨"AppealCourtModel", "whole", "()V"⟩, 88), (⟨"AppealCourtModel", "sum", "()V"⟩, 88), (⟨"AppealCourtModel", "product", "()V"⟩, 88), (⟨"AppealCourtModel", "factor", "()V"⟩, 88), (⟨"AppealCourtModel", "object", "()I"⟩, 88), (⟨"AppealCourtModel", "asked", "(I)V"⟩, 88), (⟨"AppealCourtModel", "productBehind", "()V"⟩, 88), (⟨"AppealCourtModel", "sumBehind", "()V"⟩, 88), (⟨"AppealCourtModel", "compared", "()V"⟩, 88), (⟨"AppealCourtModel", "let", "()V"⟩, 88), (⟨"AppealCourtModel", "hold", "()V"⟩, 88)]
theorem lw_r8 : ∀ q ∈ lw_privs_8, lw_okq q := List.forall_mem_cons.mpr ⟨lw_p112, List.forall_mem_cons.mpr ⟨lw_p113, List.forall_mem_cons.mpr ⟨lw_p114, List.forall_mem_cons.mpr ⟨lw_p115, List.forall_mem_cons.mpr ⟨lw_p116, List.forall_mem_cons.mpr ⟨lw_p117, List.forall_mem_cons.mpr ⟨lw_p118, List.forall_mem_cons.mpr ⟨lw_p119, List.forall_mem_cons.mpr ⟨lw_p120, List.forall_mem_cons.mpr ⟨lw_p121, List.forall_mem_cons.mpr ⟨lw_p122, List.forall_mem_cons.mpr ⟨lw_p123, List.forall_mem_cons.mpr ⟨lw_p124, List.forall_mem_cons.mpr ⟨lw_p125, List.forall_mem_cons.mpr ⟨lw_p126, List.forall_mem_cons.mpr ⟨lw_p127, fun _ h => absurd h List.not_mem_nil⟩⟩⟩⟩⟩⟩⟩⟩⟩⟩⟩⟩⟩⟩⟩⟩
theorem lw_p128 : lw_okq (⟨"AppealCourtModel", "made", "(I)V"⟩, 88) := ⟨⟨by decide +kernel, by decide +kernel⟩, List.mem_of_getElem? (i := 1069) (by decide +kernel), List.mem_of_getElem? (i := 1512) (by decide +kernel), List.mem_of_getElem? (i := 1513) (by decide +kernel)⟩
theorem lw_p129 : lw_okq (⟨"AppealCourtModel", "join", "()V"⟩, 88) := ⟨⟨by decide +kernel, by decide +kernel⟩, List.mem_of_getElem? (i := 1069) (by decide +kernel), List.mem_of_getElem? (i := 1516) (by decide +kernel), List.mem_of_getElem? (i := 1517) (by decide +kernel)⟩
theorem lw_p130 : lw_okq (⟨"AppealCourtModel", "note", "()V"⟩, 88) := ⟨⟨by decide +kernel, by decide +kernel⟩, List.mem_of_getElem? (i := 1069) (by decide +kernel), List.mem_of_getElem? (i := 1520) (by decide +kernel), List.mem_of_getElem? (i := 1521) (by decide +kernel)⟩
theorem lw_p131 : lw_okq (⟨"AppealCourtModel", "wholeBehind", "()V"⟩, 88) := ⟨⟨by decide +kernel, by decide +kernel⟩, List.mem_of_getElem? (i := 1069) (by decide +kernel), List.mem_of_getElem? (i := 1524) (by decide +kernel), List.mem_of_getElem? (i := 1525) (by decide +kernel)⟩
theorem lw_p132 : lw_okq (⟨"AppealCourtModel", "hear", "()V"⟩, 88) := ⟨⟨by decide +kernel, by decide +kernel⟩, List.mem_of_getElem? (i := 1069) (by decide +kernel), List.mem_of_getElem? (i := 1528) (by decide +kernel), List.mem_of_getElem? (i := 1529) (by decide +kernel)⟩
theorem lw_p133 : lw_okq (⟨"AppealCourtModel", "choice", "()V"⟩, 88) := ⟨⟨by decide +kernel, by decide +kernel⟩, List.mem_of_getElem? (i := 1069) (by decide +kernel), List.mem_of_getElem? (i := 1532) (by decide +kernel), List.mem_of_getElem? (i := 1533) (by decide +kernel)⟩
theorem lw_p134 : lw_okq (⟨"AppealCourtModel", "loop", "()V"⟩, 88) := ⟨⟨by decide +kernel, by decide +kernel⟩, List.mem_of_getElem? (i := 1069) (by decide +kernel), List.mem_of_getElem? (i := 1536) (by decide +kernel), List.mem_of_getElem? (i := 1537) (by decide +kernel)⟩
theorem lw_p135 : lw_okq (⟨"AppealCourtModel", "trying", "()V"⟩, 88) := ⟨⟨by decide +kernel, by decide +kernel⟩, List.mem_of_getElem? (i := 1069) (by decide +kernel), List.mem_of_getElem? (i := 1540) (by decide +kernel), List.mem_of_getElem? (i := 1541) (by decide +kernel)⟩
theorem lw_p136 : lw_okq (⟨"AppealCourtModel", "makesOne", "(IIIIIZ)I"⟩, 88) := ⟨⟨by decide +kernel, by decide +kernel⟩, List.mem_of_getElem? (i := 1069) (by decide +kernel), List.mem_of_getElem? (i := 1556) (by decide +kernel), List.mem_of_getElem? (i := 1557) (by decide +kernel)⟩
theorem lw_p137 : lw_okq (⟨"AppealCourtModel", "deals", "(IIII)V"⟩, 88) := ⟨⟨by decide +kernel, by decide +kernel⟩, List.mem_of_getElem? (i := 1069) (by decide +kernel), List.mem_of_getElem? (i := 1564) (by decide +kernel), List.mem_of_getElem? (i := 1565) (by decide +kernel)⟩
theorem lw_p138 : lw_okq (⟨"AppealCourtModel", "below", "(IIII)V"⟩, 88) := ⟨⟨by decide +kernel, by decide +kernel⟩, List.mem_of_getElem? (i := 1069) (by decide +kernel), List.mem_of_getElem? (i := 1568) (by decide +kernel), List.mem_of_getElem? (i := 1569) (by decide +kernel)⟩
theorem lw_p139 : lw_okq (⟨"AppealCourtModel", "holds", "(III)V"⟩, 88) := ⟨⟨by decide +kernel, by decide +kernel⟩, List.mem_of_getElem? (i := 1069) (by decide +kernel), List.mem_of_getElem? (i := 1572) (by decide +kernel), List.mem_of_getElem? (i := 1573) (by decide +kernel)⟩
theorem lw_p140 : lw_okq (⟨"AppealCourtModel", "begins", "(I)V"⟩, 88) := ⟨⟨by decide +kernel, by decide +kernel⟩, List.mem_of_getElem? (i := 1069) (by decide +kernel), List.mem_of_getElem? (i := 1576) (by decide +kernel), List.mem_of_getElem? (i := 1577) (by decide +kernel)⟩
theorem lw_p141 : lw_okq (⟨"AppealCourtModel", "act", "()V"⟩, 88) := ⟨⟨by decide +kernel, by decide +kernel⟩, List.mem_of_getElem? (i := 1069) (by decide +kernel), List.mem_of_getElem? (i := 1580) (by decide +kernel), List.mem_of_getElem? (i := 1581) (by decide +kernel)⟩
theorem lw_p142 : lw_okq (⟨"AppealCourtModel", "push", "(I)V"⟩, 88) := ⟨⟨by decide +kernel, by decide +kernel⟩, List.mem_of_getElem? (i := 1069) (by decide +kernel), List.mem_of_getElem? (i := 1584) (by decide +kernel), List.mem_of_getElem? (i := 1585) (by decide +kernel)⟩
theorem lw_p143 : lw_okq (⟨"AppealCourtModel", "pop", "()I"⟩, 88) := ⟨⟨by decide +kernel, by decide +kernel⟩, List.mem_of_getElem? (i := 1069) (by decide +kernel), List.mem_of_getElem? (i := 1588) (by decide +kernel), List.mem_of_getElem? (i := 1589) (by decide +kernel)⟩
def lw_privs_9 : List (MethodName × Nat) := [(⟨"AppealCourtModel", "made", "(I)V"⟩, 88), (⟨"AppealCourtModel", "join", "()V"⟩, 88), (⟨"AppealCourtModel", "note", "()V"⟩, 88), (⟨"AppealCourtModel", "wholeBehind", "()V"⟩, 88), (⟨"AppealCourtModel", "hear", "()V"⟩, 88), (⟨"AppealCourtModel", "choice", "()V"⟩, 88), (⟨"AppealCourtModel", "loop", "()V"⟩, 88), (⟨"AppealCourtModel", "trying", "()V"⟩, 88), (⟨"AppealCourtModel", "makesOne", "(IIIIIZ)I"⟩, 88), (⟨"AppealCourtModel", "deals", "(IIII)V"⟩, 88), (⟨"AppealCourtModel", "below", "(IIII)V"⟩, 88), (⟨"AppealCourtModel", "holds", "(III)V"⟩, 88), (⟨"AppealCourtModel", "begins", "(I)V"⟩, 88), (⟨"AppealCourtModel", "act", "()V"⟩, 88), (⟨"AppealCourtModel", "push", "(I)V"⟩, 88), (⟨"AppealCourtModel", "pop", "()I"⟩, 88)]
theorem lw_r9 : ∀ q ∈ lw_privs_9, lw_okq q := List.forall_mem_cons.mpr ⟨lw_p128, List.forall_mem_cons.mpr ⟨lw_p129, List.forall_mem_cons.mpr ⟨lw_p130, List.forall_mem_cons.mpr ⟨lw_p131, List.forall_mem_cons.mpr ⟨lw_p132, List.forall_mem_cons.mpr ⟨lw_p133, List.forall_mem_cons.mpr ⟨lw_p134, List.forall_mem_cons.mpr ⟨lw_p135, List.forall_mem_cons.mpr ⟨lw_p136, List.forall_mem_cons.mpr ⟨lw_p137, List.forall_mem_cons.mpr ⟨lw_p138, List.forall_mem_cons.mpr ⟨lw_p139, List.forall_mem_cons.mpr ⟨lw_p140, List.forall_mem_cons.mpr ⟨lw_p141, List.forall_mem_cons.mpr ⟨lw_p142, List.forall_mem_cons.mpr ⟨lw_p143, fun _ h => absurd h List.not_mem_nil⟩⟩⟩⟩⟩⟩⟩⟩⟩⟩⟩⟩⟩⟩⟩⟩
theorem lw_p144 : lw_okq (⟨"AppealCourtModel", "count", "(I)V"⟩, 88) := ⟨⟨by decide +kernel, by decide +kernel⟩, List.mem_of_getElem? (i := 1069) (by decide +kernel), List.mem_of_getElem? (i := 1592) (by decide +kernel), List.mem_of_getElem? (i := 1593) (by decide +kernel)⟩
theorem lw_p145 : lw_okq (⟨"AppealCourtModel", "raises", "(III)V"⟩, 88) := ⟨⟨by decide +kernel, by decide +kernel⟩, List.mem_of_getElem? (i := 1069) (by decide +kernel), List.mem_of_getElem? (i := 1596) (by decide +kernel), List.mem_of_getElem? (i := 1597) (by decide +kernel)⟩
theorem lw_p146 : lw_okq (⟨"AppealCourtModel", "makes", "(IIIIIZ)I"⟩, 88) := ⟨⟨by decide +kernel, by decide +kernel⟩, List.mem_of_getElem? (i := 1069) (by decide +kernel), List.mem_of_getElem? (i := 1600) (by decide +kernel), List.mem_of_getElem? (i := 1601) (by decide +kernel)⟩
theorem lw_p147 : lw_okq (⟨"AppealCourtModel", "raise", "(I)V"⟩, 88) := ⟨⟨by decide +kernel, by decide +kernel⟩, List.mem_of_getElem? (i := 1069) (by decide +kernel), List.mem_of_getElem? (i := 1604) (by decide +kernel), List.mem_of_getElem? (i := 1605) (by decide +kernel)⟩
theorem lw_p148 : lw_okq (⟨"AppealCourtModel", "goesLastly", "(III)Z"⟩, 88) := ⟨⟨by decide +kernel, by decide +kernel⟩, List.mem_of_getElem? (i := 1069) (by decide +kernel), List.mem_of_getElem? (i := 1614) (by decide +kernel), List.mem_of_getElem? (i := 1615) (by decide +kernel)⟩
theorem lw_p149 : lw_okq (⟨"AppealCourtModel", "obj", "(I)I"⟩, 88) := ⟨⟨by decide +kernel, by decide +kernel⟩, List.mem_of_getElem? (i := 1069) (by decide +kernel), List.mem_of_getElem? (i := 1618) (by decide +kernel), List.mem_of_getElem? (i := 1619) (by decide +kernel)⟩
theorem lw_p150 : lw_okq (⟨"AppealCourtModel", "ask", "(II)V"⟩, 88) := ⟨⟨by decide +kernel, by decide +kernel⟩, List.mem_of_getElem? (i := 1069) (by decide +kernel), List.mem_of_getElem? (i := 1622) (by decide +kernel), List.mem_of_getElem? (i := 1623) (by decide +kernel)⟩
theorem lw_p151 : lw_okq (⟨"AppealCourtModel", "weight", "(I)I"⟩, 88) := ⟨⟨by decide +kernel, by decide +kernel⟩, List.mem_of_getElem? (i := 1069) (by decide +kernel), List.mem_of_getElem? (i := 1626) (by decide +kernel), List.mem_of_getElem? (i := 1627) (by decide +kernel)⟩
theorem lw_p152 : lw_okq (⟨"AppealCourtModel", "many", "(I)I"⟩, 88) := ⟨⟨by decide +kernel, by decide +kernel⟩, List.mem_of_getElem? (i := 1069) (by decide +kernel), List.mem_of_getElem? (i := 1630) (by decide +kernel), List.mem_of_getElem? (i := 1631) (by decide +kernel)⟩
theorem lw_p153 : lw_okq (⟨"AppealCourtModel", "hold", "(II)V"⟩, 88) := ⟨⟨by decide +kernel, by decide +kernel⟩, List.mem_of_getElem? (i := 1069) (by decide +kernel), List.mem_of_getElem? (i := 1634) (by decide +kernel), List.mem_of_getElem? (i := 1635) (by decide +kernel)⟩
theorem lw_p154 : lw_okq (⟨"AppealCourtModel", "more", "(II)V"⟩, 88) := ⟨⟨by decide +kernel, by decide +kernel⟩, List.mem_of_getElem? (i := 1069) (by decide +kernel), List.mem_of_getElem? (i := 1638) (by decide +kernel), List.mem_of_getElem? (i := 1639) (by decide +kernel)⟩
theorem lw_p155 : lw_okq (⟨"AppealCourtModel", "joins", "(II)V"⟩, 88) := ⟨⟨by decide +kernel, by decide +kernel⟩, List.mem_of_getElem? (i := 1069) (by decide +kernel), List.mem_of_getElem? (i := 1642) (by decide +kernel), List.mem_of_getElem? (i := 1643) (by decide +kernel)⟩
theorem lw_p156 : lw_okq (⟨"AppealCourtModel", "notes", "(I)V"⟩, 88) := ⟨⟨by decide +kernel, by decide +kernel⟩, List.mem_of_getElem? (i := 1069) (by decide +kernel), List.mem_of_getElem? (i := 1646) (by decide +kernel), List.mem_of_getElem? (i := 1647) (by decide +kernel)⟩
theorem lw_p157 : lw_okq (⟨"AppealCourtModel", "hears", "(III)V"⟩, 88) := ⟨⟨by decide +kernel, by decide +kernel⟩, List.mem_of_getElem? (i := 1069) (by decide +kernel), List.mem_of_getElem? (i := 1650) (by decide +kernel), List.mem_of_getElem? (i := 1651) (by decide +kernel)⟩
theorem lw_p158 : lw_okq (⟨"AppealCourtModel", "rest", "(I)V"⟩, 88) := ⟨⟨by decide +kernel, by decide +kernel⟩, List.mem_of_getElem? (i := 1069) (by decide +kernel), List.mem_of_getElem? (i := 1654) (by decide +kernel), List.mem_of_getElem? (i := 1655) (by decide +kernel)⟩
theorem lw_p159 : lw_okq (⟨"AppealCourtModel", "enters", "(I)V"⟩, 88) := ⟨⟨by decide +kernel, by decide +kernel⟩, List.mem_of_getElem? (i := 1069) (by decide +kernel), List.mem_of_getElem? (i := 1658) (by decide +kernel), List.mem_of_getElem? (i := 1659) (by decide +kernel)⟩
def lw_privs_10 : List (MethodName × Nat) := [(⟨"AppealCourtModel", "count", "(I)V"⟩, 88), (⟨"AppealCourtModel", "raises", "(III)V"⟩, 88), (⟨"AppealCourtModel", "makes", "(IIIIIZ)I"⟩, 88), (⟨"AppealCourtModel", "raise", "(I)V"⟩, 88), (⟨"AppealCourtModel", "goesLastly", "(III)Z"⟩, 88), (⟨"AppealCourtModel", "obj", "(I)I"⟩, 88), (⟨"AppealCourtModel", "ask", "(II)V"⟩, 88), (⟨"AppealCourtModel", "weight", "(I)I"⟩, 88), (⟨"AppealCourtModel", "many", "(I)I"⟩, 88), (⟨"AppealCourtModel", "hold", "(II)V"⟩, 88), (⟨"AppealCourtModel", "more", "(II)V"⟩, 88), (⟨"AppealCourtModel", "joins", "(II)V"⟩, 88), (⟨"AppealCourtModel", "notes", "(I)V"⟩, 88), (⟨"AppealCourtModel", "hears", "(III)V"⟩, 88), (⟨"AppealCourtModel", "rest", "(I)V"⟩, 88), (⟨"AppealCourtModel", "enters", "(I)V"⟩, 88)]
theorem lw_r10 : ∀ q ∈ lw_privs_10, lw_okq q := List.forall_mem_cons.mpr ⟨lw_p144, List.forall_mem_cons.mpr ⟨lw_p145, List.forall_mem_cons.mpr ⟨lw_p146, List.forall_mem_cons.mpr ⟨lw_p147, List.forall_mem_cons.mpr ⟨lw_p148, List.forall_mem_cons.mpr ⟨lw_p149, List.forall_mem_cons.mpr ⟨lw_p150, List.forall_mem_cons.mpr ⟨lw_p151, List.forall_mem_cons.mpr ⟨lw_p152, List.forall_mem_cons.mpr ⟨lw_p153, List.forall_mem_cons.mpr ⟨lw_p154, List.forall_mem_cons.mpr ⟨lw_p155, List.forall_mem_cons.mpr ⟨lw_p156, List.forall_mem_cons.mpr ⟨lw_p157, List.forall_mem_cons.mpr ⟨lw_p158, List.forall_mem_cons.mpr ⟨lw_p159, fun _ h => absurd h List.not_mem_nil⟩⟩⟩⟩⟩⟩⟩⟩⟩⟩⟩⟩⟩⟩⟩⟩
theorem lw_p160 : lw_okq (⟨"AppealCourtModel", "told", "(IIII)I"⟩, 88) := ⟨⟨by decide +kernel, by decide +kernel⟩, List.mem_of_getElem? (i := 1069) (by decide +kernel), List.mem_of_getElem? (i := 1674) (by decide +kernel), List.mem_of_getElem? (i := 1675) (by decide +kernel)⟩
def lw_privs_11 : List (MethodName × Nat) := [(⟨"AppealCourtModel", "told", "(IIII)I"⟩, 88)]
theorem lw_r11 : ∀ q ∈ lw_privs_11, lw_okq q := List.forall_mem_cons.mpr ⟨lw_p160, fun _ h => absurd h List.not_mem_nil⟩
def lw_privs : List (MethodName × Nat) := lw_privs_1 ++ (lw_privs_2 ++ (lw_privs_3 ++ (lw_privs_4 ++ (lw_privs_5 ++ (lw_privs_6 ++ (lw_privs_7 ++ (lw_privs_8 ++ (lw_privs_9 ++ (lw_privs_10 ++ (lw_privs_11))))))))))
def lw_tbl : List Cond := k2_sels lw_privs ++ tables_1
theorem lw_privs_ok : ∀ q ∈ lw_privs, lw_okq q := by
  show ∀ q ∈ lw_privs_1 ++ (lw_privs_2 ++ (lw_privs_3 ++ (lw_privs_4 ++ (lw_privs_5 ++ (lw_privs_6 ++ (lw_privs_7 ++ (lw_privs_8 ++ (lw_privs_9 ++ (lw_privs_10 ++ (lw_privs_11)))))))))), lw_okq q
  exact List.forall_mem_append.mpr ⟨lw_r1, List.forall_mem_append.mpr ⟨lw_r2, List.forall_mem_append.mpr ⟨lw_r3, List.forall_mem_append.mpr ⟨lw_r4, List.forall_mem_append.mpr ⟨lw_r5, List.forall_mem_append.mpr ⟨lw_r6, List.forall_mem_append.mpr ⟨lw_r7, List.forall_mem_append.mpr ⟨lw_r8, List.forall_mem_append.mpr ⟨lw_r9, List.forall_mem_append.mpr ⟨lw_r10, lw_r11⟩⟩⟩⟩⟩⟩⟩⟩⟩⟩

def RX0 : String := "AppealCourt$Bench"
def TX0 : u_T := fun k => match k with
  | 0 => ("AppealCourt$Bench", "docket", "LAppealCourt$Docket;", true)
  | 1 => ("AppealCourt$Bench", "minutes", "LAppealCourt$Minutes;", true)
  | 2 => ("AppealCourt$Bench", "session", "LAppealCourt$Session;", true)
  | 3 => ("AppealCourt$Bench", "policies", "[I", true)
  | 4 => ("AppealCourt$Bench", "policyNumbers", "[I", true)
  | _ => ("AppealCourt$Bench", "complaints", "[I", true)
def tyX0 : Nat → FieldType := fun k => match k with
  | 0 => .object "AppealCourt$Docket"
  | 1 => .object "AppealCourt$Minutes"
  | 2 => .object "AppealCourt$Session"
  | 3 => .array .int
  | 4 => .array .int
  | _ => .array .int
theorem nmX0 : ∀ a, a < 6 → ∀ b, b < 6 → a ≠ b → (TX0 a).2.1 ≠ (TX0 b).2.1 := by decide +kernel
theorem tyX0_ok : ∀ k, k < 6 → parseFieldDescriptor (TX0 k).2.2.1 = some (tyX0 k) := by decide +kernel
abbrev cX0_init : ByteArray := prog_2_method_1_code
def yX0_init : MethodName := ⟨RX0, "<init>", "(LAppealCourt$Docket;LAppealCourt$Minutes;LAppealCourt$Session;)V"⟩
abbrev cX0_isInstance : ByteArray := prog_2_method_2_code
def yX0_isInstance : MethodName := ⟨RX0, "isInstance", "(I)Z"⟩
abbrev cX0_setPolicy : ByteArray := prog_2_method_3_code
def yX0_setPolicy : MethodName := ⟨RX0, "setPolicy", "(IIII)Z"⟩
abbrev cX0_enterComplaint : ByteArray := prog_2_method_4_code
def yX0_enterComplaint : MethodName := ⟨RX0, "enterComplaint", "(III)I"⟩
abbrev cX0_complaintOf : ByteArray := prog_2_method_5_code
def yX0_complaintOf : MethodName := ⟨RX0, "complaintOf", "(I)I"⟩
abbrev cX0_policyIndex : ByteArray := prog_2_method_6_code
def yX0_policyIndex : MethodName := ⟨RX0, "policyIndex", "(II)I"⟩
abbrev cX0_conduct : ByteArray := prog_2_method_7_code
def yX0_conduct : MethodName := ⟨RX0, "conduct", "(III)V"⟩
abbrev cX0_dealtWith : ByteArray := prog_2_method_8_code
def yX0_dealtWith : MethodName := ⟨RX0, "dealtWith", "(IIII)I"⟩
abbrev cX0_struck : ByteArray := prog_2_method_9_code
def yX0_struck : MethodName := ⟨RX0, "struck", "(II)I"⟩
abbrev cX0_wrapped : ByteArray := prog_2_method_10_code
def yX0_wrapped : MethodName := ⟨RX0, "wrapped", "(II)I"⟩
abbrev cX0_entered : ByteArray := prog_2_method_11_code
def yX0_entered : MethodName := ⟨RX0, "entered", "(II)I"⟩
def RX2 : String := "AppealCourt$Docket"
def TX2 : u_T := fun k => match k with
  | 0 => ("AppealCourt$Docket", "rows", "[I", false)
  | 1 => ("AppealCourt$Docket", "madeBeforeTrial", "I", false)
  | 2 => ("AppealCourt$Docket", "made", "I", false)
  | _ => ("AppealCourt$Docket", "refused", "I", false)
def tyX2 : Nat → FieldType := fun k => match k with
  | 0 => .array .int
  | 1 => .int
  | 2 => .int
  | _ => .int
theorem nmX2 : ∀ a, a < 4 → ∀ b, b < 4 → a ≠ b → (TX2 a).2.1 ≠ (TX2 b).2.1 := by decide +kernel
theorem tyX2_ok : ∀ k, k < 4 → parseFieldDescriptor (TX2 k).2.2.1 = some (tyX2 k) := by decide +kernel
abbrev cX2_init : ByteArray := prog_4_method_1_code
def yX2_init : MethodName := ⟨RX2, "<init>", "()V"⟩
abbrev cX2_openTrial : ByteArray := prog_4_method_2_code
def yX2_openTrial : MethodName := ⟨RX2, "openTrial", "()V"⟩
abbrev cX2_make : ByteArray := prog_4_method_3_code
def yX2_make : MethodName := ⟨RX2, "make", "(IIII)I"⟩
abbrev cX2_makeInTrial : ByteArray := prog_4_method_4_code
def yX2_makeInTrial : MethodName := ⟨RX2, "makeInTrial", "(IIII)I"⟩
abbrev cX2_exists : ByteArray := prog_4_method_5_code
def yX2_exists : MethodName := ⟨RX2, "exists", "(I)Z"⟩
abbrev cX2_get : ByteArray := prog_4_method_6_code
def yX2_get : MethodName := ⟨RX2, "get", "(II)I"⟩
abbrev cX2_kindOf : ByteArray := prog_4_method_7_code
def yX2_kindOf : MethodName := ⟨RX2, "kindOf", "(I)I"⟩
abbrev cX2_groundOf : ByteArray := prog_4_method_8_code
def yX2_groundOf : MethodName := ⟨RX2, "groundOf", "(I)I"⟩
abbrev cX2_causeOf : ByteArray := prog_4_method_9_code
def yX2_causeOf : MethodName := ⟨RX2, "causeOf", "(I)I"⟩
abbrev cX2_settle : ByteArray := prog_4_method_10_code
def yX2_settle : MethodName := ⟨RX2, "settle", "(II)V"⟩
abbrev cX2_join : ByteArray := prog_4_method_11_code
def yX2_join : MethodName := ⟨RX2, "join", "(II)I"⟩
abbrev cX2_weightOf : ByteArray := prog_4_method_12_code
def yX2_weightOf : MethodName := ⟨RX2, "weightOf", "(I)I"⟩
abbrev cX2_inChain : ByteArray := prog_4_method_13_code
def yX2_inChain : MethodName := ⟨RX2, "inChain", "(II)I"⟩
abbrev cX2_chainLength : ByteArray := prog_4_method_14_code
def yX2_chainLength : MethodName := ⟨RX2, "chainLength", "(I)I"⟩
abbrev cX2_tell : ByteArray := prog_4_method_15_code
def yX2_tell : MethodName := ⟨RX2, "tell", "(II)I"⟩
abbrev cX2_tellOfChain : ByteArray := prog_4_method_16_code
def yX2_tellOfChain : MethodName := ⟨RX2, "tellOfChain", "(III)I"⟩
def RX3 : String := "AppealCourt$Kind"
abbrev cX3_exists : ByteArray := prog_5_method_2_code
def yX3_exists : MethodName := ⟨RX3, "exists", "(I)Z"⟩
abbrev cX3_oneOf : ByteArray := prog_5_method_3_code
def yX3_oneOf : MethodName := ⟨RX3, "oneOf", "(I)I"⟩
abbrev cX3_is : ByteArray := prog_5_method_4_code
def yX3_is : MethodName := ⟨RX3, "is", "(II)Z"⟩
def RX4 : String := "AppealCourt$Lexicon"
def TX4 : u_T := fun k => match k with
  | 0 => ("AppealCourt$Lexicon", "keys", "[J", true)
  | 1 => ("AppealCourt$Lexicon", "next", "[I", true)
  | 2 => ("AppealCourt$Lexicon", "heads", "[I", true)
  | _ => ("AppealCourt$Lexicon", "size", "I", false)
def tyX4 : Nat → FieldType := fun k => match k with
  | 0 => .array .long
  | 1 => .array .int
  | 2 => .array .int
  | _ => .int
theorem nmX4 : ∀ a, a < 4 → ∀ b, b < 4 → a ≠ b → (TX4 a).2.1 ≠ (TX4 b).2.1 := by decide +kernel
theorem tyX4_ok : ∀ k, k < 4 → parseFieldDescriptor (TX4 k).2.2.1 = some (tyX4 k) := by decide +kernel
abbrev cX4_init : ByteArray := prog_6_method_1_code
def yX4_init : MethodName := ⟨RX4, "<init>", "(I)V"⟩
abbrev cX4_learnQuotedWords : ByteArray := prog_6_method_2_code
def yX4_learnQuotedWords : MethodName := ⟨RX4, "learnQuotedWords", "()V"⟩
abbrev cX4_longer : ByteArray := prog_6_method_3_code
def yX4_longer : MethodName := ⟨RX4, "longer", "(JI)J"⟩
abbrev cX4_numberOf : ByteArray := prog_6_method_4_code
def yX4_numberOf : MethodName := ⟨RX4, "numberOf", "(J)I"⟩
def RX5 : String := "AppealCourt$Minutes"
def TX5 : u_T := fun k => match k with
  | 0 => ("AppealCourt$Minutes", "notes", "[I", true)
  | 1 => ("AppealCourt$Minutes", "noteCount", "I", false)
  | 2 => ("AppealCourt$Minutes", "outcome", "I", false)
  | 3 => ("AppealCourt$Minutes", "restedWith", "I", false)
  | 4 => ("AppealCourt$Minutes", "struckAt", "I", false)
  | 5 => ("AppealCourt$Minutes", "objection", "I", false)
  | 6 => ("AppealCourt$Minutes", "steps", "I", false)
  | 7 => ("AppealCourt$Minutes", "remands", "I", false)
  | _ => ("AppealCourt$Minutes", "begun", "I", false)
def tyX5 : Nat → FieldType := fun k => match k with
  | 0 => .array .int
  | 1 => .int
  | 2 => .int
  | 3 => .int
  | 4 => .int
  | 5 => .int
  | 6 => .int
  | 7 => .int
  | _ => .int
theorem nmX5 : ∀ a, a < 9 → ∀ b, b < 9 → a ≠ b → (TX5 a).2.1 ≠ (TX5 b).2.1 := by decide +kernel
theorem tyX5_ok : ∀ k, k < 9 → parseFieldDescriptor (TX5 k).2.2.1 = some (tyX5 k) := by decide +kernel
abbrev cX5_init : ByteArray := prog_7_method_1_code
def yX5_init : MethodName := ⟨RX5, "<init>", "()V"⟩
abbrev cX5_open : ByteArray := prog_7_method_2_code
def yX5_open : MethodName := ⟨RX5, "open", "()V"⟩
abbrev cX5_rest : ByteArray := prog_7_method_3_code
def yX5_rest : MethodName := ⟨RX5, "rest", "(I)V"⟩
abbrev cX5_adjourn : ByteArray := prog_7_method_4_code
def yX5_adjourn : MethodName := ⟨RX5, "adjourn", "()V"⟩
abbrev cX5_strike : ByteArray := prog_7_method_5_code
def yX5_strike : MethodName := ⟨RX5, "strike", "(II)V"⟩
abbrev cX5_uphold : ByteArray := prog_7_method_6_code
def yX5_uphold : MethodName := ⟨RX5, "uphold", "(I)V"⟩
abbrev cX5_putNote : ByteArray := prog_7_method_7_code
def yX5_putNote : MethodName := ⟨RX5, "putNote", "(I)Z"⟩
abbrev cX5_noteAt : ByteArray := prog_7_method_8_code
def yX5_noteAt : MethodName := ⟨RX5, "noteAt", "(I)I"⟩
abbrev cX5_tell : ByteArray := prog_7_method_9_code
def yX5_tell : MethodName := ⟨RX5, "tell", "(I)I"⟩
def RX6 : String := "AppealCourt$Program"
def TX6 : u_T := fun k => match k with
  | 0 => ("AppealCourt$Program", "code", "[I", true)
  | 1 => ("AppealCourt$Program", "starts", "[I", true)
  | 2 => ("AppealCourt$Program", "parameters", "[I", true)
  | 3 => ("AppealCourt$Program", "size", "I", false)
  | _ => ("AppealCourt$Program", "hearings", "I", false)
def tyX6 : Nat → FieldType := fun k => match k with
  | 0 => .array .int
  | 1 => .array .int
  | 2 => .array .int
  | 3 => .int
  | _ => .int
theorem nmX6 : ∀ a, a < 5 → ∀ b, b < 5 → a ≠ b → (TX6 a).2.1 ≠ (TX6 b).2.1 := by decide +kernel
theorem tyX6_ok : ∀ k, k < 5 → parseFieldDescriptor (TX6 k).2.2.1 = some (tyX6 k) := by decide +kernel
abbrev cX6_init : ByteArray := prog_8_method_1_code
def yX6_init : MethodName := ⟨RX6, "<init>", "(I)V"⟩
abbrev cX6_put : ByteArray := prog_8_method_2_code
def yX6_put : MethodName := ⟨RX6, "put", "(I)I"⟩
abbrev cX6_change : ByteArray := prog_8_method_3_code
def yX6_change : MethodName := ⟨RX6, "change", "(II)V"⟩
abbrev cX6_get : ByteArray := prog_8_method_4_code
def yX6_get : MethodName := ⟨RX6, "get", "(I)I"⟩
abbrev cX6_addHearing : ByteArray := prog_8_method_5_code
def yX6_addHearing : MethodName := ⟨RX6, "addHearing", "(II)V"⟩
abbrev cX6_startOf : ByteArray := prog_8_method_6_code
def yX6_startOf : MethodName := ⟨RX6, "startOf", "(I)I"⟩
abbrev cX6_parametersOf : ByteArray := prog_8_method_7_code
def yX6_parametersOf : MethodName := ⟨RX6, "parametersOf", "(I)I"⟩
def RX7 : String := "AppealCourt$Reader"
def TX7 : u_T := fun k => match k with
  | 0 => ("AppealCourt$Reader", "tokens", "LAppealCourt$Tokens;", true)
  | 1 => ("AppealCourt$Reader", "program", "LAppealCourt$Program;", true)
  | 2 => ("AppealCourt$Reader", "toldIn", "[I", true)
  | 3 => ("AppealCourt$Reader", "slots", "[I", true)
  | 4 => ("AppealCourt$Reader", "hearingOf", "[I", true)
  | 5 => ("AppealCourt$Reader", "hears", "[I", true)
  | 6 => ("AppealCourt$Reader", "hearPlaces", "[I", true)
  | 7 => ("AppealCourt$Reader", "faultPlaces", "[I", true)
  | 8 => ("AppealCourt$Reader", "hearCount", "I", false)
  | 9 => ("AppealCourt$Reader", "names", "I", false)
  | 10 => ("AppealCourt$Reader", "objects", "I", false)
  | 11 => ("AppealCourt$Reader", "next", "I", false)
  | 12 => ("AppealCourt$Reader", "type", "I", false)
  | 13 => ("AppealCourt$Reader", "value", "I", false)
  | _ => ("AppealCourt$Reader", "place", "I", false)
def tyX7 : Nat → FieldType := fun k => match k with
  | 0 => .object "AppealCourt$Tokens"
  | 1 => .object "AppealCourt$Program"
  | 2 => .array .int
  | 3 => .array .int
  | 4 => .array .int
  | 5 => .array .int
  | 6 => .array .int
  | 7 => .array .int
  | 8 => .int
  | 9 => .int
  | 10 => .int
  | 11 => .int
  | 12 => .int
  | 13 => .int
  | _ => .int
theorem nmX7 : ∀ a, a < 15 → ∀ b, b < 15 → a ≠ b → (TX7 a).2.1 ≠ (TX7 b).2.1 := by decide +kernel
theorem tyX7_ok : ∀ k, k < 15 → parseFieldDescriptor (TX7 k).2.2.1 = some (tyX7 k) := by decide +kernel
abbrev cX7_init : ByteArray := prog_9_method_1_code
def yX7_init : MethodName := ⟨RX7, "<init>", "([BI)V"⟩
abbrev cX7_readText : ByteArray := prog_9_method_2_code
def yX7_readText : MethodName := ⟨RX7, "readText", "()LAppealCourt$Program;"⟩
abbrev cX7_faultFound : ByteArray := prog_9_method_3_code
def yX7_faultFound : MethodName := ⟨RX7, "faultFound", "()I"⟩
abbrev cX7_placeOfFault : ByteArray := prog_9_method_4_code
def yX7_placeOfFault : MethodName := ⟨RX7, "placeOfFault", "(I)I"⟩
abbrev cX7_putFault : ByteArray := prog_9_method_5_code
def yX7_putFault : MethodName := ⟨RX7, "putFault", "(II)V"⟩
abbrev cX7_advance : ByteArray := prog_9_method_6_code
def yX7_advance : MethodName := ⟨RX7, "advance", "()V"⟩
abbrev cX7_fail : ByteArray := prog_9_method_7_code
def yX7_fail : MethodName := ⟨RX7, "fail", "()V"⟩
abbrev cX7_take : ByteArray := prog_9_method_8_code
def yX7_take : MethodName := ⟨RX7, "take", "(I)V"⟩
abbrev cX7_takeOpening : ByteArray := prog_9_method_9_code
def yX7_takeOpening : MethodName := ⟨RX7, "takeOpening", "(II)V"⟩
abbrev cX7_emit : ByteArray := prog_9_method_10_code
def yX7_emit : MethodName := ⟨RX7, "emit", "(I)V"⟩
abbrev cX7_emit_ : ByteArray := prog_9_method_11_code
def yX7_emit_ : MethodName := ⟨RX7, "emit", "(II)V"⟩
abbrev cX7_emit__ : ByteArray := prog_9_method_12_code
def yX7_emit__ : MethodName := ⟨RX7, "emit", "(III)V"⟩
abbrev cX7_hearing : ByteArray := prog_9_method_13_code
def yX7_hearing : MethodName := ⟨RX7, "hearing", "()V"⟩
abbrev cX7_nameHearing : ByteArray := prog_9_method_14_code
def yX7_nameHearing : MethodName := ⟨RX7, "nameHearing", "(I)V"⟩
abbrev cX7_parameters : ByteArray := prog_9_method_15_code
def yX7_parameters : MethodName := ⟨RX7, "parameters", "()I"⟩
abbrev cX7_newName : ByteArray := prog_9_method_16_code
def yX7_newName : MethodName := ⟨RX7, "newName", "()I"⟩
abbrev cX7_tell : ByteArray := prog_9_method_17_code
def yX7_tell : MethodName := ⟨RX7, "tell", "(II)V"⟩
abbrev cX7_isTold : ByteArray := prog_9_method_18_code
def yX7_isTold : MethodName := ⟨RX7, "isTold", "(I)Z"⟩
abbrev cX7_slotOf : ByteArray := prog_9_method_19_code
def yX7_slotOf : MethodName := ⟨RX7, "slotOf", "(I)I"⟩
abbrev cX7_name : ByteArray := prog_9_method_20_code
def yX7_name : MethodName := ⟨RX7, "name", "()I"⟩
abbrev cX7_object : ByteArray := prog_9_method_21_code
def yX7_object : MethodName := ⟨RX7, "object", "()I"⟩
abbrev cX7_objectOrNone : ByteArray := prog_9_method_22_code
def yX7_objectOrNone : MethodName := ⟨RX7, "objectOrNone", "()I"⟩
abbrev cX7_kind : ByteArray := prog_9_method_23_code
def yX7_kind : MethodName := ⟨RX7, "kind", "()I"⟩
abbrev cX7_block : ByteArray := prog_9_method_24_code
def yX7_block : MethodName := ⟨RX7, "block", "(I)V"⟩
abbrev cX7_statement : ByteArray := prog_9_method_25_code
def yX7_statement : MethodName := ⟨RX7, "statement", "(I)V"⟩
abbrev cX7_choice : ByteArray := prog_9_method_26_code
def yX7_choice : MethodName := ⟨RX7, "choice", "(I)V"⟩
abbrev cX7_loop : ByteArray := prog_9_method_27_code
def yX7_loop : MethodName := ⟨RX7, "loop", "(I)V"⟩
abbrev cX7_attempt : ByteArray := prog_9_method_28_code
def yX7_attempt : MethodName := ⟨RX7, "attempt", "(I)V"⟩
abbrev cX7_let : ByteArray := prog_9_method_29_code
def yX7_let : MethodName := ⟨RX7, "let", "(I)V"⟩
abbrev cX7_assignment : ByteArray := prog_9_method_30_code
def yX7_assignment : MethodName := ⟨RX7, "assignment", "(I)V"⟩
abbrev cX7_otherObjection : ByteArray := prog_9_method_31_code
def yX7_otherObjection : MethodName := ⟨RX7, "otherObjection", "(I)V"⟩
abbrev cX7_newObjection : ByteArray := prog_9_method_32_code
def yX7_newObjection : MethodName := ⟨RX7, "newObjection", "(II)V"⟩
abbrev cX7_raising : ByteArray := prog_9_method_33_code
def yX7_raising : MethodName := ⟨RX7, "raising", "()V"⟩
abbrev cX7_joining : ByteArray := prog_9_method_34_code
def yX7_joining : MethodName := ⟨RX7, "joining", "()V"⟩
abbrev cX7_noting : ByteArray := prog_9_method_35_code
def yX7_noting : MethodName := ⟨RX7, "noting", "(I)V"⟩
abbrev cX7_hearingOther : ByteArray := prog_9_method_36_code
def yX7_hearingOther : MethodName := ⟨RX7, "hearingOther", "(I)V"⟩
abbrev cX7_keepHear : ByteArray := prog_9_method_37_code
def yX7_keepHear : MethodName := ⟨RX7, "keepHear", "(II)V"⟩
abbrev cX7_findHearings : ByteArray := prog_9_method_38_code
def yX7_findHearings : MethodName := ⟨RX7, "findHearings", "()V"⟩
abbrev cX7_resting : ByteArray := prog_9_method_39_code
def yX7_resting : MethodName := ⟨RX7, "resting", "(I)V"⟩
abbrev cX7_expression : ByteArray := prog_9_method_40_code
def yX7_expression : MethodName := ⟨RX7, "expression", "(I)V"⟩
abbrev cX7_restOfExpression : ByteArray := prog_9_method_41_code
def yX7_restOfExpression : MethodName := ⟨RX7, "restOfExpression", "(I)V"⟩
abbrev cX7_restOfSum : ByteArray := prog_9_method_42_code
def yX7_restOfSum : MethodName := ⟨RX7, "restOfSum", "(I)V"⟩
abbrev cX7_restOfProduct : ByteArray := prog_9_method_43_code
def yX7_restOfProduct : MethodName := ⟨RX7, "restOfProduct", "(I)V"⟩
abbrev cX7_factor : ByteArray := prog_9_method_44_code
def yX7_factor : MethodName := ⟨RX7, "factor", "(I)V"⟩
abbrev cX7_question : ByteArray := prog_9_method_45_code
def yX7_question : MethodName := ⟨RX7, "question", "()I"⟩
abbrev cX7_toldProperty : ByteArray := prog_9_method_46_code
def yX7_toldProperty : MethodName := ⟨RX7, "toldProperty", "()I"⟩
abbrev cX7_property : ByteArray := prog_9_method_47_code
def yX7_property : MethodName := ⟨RX7, "property", "()I"⟩
def RX8 : String := "AppealCourt$Session"
def TX8 : u_T := fun k => match k with
  | 0 => ("AppealCourt$Session", "docket", "LAppealCourt$Docket;", true)
  | 1 => ("AppealCourt$Session", "minutes", "LAppealCourt$Minutes;", true)
  | 2 => ("AppealCourt$Session", "numbers", "[I", true)
  | 3 => ("AppealCourt$Session", "objects", "[I", true)
  | 4 => ("AppealCourt$Session", "returns", "[I", true)
  | 5 => ("AppealCourt$Session", "tries", "[I", true)
  | 6 => ("AppealCourt$Session", "stack", "[I", true)
  | 7 => ("AppealCourt$Session", "program", "LAppealCourt$Program;", false)
  | 8 => ("AppealCourt$Session", "maxSteps", "I", false)
  | 9 => ("AppealCourt$Session", "pc", "I", false)
  | 10 => ("AppealCourt$Session", "depth", "I", false)
  | 11 => ("AppealCourt$Session", "tryCount", "I", false)
  | 12 => ("AppealCourt$Session", "stackSize", "I", false)
  | 13 => ("AppealCourt$Session", "state", "I", false)
  | 14 => ("AppealCourt$Session", "raised", "I", false)
  | _ => ("AppealCourt$Session", "restedWith", "I", false)
def tyX8 : Nat → FieldType := fun k => match k with
  | 0 => .object "AppealCourt$Docket"
  | 1 => .object "AppealCourt$Minutes"
  | 2 => .array .int
  | 3 => .array .int
  | 4 => .array .int
  | 5 => .array .int
  | 6 => .array .int
  | 7 => .object "AppealCourt$Program"
  | 8 => .int
  | 9 => .int
  | 10 => .int
  | 11 => .int
  | 12 => .int
  | 13 => .int
  | 14 => .int
  | _ => .int
theorem nmX8 : ∀ a, a < 16 → ∀ b, b < 16 → a ≠ b → (TX8 a).2.1 ≠ (TX8 b).2.1 := by decide +kernel
theorem tyX8_ok : ∀ k, k < 16 → parseFieldDescriptor (TX8 k).2.2.1 = some (tyX8 k) := by decide +kernel
abbrev cX8_init : ByteArray := prog_10_method_1_code
def yX8_init : MethodName := ⟨RX8, "<init>", "(LAppealCourt$Docket;LAppealCourt$Minutes;)V"⟩
abbrev cX8_open : ByteArray := prog_10_method_2_code
def yX8_open : MethodName := ⟨RX8, "open", "(LAppealCourt$Program;I)V"⟩
abbrev cX8_hold : ByteArray := prog_10_method_3_code
def yX8_hold : MethodName := ⟨RX8, "hold", "(III)I"⟩
abbrev cX8_start : ByteArray := prog_10_method_4_code
def yX8_start : MethodName := ⟨RX8, "start", "(III)V"⟩
abbrev cX8_fetch : ByteArray := prog_10_method_5_code
def yX8_fetch : MethodName := ⟨RX8, "fetch", "()I"⟩
abbrev cX8_push : ByteArray := prog_10_method_6_code
def yX8_push : MethodName := ⟨RX8, "push", "(I)V"⟩
abbrev cX8_pop : ByteArray := prog_10_method_7_code
def yX8_pop : MethodName := ⟨RX8, "pop", "()I"⟩
abbrev cX8_numberAt : ByteArray := prog_10_method_8_code
def yX8_numberAt : MethodName := ⟨RX8, "numberAt", "(I)I"⟩
abbrev cX8_setNumber : ByteArray := prog_10_method_9_code
def yX8_setNumber : MethodName := ⟨RX8, "setNumber", "(II)V"⟩
abbrev cX8_objectAt : ByteArray := prog_10_method_10_code
def yX8_objectAt : MethodName := ⟨RX8, "objectAt", "(I)I"⟩
abbrev cX8_setObject : ByteArray := prog_10_method_11_code
def yX8_setObject : MethodName := ⟨RX8, "setObject", "(II)V"⟩
abbrev cX8_tryField : ByteArray := prog_10_method_12_code
def yX8_tryField : MethodName := ⟨RX8, "tryField", "(II)I"⟩
abbrev cX8_setTryField : ByteArray := prog_10_method_13_code
def yX8_setTryField : MethodName := ⟨RX8, "setTryField", "(III)V"⟩
abbrev cX8_doTwoNumbers : ByteArray := prog_10_method_14_code
def yX8_doTwoNumbers : MethodName := ⟨RX8, "doTwoNumbers", "(I)V"⟩
abbrev cX8_ofTwoNumbers : ByteArray := prog_10_method_15_code
def yX8_ofTwoNumbers : MethodName := ⟨RX8, "ofTwoNumbers", "(III)I"⟩
abbrev cX8_doNumber : ByteArray := prog_10_method_16_code
def yX8_doNumber : MethodName := ⟨RX8, "doNumber", "(I)V"⟩
abbrev cX8_doObjection : ByteArray := prog_10_method_17_code
def yX8_doObjection : MethodName := ⟨RX8, "doObjection", "(I)V"⟩
abbrev cX8_tellOf : ByteArray := prog_10_method_18_code
def yX8_tellOf : MethodName := ⟨RX8, "tellOf", "(II)V"⟩
abbrev cX8_pushIs : ByteArray := prog_10_method_19_code
def yX8_pushIs : MethodName := ⟨RX8, "pushIs", "(II)V"⟩
abbrev cX8_holdCause : ByteArray := prog_10_method_20_code
def yX8_holdCause : MethodName := ⟨RX8, "holdCause", "(II)V"⟩
abbrev cX8_holdNew : ByteArray := prog_10_method_21_code
def yX8_holdNew : MethodName := ⟨RX8, "holdNew", "(I)V"⟩
abbrev cX8_raiseHeld : ByteArray := prog_10_method_22_code
def yX8_raiseHeld : MethodName := ⟨RX8, "raiseHeld", "(I)V"⟩
abbrev cX8_joinHeld : ByteArray := prog_10_method_23_code
def yX8_joinHeld : MethodName := ⟨RX8, "joinHeld", "(II)V"⟩
abbrev cX8_raiseNew : ByteArray := prog_10_method_24_code
def yX8_raiseNew : MethodName := ⟨RX8, "raiseNew", "(II)V"⟩
abbrev cX8_putNote : ByteArray := prog_10_method_25_code
def yX8_putNote : MethodName := ⟨RX8, "putNote", "(I)V"⟩
abbrev cX8_doCourse : ByteArray := prog_10_method_26_code
def yX8_doCourse : MethodName := ⟨RX8, "doCourse", "(I)V"⟩
abbrev cX8_countStep : ByteArray := prog_10_method_27_code
def yX8_countStep : MethodName := ⟨RX8, "countStep", "()V"⟩
abbrev cX8_hear : ByteArray := prog_10_method_28_code
def yX8_hear : MethodName := ⟨RX8, "hear", "()V"⟩
abbrev cX8_begin : ByteArray := prog_10_method_29_code
def yX8_begin : MethodName := ⟨RX8, "begin", "(I)V"⟩
abbrev cX8_openTry : ByteArray := prog_10_method_30_code
def yX8_openTry : MethodName := ⟨RX8, "openTry", "()V"⟩
abbrev cX8_doLastly : ByteArray := prog_10_method_31_code
def yX8_doLastly : MethodName := ⟨RX8, "doLastly", "(II)V"⟩
abbrev cX8_goOnBehindLastly : ByteArray := prog_10_method_32_code
def yX8_goOnBehindLastly : MethodName := ⟨RX8, "goOnBehindLastly", "()V"⟩
abbrev cX8_rest : ByteArray := prog_10_method_33_code
def yX8_rest : MethodName := ⟨RX8, "rest", "(I)V"⟩
abbrev cX8_goOut : ByteArray := prog_10_method_34_code
def yX8_goOut : MethodName := ⟨RX8, "goOut", "()V"⟩
abbrev cX8_upholdFor : ByteArray := prog_10_method_35_code
def yX8_upholdFor : MethodName := ⟨RX8, "upholdFor", "(I)I"⟩
abbrev cX8_doUphold : ByteArray := prog_10_method_36_code
def yX8_doUphold : MethodName := ⟨RX8, "doUphold", "(I)V"⟩
def RX9 : String := "AppealCourt$Token"
abbrev cX9_isKind : ByteArray := prog_11_method_2_code
def yX9_isKind : MethodName := ⟨RX9, "isKind", "(I)Z"⟩
def RX10 : String := "AppealCourt$Tokens"
def TX10 : u_T := fun k => match k with
  | 0 => ("AppealCourt$Tokens", "bytes", "[B", true)
  | 1 => ("AppealCourt$Tokens", "end", "I", true)
  | 2 => ("AppealCourt$Tokens", "lexicon", "LAppealCourt$Lexicon;", true)
  | 3 => ("AppealCourt$Tokens", "types", "[I", true)
  | 4 => ("AppealCourt$Tokens", "values", "[I", true)
  | 5 => ("AppealCourt$Tokens", "places", "[I", true)
  | _ => ("AppealCourt$Tokens", "count", "I", false)
def tyX10 : Nat → FieldType := fun k => match k with
  | 0 => .array .byte
  | 1 => .int
  | 2 => .object "AppealCourt$Lexicon"
  | 3 => .array .int
  | 4 => .array .int
  | 5 => .array .int
  | _ => .int
theorem nmX10 : ∀ a, a < 7 → ∀ b, b < 7 → a ≠ b → (TX10 a).2.1 ≠ (TX10 b).2.1 := by decide +kernel
theorem tyX10_ok : ∀ k, k < 7 → parseFieldDescriptor (TX10 k).2.2.1 = some (tyX10 k) := by decide +kernel
abbrev cX10_init : ByteArray := prog_12_method_1_code
def yX10_init : MethodName := ⟨RX10, "<init>", "([BII)V"⟩
abbrev cX10_split : ByteArray := prog_12_method_2_code
def yX10_split : MethodName := ⟨RX10, "split", "()V"⟩
abbrev cX10_put : ByteArray := prog_12_method_3_code
def yX10_put : MethodName := ⟨RX10, "put", "(III)V"⟩
abbrev cX10_byteAt : ByteArray := prog_12_method_4_code
def yX10_byteAt : MethodName := ⟨RX10, "byteAt", "(I)I"⟩
abbrev cX10_isDigit : ByteArray := prog_12_method_5_code
def yX10_isDigit : MethodName := ⟨RX10, "isDigit", "(I)Z"⟩
abbrev cX10_isLetter : ByteArray := prog_12_method_6_code
def yX10_isLetter : MethodName := ⟨RX10, "isLetter", "(I)Z"⟩
abbrev cX10_isBlank : ByteArray := prog_12_method_7_code
def yX10_isBlank : MethodName := ⟨RX10, "isBlank", "(I)Z"⟩
abbrev cX10_behindBlanks : ByteArray := prog_12_method_8_code
def yX10_behindBlanks : MethodName := ⟨RX10, "behindBlanks", "(I)I"⟩
abbrev cX10_behindLettersAndDigits : ByteArray := prog_12_method_9_code
def yX10_behindLettersAndDigits : MethodName := ⟨RX10, "behindLettersAndDigits", "(I)I"⟩
abbrev cX10_putNumber : ByteArray := prog_12_method_10_code
def yX10_putNumber : MethodName := ⟨RX10, "putNumber", "(I)I"⟩
abbrev cX10_putWord : ByteArray := prog_12_method_11_code
def yX10_putWord : MethodName := ⟨RX10, "putWord", "(I)I"⟩
abbrev cX10_putSign : ByteArray := prog_12_method_12_code
def yX10_putSign : MethodName := ⟨RX10, "putSign", "(II)I"⟩
def RX11 : String := "AppealCourt"
def TX11 : u_T := fun k => match k with
  | 0 => ("AppealCourt", "fed", "[B", true)
  | 1 => ("AppealCourt", "fedCount", "I", false)
  | 2 => ("AppealCourt", "text", "LAppealCourt$Program;", false)
  | 3 => ("AppealCourt", "faultKind", "I", false)
  | 4 => ("AppealCourt", "faultPlace", "I", false)
  | 5 => ("AppealCourt", "docket", "LAppealCourt$Docket;", true)
  | 6 => ("AppealCourt", "minutes", "LAppealCourt$Minutes;", true)
  | 7 => ("AppealCourt", "session", "LAppealCourt$Session;", true)
  | _ => ("AppealCourt", "bench", "LAppealCourt$Bench;", true)
def tyX11 : Nat → FieldType := fun k => match k with
  | 0 => .array .byte
  | 1 => .int
  | 2 => .object "AppealCourt$Program"
  | 3 => .int
  | 4 => .int
  | 5 => .object "AppealCourt$Docket"
  | 6 => .object "AppealCourt$Minutes"
  | 7 => .object "AppealCourt$Session"
  | _ => .object "AppealCourt$Bench"
theorem nmX11 : ∀ a, a < 9 → ∀ b, b < 9 → a ≠ b → (TX11 a).2.1 ≠ (TX11 b).2.1 := by decide +kernel
theorem tyX11_ok : ∀ k, k < 9 → parseFieldDescriptor (TX11 k).2.2.1 = some (tyX11 k) := by decide +kernel
abbrev cX11_init : ByteArray := prog_1_method_1_code
def yX11_init : MethodName := ⟨RX11, "<init>", "()V"⟩
abbrev cX11_feed : ByteArray := prog_1_method_2_code
def yX11_feed : MethodName := ⟨RX11, "feed", "(IIIII)I"⟩
abbrev cX11_putBytes : ByteArray := prog_1_method_3_code
def yX11_putBytes : MethodName := ⟨RX11, "putBytes", "(I)V"⟩
abbrev cX11_read : ByteArray := prog_1_method_4_code
def yX11_read : MethodName := ⟨RX11, "read", "(I)I"⟩
abbrev cX11_fault : ByteArray := prog_1_method_5_code
def yX11_fault : MethodName := ⟨RX11, "fault", "(I)I"⟩
abbrev cX11_policy : ByteArray := prog_1_method_6_code
def yX11_policy : MethodName := ⟨RX11, "policy", "(IIII)Z"⟩
abbrev cX11_complain : ByteArray := prog_1_method_7_code
def yX11_complain : MethodName := ⟨RX11, "complain", "(III)I"⟩
abbrev cX11_trial : ByteArray := prog_1_method_8_code
def yX11_trial : MethodName := ⟨RX11, "trial", "(IIII)I"⟩
abbrev cX11_about : ByteArray := prog_1_method_9_code
def yX11_about : MethodName := ⟨RX11, "about", "(I)I"⟩
abbrev cX11_note : ByteArray := prog_1_method_10_code
def yX11_note : MethodName := ⟨RX11, "note", "(I)I"⟩
abbrev cX11_chain : ByteArray := prog_1_method_11_code
def yX11_chain : MethodName := ⟨RX11, "chain", "(II)I"⟩
abbrev cX11_complaint : ByteArray := prog_1_method_12_code
def yX11_complaint : MethodName := ⟨RX11, "complaint", "(III)I"⟩
def RX12 : String := "AppealCourtModel"
def TX12 : u_T := fun k => match k with
  | 0 => ("AppealCourtModel", "tape", "[I", true)
  | 1 => ("AppealCourtModel", "size", "I", false)
  | 2 => ("AppealCourtModel", "length", "I", false)
  | 3 => ("AppealCourtModel", "end", "I", false)
  | 4 => ("AppealCourtModel", "token", "I", false)
  | 5 => ("AppealCourtModel", "word", "I", false)
  | 6 => ("AppealCourtModel", "start", "I", false)
  | 7 => ("AppealCourtModel", "nameAt", "[I", true)
  | 8 => ("AppealCourtModel", "nameSize", "[I", true)
  | 9 => ("AppealCourtModel", "toldIn", "[I", true)
  | 10 => ("AppealCourtModel", "toldAs", "[I", true)
  | 11 => ("AppealCourtModel", "hearingOf", "[I", true)
  | 12 => ("AppealCourtModel", "names", "I", false)
  | 13 => ("AppealCourtModel", "op", "[I", true)
  | 14 => ("AppealCourtModel", "one", "[I", true)
  | 15 => ("AppealCourtModel", "two", "[I", true)
  | 16 => ("AppealCourtModel", "three", "[I", true)
  | 17 => ("AppealCourtModel", "spot", "[I", true)
  | 18 => ("AppealCourtModel", "hearingAt", "[I", true)
  | 19 => ("AppealCourtModel", "hearingParams", "[I", true)
  | 20 => ("AppealCourtModel", "tryUphold", "[I", true)
  | 21 => ("AppealCourtModel", "tryLastly", "[I", true)
  | 22 => ("AppealCourtModel", "tryEnd", "[I", true)
  | 23 => ("AppealCourtModel", "upholdKind", "[I", true)
  | 24 => ("AppealCourtModel", "upholdObject", "[I", true)
  | 25 => ("AppealCourtModel", "upholdAt", "[I", true)
  | 26 => ("AppealCourtModel", "upholdNext", "[I", true)
  | 27 => ("AppealCourtModel", "bank", "I", false)
  | 28 => ("AppealCourtModel", "hearingsTold", "I", false)
  | 29 => ("AppealCourtModel", "codes", "I", false)
  | 30 => ("AppealCourtModel", "hearings", "I", false)
  | 31 => ("AppealCourtModel", "tries", "I", false)
  | 32 => ("AppealCourtModel", "upholds", "I", false)
  | 33 => ("AppealCourtModel", "open", "I", false)
  | 34 => ("AppealCourtModel", "numbers", "I", false)
  | 35 => ("AppealCourtModel", "objects", "I", false)
  | 36 => ("AppealCourtModel", "wrong", "I", false)
  | 37 => ("AppealCourtModel", "place2", "I", false)
  | 38 => ("AppealCourtModel", "place3", "I", false)
  | 39 => ("AppealCourtModel", "place4", "I", false)
  | 40 => ("AppealCourtModel", "lastFault", "I", false)
  | 41 => ("AppealCourtModel", "lastPlace", "I", false)
  | 42 => ("AppealCourtModel", "hearCode", "[I", true)
  | 43 => ("AppealCourtModel", "hearName", "[I", true)
  | 44 => ("AppealCourtModel", "hearMany", "[I", true)
  | 45 => ("AppealCourtModel", "hearPlace", "[I", true)
  | 46 => ("AppealCourtModel", "hears", "I", false)
  | 47 => ("AppealCourtModel", "spotted", "I", false)
  | 48 => ("AppealCourtModel", "kindOf", "[I", true)
  | 49 => ("AppealCourtModel", "ground", "[I", true)
  | 50 => ("AppealCourtModel", "days", "[I", true)
  | 51 => ("AppealCourtModel", "made", "[I", true)
  | 52 => ("AppealCourtModel", "causeOf", "[I", true)
  | 53 => ("AppealCourtModel", "settled", "[Z", true)
  | 54 => ("AppealCourtModel", "all", "I", false)
  | 55 => ("AppealCourtModel", "allNow", "I", false)
  | 56 => ("AppealCourtModel", "refused", "I", false)
  | 57 => ("AppealCourtModel", "number", "[I", true)
  | 58 => ("AppealCourtModel", "held", "[I", true)
  | 59 => ("AppealCourtModel", "back", "[I", true)
  | 60 => ("AppealCourtModel", "intoOf", "[I", true)
  | 61 => ("AppealCourtModel", "triesOf", "[I", true)
  | 62 => ("AppealCourtModel", "frames", "I", false)
  | 63 => ("AppealCourtModel", "openTry", "[I", true)
  | 64 => ("AppealCourtModel", "phase", "[I", true)
  | 65 => ("AppealCourtModel", "behind", "[I", true)
  | 66 => ("AppealCourtModel", "with", "[I", true)
  | 67 => ("AppealCourtModel", "openTries", "I", false)
  | 68 => ("AppealCourtModel", "value", "[I", true)
  | 69 => ("AppealCourtModel", "values", "I", false)
  | 70 => ("AppealCourtModel", "pc", "I", false)
  | 71 => ("AppealCourtModel", "isOver", "Z", false)
  | 72 => ("AppealCourtModel", "isDone", "Z", false)
  | 73 => ("AppealCourtModel", "out", "I", false)
  | 74 => ("AppealCourtModel", "restedWith", "I", false)
  | 75 => ("AppealCourtModel", "gave", "I", false)
  | 76 => ("AppealCourtModel", "rested", "I", false)
  | 77 => ("AppealCourtModel", "struckAt", "I", false)
  | 78 => ("AppealCourtModel", "steps", "I", false)
  | 79 => ("AppealCourtModel", "mostSteps", "I", false)
  | 80 => ("AppealCourtModel", "notes", "I", false)
  | 81 => ("AppealCourtModel", "remands", "I", false)
  | 82 => ("AppealCourtModel", "begun", "I", false)
  | 83 => ("AppealCourtModel", "last", "I", false)
  | 84 => ("AppealCourtModel", "noteRow", "[I", true)
  | 85 => ("AppealCourtModel", "policies", "[I", true)
  | 86 => ("AppealCourtModel", "policyWith", "[I", true)
  | _ => ("AppealCourtModel", "complaints", "[I", true)
def tyX12 : Nat → FieldType := fun k => match k with
  | 0 => .array .int
  | 1 => .int
  | 2 => .int
  | 3 => .int
  | 4 => .int
  | 5 => .int
  | 6 => .int
  | 7 => .array .int
  | 8 => .array .int
  | 9 => .array .int
  | 10 => .array .int
  | 11 => .array .int
  | 12 => .int
  | 13 => .array .int
  | 14 => .array .int
  | 15 => .array .int
  | 16 => .array .int
  | 17 => .array .int
  | 18 => .array .int
  | 19 => .array .int
  | 20 => .array .int
  | 21 => .array .int
  | 22 => .array .int
  | 23 => .array .int
  | 24 => .array .int
  | 25 => .array .int
  | 26 => .array .int
  | 27 => .int
  | 28 => .int
  | 29 => .int
  | 30 => .int
  | 31 => .int
  | 32 => .int
  | 33 => .int
  | 34 => .int
  | 35 => .int
  | 36 => .int
  | 37 => .int
  | 38 => .int
  | 39 => .int
  | 40 => .int
  | 41 => .int
  | 42 => .array .int
  | 43 => .array .int
  | 44 => .array .int
  | 45 => .array .int
  | 46 => .int
  | 47 => .int
  | 48 => .array .int
  | 49 => .array .int
  | 50 => .array .int
  | 51 => .array .int
  | 52 => .array .int
  | 53 => .array .boolean
  | 54 => .int
  | 55 => .int
  | 56 => .int
  | 57 => .array .int
  | 58 => .array .int
  | 59 => .array .int
  | 60 => .array .int
  | 61 => .array .int
  | 62 => .int
  | 63 => .array .int
  | 64 => .array .int
  | 65 => .array .int
  | 66 => .array .int
  | 67 => .int
  | 68 => .array .int
  | 69 => .int
  | 70 => .int
  | 71 => .boolean
  | 72 => .boolean
  | 73 => .int
  | 74 => .int
  | 75 => .int
  | 76 => .int
  | 77 => .int
  | 78 => .int
  | 79 => .int
  | 80 => .int
  | 81 => .int
  | 82 => .int
  | 83 => .int
  | 84 => .array .int
  | 85 => .array .int
  | 86 => .array .int
  | _ => .array .int
abbrev wsX120 : List Cond := u_ws RX12 TX12 88
theorem nmX12 : ∀ a, a < 88 → ∀ b, b < 88 → a ≠ b → (TX12 a).2.1 ≠ (TX12 b).2.1 := by decide +kernel
theorem tyX12_ok : ∀ k, k < 88 → parseFieldDescriptor (TX12 k).2.2.1 = some (tyX12 k) := by decide +kernel
abbrev cX12_init : ByteArray := prog_14_method_1_code
def yX12_init : MethodName := ⟨RX12, "<init>", "()V"⟩
abbrev cX12_feed : ByteArray := prog_14_method_3_code
def yX12_feed : MethodName := ⟨RX12, "feed", "(IIIII)I"⟩
abbrev cX12_word4 : ByteArray := prog_14_method_4_code
def yX12_word4 : MethodName := ⟨RX12, "word4", "(I)V"⟩
abbrev cX12_byteAt : ByteArray := prog_14_method_5_code
def yX12_byteAt : MethodName := ⟨RX12, "byteAt", "(I)I"⟩
abbrev cX12_isSmall : ByteArray := prog_14_method_6_code
def yX12_isSmall : MethodName := ⟨RX12, "isSmall", "(I)Z"⟩
abbrev cX12_isGreat : ByteArray := prog_14_method_7_code
def yX12_isGreat : MethodName := ⟨RX12, "isGreat", "(I)Z"⟩
abbrev cX12_isDigit : ByteArray := prog_14_method_8_code
def yX12_isDigit : MethodName := ⟨RX12, "isDigit", "(I)Z"⟩
abbrev cX12_isOfWord : ByteArray := prog_14_method_9_code
def yX12_isOfWord : MethodName := ⟨RX12, "isOfWord", "(I)Z"⟩
abbrev cX12_among : ByteArray := prog_14_method_10_code
def yX12_among : MethodName := ⟨RX12, "among", "(Ljava/lang/String;)I"⟩
abbrev cX12_next : ByteArray := prog_14_method_11_code
def yX12_next : MethodName := ⟨RX12, "next", "()V"⟩
abbrev cX12_wordToken : ByteArray := prog_14_method_12_code
def yX12_wordToken : MethodName := ⟨RX12, "wordToken", "(I)V"⟩
abbrev cX12_name : ByteArray := prog_14_method_13_code
def yX12_name : MethodName := ⟨RX12, "name", "()I"⟩
abbrev cX12_put : ByteArray := prog_14_method_14_code
def yX12_put : MethodName := ⟨RX12, "put", "(IIII)I"⟩
abbrev cX12_here : ByteArray := prog_14_method_15_code
def yX12_here : MethodName := ⟨RX12, "here", "()I"⟩
abbrev cX12_bad : ByteArray := prog_14_method_16_code
def yX12_bad : MethodName := ⟨RX12, "bad", "()Z"⟩
abbrev cX12_fail : ByteArray := prog_14_method_17_code
def yX12_fail : MethodName := ⟨RX12, "fail", "()V"⟩
abbrev cX12_isSign : ByteArray := prog_14_method_18_code
def yX12_isSign : MethodName := ⟨RX12, "isSign", "(I)Z"⟩
abbrev cX12_isWord : ByteArray := prog_14_method_19_code
def yX12_isWord : MethodName := ⟨RX12, "isWord", "(I)Z"⟩
abbrev cX12_pass : ByteArray := prog_14_method_20_code
def yX12_pass : MethodName := ⟨RX12, "pass", "()V"⟩
abbrev cX12_need : ByteArray := prog_14_method_21_code
def yX12_need : MethodName := ⟨RX12, "need", "(I)V"⟩
abbrev cX12_needWord : ByteArray := prog_14_method_22_code
def yX12_needWord : MethodName := ⟨RX12, "needWord", "(I)V"⟩
abbrev cX12_opens : ByteArray := prog_14_method_23_code
def yX12_opens : MethodName := ⟨RX12, "opens", "(I)V"⟩
abbrev cX12_closes : ByteArray := prog_14_method_24_code
def yX12_closes : MethodName := ⟨RX12, "closes", "(I)V"⟩
abbrev cX12_taken : ByteArray := prog_14_method_25_code
def yX12_taken : MethodName := ⟨RX12, "taken", "(I)I"⟩
abbrev cX12_least : ByteArray := prog_14_method_26_code
def yX12_least : MethodName := ⟨RX12, "least", "(II)I"⟩
abbrev cX12_tell : ByteArray := prog_14_method_27_code
def yX12_tell : MethodName := ⟨RX12, "tell", "(II)V"⟩
abbrev cX12_told : ByteArray := prog_14_method_28_code
def yX12_told : MethodName := ⟨RX12, "told", "(II)I"⟩
abbrev cX12_object : ByteArray := prog_14_method_29_code
def yX12_object : MethodName := ⟨RX12, "object", "()I"⟩
abbrev cX12_text : ByteArray := prog_14_method_30_code
def yX12_text : MethodName := ⟨RX12, "text", "()V"⟩
abbrev cX12_hearing : ByteArray := prog_14_method_31_code
def yX12_hearing : MethodName := ⟨RX12, "hearing", "()V"⟩
abbrev cX12_parameter : ByteArray := prog_14_method_32_code
def yX12_parameter : MethodName := ⟨RX12, "parameter", "(I)V"⟩
abbrev cX12_block : ByteArray := prog_14_method_33_code
def yX12_block : MethodName := ⟨RX12, "block", "()V"⟩
abbrev cX12_statement : ByteArray := prog_14_method_34_code
def yX12_statement : MethodName := ⟨RX12, "statement", "()V"⟩
abbrev cX12_let : ByteArray := prog_14_method_35_code
def yX12_let : MethodName := ⟨RX12, "let", "()V"⟩
abbrev cX12_hold : ByteArray := prog_14_method_36_code
def yX12_hold : MethodName := ⟨RX12, "hold", "()V"⟩
abbrev cX12_made : ByteArray := prog_14_method_37_code
def yX12_made : MethodName := ⟨RX12, "made", "(I)V"⟩
abbrev cX12_join : ByteArray := prog_14_method_38_code
def yX12_join : MethodName := ⟨RX12, "join", "()V"⟩
abbrev cX12_note : ByteArray := prog_14_method_39_code
def yX12_note : MethodName := ⟨RX12, "note", "()V"⟩
abbrev cX12_hear : ByteArray := prog_14_method_40_code
def yX12_hear : MethodName := ⟨RX12, "hear", "()V"⟩
abbrev cX12_choice : ByteArray := prog_14_method_41_code
def yX12_choice : MethodName := ⟨RX12, "choice", "()V"⟩
abbrev cX12_loop : ByteArray := prog_14_method_42_code
def yX12_loop : MethodName := ⟨RX12, "loop", "()V"⟩
abbrev cX12_trying : ByteArray := prog_14_method_43_code
def yX12_trying : MethodName := ⟨RX12, "trying", "()V"⟩
abbrev cX12_whole : ByteArray := prog_14_method_44_code
def yX12_whole : MethodName := ⟨RX12, "whole", "()V"⟩
abbrev cX12_wholeBehind : ByteArray := prog_14_method_45_code
def yX12_wholeBehind : MethodName := ⟨RX12, "wholeBehind", "()V"⟩
abbrev cX12_compared : ByteArray := prog_14_method_46_code
def yX12_compared : MethodName := ⟨RX12, "compared", "()V"⟩
abbrev cX12_sum : ByteArray := prog_14_method_47_code
def yX12_sum : MethodName := ⟨RX12, "sum", "()V"⟩
abbrev cX12_sumBehind : ByteArray := prog_14_method_48_code
def yX12_sumBehind : MethodName := ⟨RX12, "sumBehind", "()V"⟩
abbrev cX12_product : ByteArray := prog_14_method_49_code
def yX12_product : MethodName := ⟨RX12, "product", "()V"⟩
abbrev cX12_productBehind : ByteArray := prog_14_method_50_code
def yX12_productBehind : MethodName := ⟨RX12, "productBehind", "()V"⟩
abbrev cX12_factor : ByteArray := prog_14_method_51_code
def yX12_factor : MethodName := ⟨RX12, "factor", "()V"⟩
abbrev cX12_asked : ByteArray := prog_14_method_52_code
def yX12_asked : MethodName := ⟨RX12, "asked", "(I)V"⟩
abbrev cX12_read : ByteArray := prog_14_method_53_code
def yX12_read : MethodName := ⟨RX12, "read", "(I)I"⟩
abbrev cX12_fault : ByteArray := prog_14_method_54_code
def yX12_fault : MethodName := ⟨RX12, "fault", "(I)I"⟩
abbrev cX12_above : ByteArray := prog_14_method_55_code
def yX12_above : MethodName := ⟨RX12, "above", "(I)I"⟩
abbrev cX12_isKind : ByteArray := prog_14_method_56_code
def yX12_isKind : MethodName := ⟨RX12, "isKind", "(II)Z"⟩
abbrev cX12_weight : ByteArray := prog_14_method_57_code
def yX12_weight : MethodName := ⟨RX12, "weight", "(I)I"⟩
abbrev cX12_many : ByteArray := prog_14_method_58_code
def yX12_many : MethodName := ⟨RX12, "many", "(I)I"⟩
abbrev cX12_makes : ByteArray := prog_14_method_59_code
def yX12_makes : MethodName := ⟨RX12, "makes", "(IIIIIZ)I"⟩
abbrev cX12_makesOne : ByteArray := prog_14_method_60_code
def yX12_makesOne : MethodName := ⟨RX12, "makesOne", "(IIIIIZ)I"⟩
abbrev cX12_push : ByteArray := prog_14_method_61_code
def yX12_push : MethodName := ⟨RX12, "push", "(I)V"⟩
abbrev cX12_pop : ByteArray := prog_14_method_62_code
def yX12_pop : MethodName := ⟨RX12, "pop", "()I"⟩
abbrev cX12_begins : ByteArray := prog_14_method_63_code
def yX12_begins : MethodName := ⟨RX12, "begins", "(I)V"⟩
abbrev cX12_holds : ByteArray := prog_14_method_64_code
def yX12_holds : MethodName := ⟨RX12, "holds", "(III)V"⟩
abbrev cX12_raise : ByteArray := prog_14_method_65_code
def yX12_raise : MethodName := ⟨RX12, "raise", "(I)V"⟩
abbrev cX12_goesLastly : ByteArray := prog_14_method_66_code
def yX12_goesLastly : MethodName := ⟨RX12, "goesLastly", "(III)Z"⟩
abbrev cX12_rest : ByteArray := prog_14_method_67_code
def yX12_rest : MethodName := ⟨RX12, "rest", "(I)V"⟩
abbrev cX12_raises : ByteArray := prog_14_method_68_code
def yX12_raises : MethodName := ⟨RX12, "raises", "(III)V"⟩
abbrev cX12_obj : ByteArray := prog_14_method_69_code
def yX12_obj : MethodName := ⟨RX12, "obj", "(I)I"⟩
abbrev cX12_hold_ : ByteArray := prog_14_method_70_code
def yX12_hold_ : MethodName := ⟨RX12, "hold", "(II)V"⟩
abbrev cX12_act : ByteArray := prog_14_method_71_code
def yX12_act : MethodName := ⟨RX12, "act", "()V"⟩
abbrev cX12_more : ByteArray := prog_14_method_72_code
def yX12_more : MethodName := ⟨RX12, "more", "(II)V"⟩
abbrev cX12_count : ByteArray := prog_14_method_73_code
def yX12_count : MethodName := ⟨RX12, "count", "(I)V"⟩
abbrev cX12_ask : ByteArray := prog_14_method_74_code
def yX12_ask : MethodName := ⟨RX12, "ask", "(II)V"⟩
abbrev cX12_joins : ByteArray := prog_14_method_75_code
def yX12_joins : MethodName := ⟨RX12, "joins", "(II)V"⟩
abbrev cX12_notes : ByteArray := prog_14_method_76_code
def yX12_notes : MethodName := ⟨RX12, "notes", "(I)V"⟩
abbrev cX12_hears : ByteArray := prog_14_method_77_code
def yX12_hears : MethodName := ⟨RX12, "hears", "(III)V"⟩
abbrev cX12_policy : ByteArray := prog_14_method_78_code
def yX12_policy : MethodName := ⟨RX12, "policy", "(IIII)Z"⟩
abbrev cX12_complain : ByteArray := prog_14_method_79_code
def yX12_complain : MethodName := ⟨RX12, "complain", "(III)I"⟩
abbrev cX12_below : ByteArray := prog_14_method_80_code
def yX12_below : MethodName := ⟨RX12, "below", "(IIII)V"⟩
abbrev cX12_deals : ByteArray := prog_14_method_81_code
def yX12_deals : MethodName := ⟨RX12, "deals", "(IIII)V"⟩
abbrev cX12_enters : ByteArray := prog_14_method_82_code
def yX12_enters : MethodName := ⟨RX12, "enters", "(I)V"⟩
abbrev cX12_trial : ByteArray := prog_14_method_83_code
def yX12_trial : MethodName := ⟨RX12, "trial", "(IIII)I"⟩
abbrev cX12_about : ByteArray := prog_14_method_84_code
def yX12_about : MethodName := ⟨RX12, "about", "(I)I"⟩
abbrev cX12_note_ : ByteArray := prog_14_method_85_code
def yX12_note_ : MethodName := ⟨RX12, "note", "(I)I"⟩
abbrev cX12_told_ : ByteArray := prog_14_method_86_code
def yX12_told_ : MethodName := ⟨RX12, "told", "(IIII)I"⟩
abbrev cX12_chain : ByteArray := prog_14_method_87_code
def yX12_chain : MethodName := ⟨RX12, "chain", "(II)I"⟩
abbrev cX12_complaint : ByteArray := prog_14_method_88_code
def yX12_complaint : MethodName := ⟨RX12, "complaint", "(III)I"⟩
def RJ9 : String := "java/lang/Math"
abbrev cJ9_floorMod_f86c9 : ByteArray := prog_17_method_52_code
def yJ9_floorMod_f86c9 : MethodName := ⟨RJ9, "floorMod", "(JJ)J"⟩
def RJ0 : String := "java/lang/String"
abbrev cJ0_length_8abf5 : ByteArray := prog_18_method_54_code
def yJ0_length_8abf5 : MethodName := ⟨RJ0, "length", "()I"⟩
abbrev cJ0_charAt_5068e : ByteArray := prog_18_method_56_code
def yJ0_charAt_5068e : MethodName := ⟨RJ0, "charAt", "(I)C"⟩
abbrev cJ0_indexOf_0f7a4 : ByteArray := prog_18_method_79_code
def yJ0_indexOf_0f7a4 : MethodName := ⟨RJ0, "indexOf", "(I)I"⟩
abbrev cJ0_indexOf_7cf53 : ByteArray := prog_18_method_80_code
def yJ0_indexOf_7cf53 : MethodName := ⟨RJ0, "indexOf", "(II)I"⟩
abbrev cJ0_coder_7d493 : ByteArray := prog_18_method_152_code
def yJ0_coder_7d493 : MethodName := ⟨RJ0, "coder", "()B"⟩
abbrev cJ0_isLatin1_aae02 : ByteArray := prog_18_method_154_code
def yJ0_isLatin1_aae02 : MethodName := ⟨RJ0, "isLatin1", "()Z"⟩
abbrev cJ0_checkIndex_df160 : ByteArray := prog_18_method_155_code
def yJ0_checkIndex_df160 : MethodName := ⟨RJ0, "checkIndex", "(II)V"⟩
def RJ1 : String := "java/lang/StringLatin1"
abbrev cJ1_charAt_3b067 : ByteArray := prog_19_method_2_code
def yJ1_charAt_3b067 : MethodName := ⟨RJ1, "charAt", "([BI)C"⟩
abbrev cJ1_canEncode_9a6ad : ByteArray := prog_19_method_4_code
def yJ1_canEncode_9a6ad : MethodName := ⟨RJ1, "canEncode", "(I)Z"⟩
abbrev cJ1_indexOf_4cfef : ByteArray := prog_19_method_22_code
def yJ1_indexOf_4cfef : MethodName := ⟨RJ1, "indexOf", "([BIII)I"⟩
abbrev cJ1_indexOfChar_4cfef : ByteArray := prog_19_method_23_code
def yJ1_indexOfChar_4cfef : MethodName := ⟨RJ1, "indexOfChar", "([BIII)I"⟩
def RJ7 : String := "java/util/Arrays"
abbrev cJ7_fill_53178 : ByteArray := prog_22_method_103_code
def yJ7_fill_53178 : MethodName := ⟨RJ7, "fill", "([II)V"⟩
abbrev cJ7_copyOf_59c91 : ByteArray := prog_22_method_123_code
def yJ7_copyOf_59c91 : MethodName := ⟨RJ7, "copyOf", "([II)[I"⟩
def RJ3 : String := "jdk/internal/util/Preconditions"
abbrev cJ3_checkIndex_8e157 : ByteArray := prog_23_method_11_code
def yJ3_checkIndex_8e157 : MethodName := ⟨RJ3, "checkIndex", "(IILjava/util/function/BiFunction;)I"⟩
def RL : String := "AppealCourtLaw"
abbrev cL_law : ByteArray := code
/-- the classes whose objects the worlds hold: the system's own, by their numbers (classes that have no objects stand as the first) -/
abbrev ac_cl : List vw_C := [(RX0, TX0, 6), (RX0, TX0, 6), (RX2, TX2, 4), (RX0, TX0, 6), (RX4, TX4, 4), (RX5, TX5, 9), (RX6, TX6, 5), (RX7, TX7, 15), (RX8, TX8, 16), (RX0, TX0, 6), (RX10, TX10, 7), (RX11, TX11, 9), (RX12, TX12, 88)]
