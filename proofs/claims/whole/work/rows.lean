section
/-- a private method of a class that the tables say can be made, by its rows of tables_1 -/
def lw_okq (q : MethodName × Nat) : Prop := (q.1.cls ≠ "java/lang/invoke/MethodHandle" ∧ q.1.cls ≠ "java/lang/invoke/VarHandle") ∧ Cond.instantiable q.1.cls q.2 ∈ tables_1 ∧ Cond.privateMethod q.1 ∈ tables_1 ∧ Cond.instanceMethod q.1 ∈ tables_1
theorem lw_p0 : lw_okq (⟨"AmendmentTree", "takeTold", "()V"⟩, 11) := ⟨⟨by decide +kernel, by decide +kernel⟩, List.mem_of_getElem? (i := 23) (by decide +kernel), List.mem_of_getElem? (i := 299) (by decide +kernel), List.mem_of_getElem? (i := 300) (by decide +kernel)⟩
theorem lw_p1 : lw_okq (⟨"AmendmentTree$Agenda", "takeLeast", "()V"⟩, 3) := ⟨⟨by decide +kernel, by decide +kernel⟩, List.mem_of_getElem? (i := 157) (by decide +kernel), List.mem_of_getElem? (i := 303) (by decide +kernel), List.mem_of_getElem? (i := 304) (by decide +kernel)⟩
theorem lw_p2 : lw_okq (⟨"AmendmentTree$Agenda", "leastNext", "(I)I"⟩, 3) := ⟨⟨by decide +kernel, by decide +kernel⟩, List.mem_of_getElem? (i := 157) (by decide +kernel), List.mem_of_getElem? (i := 307) (by decide +kernel), List.mem_of_getElem? (i := 308) (by decide +kernel)⟩
theorem lw_p3 : lw_okq (⟨"AmendmentTree$Agenda", "areChildrenIn", "(II)Z"⟩, 3) := ⟨⟨by decide +kernel, by decide +kernel⟩, List.mem_of_getElem? (i := 157) (by decide +kernel), List.mem_of_getElem? (i := 314) (by decide +kernel), List.mem_of_getElem? (i := 315) (by decide +kernel)⟩
theorem lw_p4 : lw_okq (⟨"AmendmentTree$Tastes", "takeAll", "()V"⟩, 2) := ⟨⟨by decide +kernel, by decide +kernel⟩, List.mem_of_getElem? (i := 174) (by decide +kernel), List.mem_of_getElem? (i := 318) (by decide +kernel), List.mem_of_getElem? (i := 319) (by decide +kernel)⟩
theorem lw_p5 : lw_okq (⟨"AmendmentTree$Tastes", "takeVoter", "(I)V"⟩, 2) := ⟨⟨by decide +kernel, by decide +kernel⟩, List.mem_of_getElem? (i := 174) (by decide +kernel), List.mem_of_getElem? (i := 322) (by decide +kernel), List.mem_of_getElem? (i := 323) (by decide +kernel)⟩
theorem lw_p6 : lw_okq (⟨"AmendmentTree$Tastes", "takeJoint", "(III)V"⟩, 2) := ⟨⟨by decide +kernel, by decide +kernel⟩, List.mem_of_getElem? (i := 174) (by decide +kernel), List.mem_of_getElem? (i := 326) (by decide +kernel), List.mem_of_getElem? (i := 327) (by decide +kernel)⟩
theorem lw_p7 : lw_okq (⟨"AmendmentTree$Votes", "takeForms", "()V"⟩, 9) := ⟨⟨by decide +kernel, by decide +kernel⟩, List.mem_of_getElem? (i := 187) (by decide +kernel), List.mem_of_getElem? (i := 330) (by decide +kernel), List.mem_of_getElem? (i := 331) (by decide +kernel)⟩
theorem lw_p8 : lw_okq (⟨"AmendmentTree$Hall", "formOf", "(I)I"⟩, 14) := ⟨⟨by decide +kernel, by decide +kernel⟩, List.mem_of_getElem? (i := 31) (by decide +kernel), List.mem_of_getElem? (i := 334) (by decide +kernel), List.mem_of_getElem? (i := 335) (by decide +kernel)⟩
theorem lw_p9 : lw_okq (⟨"AmendmentTree$Hall", "plusOf", "(II)I"⟩, 14) := ⟨⟨by decide +kernel, by decide +kernel⟩, List.mem_of_getElem? (i := 31) (by decide +kernel), List.mem_of_getElem? (i := 339) (by decide +kernel), List.mem_of_getElem? (i := 340) (by decide +kernel)⟩
theorem lw_p10 : lw_okq (⟨"AmendmentTree$Contest", "takeOpen", "()V"⟩, 10) := ⟨⟨by decide +kernel, by decide +kernel⟩, List.mem_of_getElem? (i := 260) (by decide +kernel), List.mem_of_getElem? (i := 343) (by decide +kernel), List.mem_of_getElem? (i := 344) (by decide +kernel)⟩
theorem lw_p11 : lw_okq (⟨"AmendmentTree$Contest", "forgetBeaten", "()V"⟩, 10) := ⟨⟨by decide +kernel, by decide +kernel⟩, List.mem_of_getElem? (i := 260) (by decide +kernel), List.mem_of_getElem? (i := 351) (by decide +kernel), List.mem_of_getElem? (i := 352) (by decide +kernel)⟩
theorem lw_p12 : lw_okq (⟨"AmendmentTree", "putBytes", "(I)V"⟩, 11) := ⟨⟨by decide +kernel, by decide +kernel⟩, List.mem_of_getElem? (i := 23) (by decide +kernel), List.mem_of_getElem? (i := 393) (by decide +kernel), List.mem_of_getElem? (i := 394) (by decide +kernel)⟩
theorem lw_p13 : lw_okq (⟨"AmendmentTree$Reader", "readText", "(I)I"⟩, 13) := ⟨⟨by decide +kernel, by decide +kernel⟩, List.mem_of_getElem? (i := 110) (by decide +kernel), List.mem_of_getElem? (i := 405) (by decide +kernel), List.mem_of_getElem? (i := 406) (by decide +kernel)⟩
theorem lw_p14 : lw_okq (⟨"AmendmentTree$Hall", "clear", "()V"⟩, 14) := ⟨⟨by decide +kernel, by decide +kernel⟩, List.mem_of_getElem? (i := 31) (by decide +kernel), List.mem_of_getElem? (i := 415) (by decide +kernel), List.mem_of_getElem? (i := 416) (by decide +kernel)⟩
theorem lw_p15 : lw_okq (⟨"AmendmentTree$Reader", "step", "()V"⟩, 13) := ⟨⟨by decide +kernel, by decide +kernel⟩, List.mem_of_getElem? (i := 110) (by decide +kernel), List.mem_of_getElem? (i := 420) (by decide +kernel), List.mem_of_getElem? (i := 421) (by decide +kernel)⟩
def lw_privs_1 : List (MethodName × Nat) := [(⟨"AmendmentTree", "takeTold", "()V"⟩, 11), (⟨"AmendmentTree$Agenda", "takeLeast", "()V"⟩, 3), (⟨"AmendmentTree$Agenda", "leastNext", "(I)I"⟩, 3), (⟨"AmendmentTree$Agenda", "areChildrenIn", "(II)Z"⟩, 3), (⟨"AmendmentTree$Tastes", "takeAll", "()V"⟩, 2), (⟨"AmendmentTree$Tastes", "takeVoter", "(I)V"⟩, 2), (⟨"AmendmentTree$Tastes", "takeJoint", "(III)V"⟩, 2), (⟨"AmendmentTree$Votes", "takeForms", "()V"⟩, 9), (⟨"AmendmentTree$Hall", "formOf", "(I)I"⟩, 14), (⟨"AmendmentTree$Hall", "plusOf", "(II)I"⟩, 14), (⟨"AmendmentTree$Contest", "takeOpen", "()V"⟩, 10), (⟨"AmendmentTree$Contest", "forgetBeaten", "()V"⟩, 10), (⟨"AmendmentTree", "putBytes", "(I)V"⟩, 11), (⟨"AmendmentTree$Reader", "readText", "(I)I"⟩, 13), (⟨"AmendmentTree$Hall", "clear", "()V"⟩, 14), (⟨"AmendmentTree$Reader", "step", "()V"⟩, 13)]
theorem lw_r1 : ∀ q ∈ lw_privs_1, lw_okq q := List.forall_mem_cons.mpr ⟨lw_p0, List.forall_mem_cons.mpr ⟨lw_p1, List.forall_mem_cons.mpr ⟨lw_p2, List.forall_mem_cons.mpr ⟨lw_p3, List.forall_mem_cons.mpr ⟨lw_p4, List.forall_mem_cons.mpr ⟨lw_p5, List.forall_mem_cons.mpr ⟨lw_p6, List.forall_mem_cons.mpr ⟨lw_p7, List.forall_mem_cons.mpr ⟨lw_p8, List.forall_mem_cons.mpr ⟨lw_p9, List.forall_mem_cons.mpr ⟨lw_p10, List.forall_mem_cons.mpr ⟨lw_p11, List.forall_mem_cons.mpr ⟨lw_p12, List.forall_mem_cons.mpr ⟨lw_p13, List.forall_mem_cons.mpr ⟨lw_p14, List.forall_mem_cons.mpr ⟨lw_p15, fun _ h => absurd h List.not_mem_nil⟩⟩⟩⟩⟩⟩⟩⟩⟩⟩⟩⟩⟩⟩⟩⟩
theorem lw_p16 : lw_okq (⟨"AmendmentTree$Reader", "endOfRun", "(CC)I"⟩, 13) := ⟨⟨by decide +kernel, by decide +kernel⟩, List.mem_of_getElem? (i := 110) (by decide +kernel), List.mem_of_getElem? (i := 424) (by decide +kernel), List.mem_of_getElem? (i := 425) (by decide +kernel)⟩
theorem lw_p17 : lw_okq (⟨"AmendmentTree$Reader", "takeNumber", "()V"⟩, 13) := ⟨⟨by decide +kernel, by decide +kernel⟩, List.mem_of_getElem? (i := 110) (by decide +kernel), List.mem_of_getElem? (i := 428) (by decide +kernel), List.mem_of_getElem? (i := 429) (by decide +kernel)⟩
theorem lw_p18 : lw_okq (⟨"AmendmentTree$Reader", "statement", "()Z"⟩, 13) := ⟨⟨by decide +kernel, by decide +kernel⟩, List.mem_of_getElem? (i := 110) (by decide +kernel), List.mem_of_getElem? (i := 432) (by decide +kernel), List.mem_of_getElem? (i := 433) (by decide +kernel)⟩
theorem lw_p19 : lw_okq (⟨"AmendmentTree$Reader", "isWord", "(Ljava/lang/String;)Z"⟩, 13) := ⟨⟨by decide +kernel, by decide +kernel⟩, List.mem_of_getElem? (i := 110) (by decide +kernel), List.mem_of_getElem? (i := 437) (by decide +kernel), List.mem_of_getElem? (i := 438) (by decide +kernel)⟩
theorem lw_p20 : lw_okq (⟨"AmendmentTree$Reader", "bill", "()Z"⟩, 13) := ⟨⟨by decide +kernel, by decide +kernel⟩, List.mem_of_getElem? (i := 110) (by decide +kernel), List.mem_of_getElem? (i := 489) (by decide +kernel), List.mem_of_getElem? (i := 490) (by decide +kernel)⟩
theorem lw_p21 : lw_okq (⟨"AmendmentTree$Reader", "refuse", "(I)Z"⟩, 13) := ⟨⟨by decide +kernel, by decide +kernel⟩, List.mem_of_getElem? (i := 110) (by decide +kernel), List.mem_of_getElem? (i := 493) (by decide +kernel), List.mem_of_getElem? (i := 494) (by decide +kernel)⟩
theorem lw_p22 : lw_okq (⟨"AmendmentTree$Reader", "clauseSet", "(I)Z"⟩, 13) := ⟨⟨by decide +kernel, by decide +kernel⟩, List.mem_of_getElem? (i := 110) (by decide +kernel), List.mem_of_getElem? (i := 497) (by decide +kernel), List.mem_of_getElem? (i := 498) (by decide +kernel)⟩
theorem lw_p23 : lw_okq (⟨"AmendmentTree$Reader", "amendment", "()Z"⟩, 13) := ⟨⟨by decide +kernel, by decide +kernel⟩, List.mem_of_getElem? (i := 110) (by decide +kernel), List.mem_of_getElem? (i := 506) (by decide +kernel), List.mem_of_getElem? (i := 507) (by decide +kernel)⟩
theorem lw_p24 : lw_okq (⟨"AmendmentTree$Reader", "target", "()Z"⟩, 13) := ⟨⟨by decide +kernel, by decide +kernel⟩, List.mem_of_getElem? (i := 110) (by decide +kernel), List.mem_of_getElem? (i := 510) (by decide +kernel), List.mem_of_getElem? (i := 511) (by decide +kernel)⟩
theorem lw_p25 : lw_okq (⟨"AmendmentTree$Reader", "canBeAmended", "(I)Z"⟩, 13) := ⟨⟨by decide +kernel, by decide +kernel⟩, List.mem_of_getElem? (i := 110) (by decide +kernel), List.mem_of_getElem? (i := 515) (by decide +kernel), List.mem_of_getElem? (i := 516) (by decide +kernel)⟩
theorem lw_p26 : lw_okq (⟨"AmendmentTree$Hall", "hasMotion", "(I)Z"⟩, 14) := ⟨⟨by decide +kernel, by decide +kernel⟩, List.mem_of_getElem? (i := 31) (by decide +kernel), List.mem_of_getElem? (i := 519) (by decide +kernel), List.mem_of_getElem? (i := 520) (by decide +kernel)⟩
theorem lw_p27 : lw_okq (⟨"AmendmentTree$Reader", "isSign", "(C)Z"⟩, 13) := ⟨⟨by decide +kernel, by decide +kernel⟩, List.mem_of_getElem? (i := 110) (by decide +kernel), List.mem_of_getElem? (i := 523) (by decide +kernel), List.mem_of_getElem? (i := 524) (by decide +kernel)⟩
theorem lw_p28 : lw_okq (⟨"AmendmentTree$Hall", "addMotion", "(IIII)V"⟩, 14) := ⟨⟨by decide +kernel, by decide +kernel⟩, List.mem_of_getElem? (i := 31) (by decide +kernel), List.mem_of_getElem? (i := 527) (by decide +kernel), List.mem_of_getElem? (i := 528) (by decide +kernel)⟩
theorem lw_p29 : lw_okq (⟨"AmendmentTree$Reader", "substitute", "()Z"⟩, 13) := ⟨⟨by decide +kernel, by decide +kernel⟩, List.mem_of_getElem? (i := 110) (by decide +kernel), List.mem_of_getElem? (i := 531) (by decide +kernel), List.mem_of_getElem? (i := 532) (by decide +kernel)⟩
theorem lw_p30 : lw_okq (⟨"AmendmentTree$Reader", "voter", "()Z"⟩, 13) := ⟨⟨by decide +kernel, by decide +kernel⟩, List.mem_of_getElem? (i := 110) (by decide +kernel), List.mem_of_getElem? (i := 536) (by decide +kernel), List.mem_of_getElem? (i := 537) (by decide +kernel)⟩
theorem lw_p31 : lw_okq (⟨"AmendmentTree$Reader", "signedWeight", "()Z"⟩, 13) := ⟨⟨by decide +kernel, by decide +kernel⟩, List.mem_of_getElem? (i := 110) (by decide +kernel), List.mem_of_getElem? (i := 540) (by decide +kernel), List.mem_of_getElem? (i := 541) (by decide +kernel)⟩
def lw_privs_2 : List (MethodName × Nat) := [(⟨"AmendmentTree$Reader", "endOfRun", "(CC)I"⟩, 13), (⟨"AmendmentTree$Reader", "takeNumber", "()V"⟩, 13), (⟨"AmendmentTree$Reader", "statement", "()Z"⟩, 13), (⟨"AmendmentTree$Reader", "isWord", "(Ljava/lang/String;)Z"⟩, 13), (⟨"AmendmentTree$Reader", "bill", "()Z"⟩, 13), (⟨"AmendmentTree$Reader", "refuse", "(I)Z"⟩, 13), (⟨"AmendmentTree$Reader", "clauseSet", "(I)Z"⟩, 13), (⟨"AmendmentTree$Reader", "amendment", "()Z"⟩, 13), (⟨"AmendmentTree$Reader", "target", "()Z"⟩, 13), (⟨"AmendmentTree$Reader", "canBeAmended", "(I)Z"⟩, 13), (⟨"AmendmentTree$Hall", "hasMotion", "(I)Z"⟩, 14), (⟨"AmendmentTree$Reader", "isSign", "(C)Z"⟩, 13), (⟨"AmendmentTree$Hall", "addMotion", "(IIII)V"⟩, 14), (⟨"AmendmentTree$Reader", "substitute", "()Z"⟩, 13), (⟨"AmendmentTree$Reader", "voter", "()Z"⟩, 13), (⟨"AmendmentTree$Reader", "signedWeight", "()Z"⟩, 13)]
theorem lw_r2 : ∀ q ∈ lw_privs_2, lw_okq q := List.forall_mem_cons.mpr ⟨lw_p16, List.forall_mem_cons.mpr ⟨lw_p17, List.forall_mem_cons.mpr ⟨lw_p18, List.forall_mem_cons.mpr ⟨lw_p19, List.forall_mem_cons.mpr ⟨lw_p20, List.forall_mem_cons.mpr ⟨lw_p21, List.forall_mem_cons.mpr ⟨lw_p22, List.forall_mem_cons.mpr ⟨lw_p23, List.forall_mem_cons.mpr ⟨lw_p24, List.forall_mem_cons.mpr ⟨lw_p25, List.forall_mem_cons.mpr ⟨lw_p26, List.forall_mem_cons.mpr ⟨lw_p27, List.forall_mem_cons.mpr ⟨lw_p28, List.forall_mem_cons.mpr ⟨lw_p29, List.forall_mem_cons.mpr ⟨lw_p30, List.forall_mem_cons.mpr ⟨lw_p31, fun _ h => absurd h List.not_mem_nil⟩⟩⟩⟩⟩⟩⟩⟩⟩⟩⟩⟩⟩⟩⟩⟩
theorem lw_p32 : lw_okq (⟨"AmendmentTree$Reader", "joint", "()Z"⟩, 13) := ⟨⟨by decide +kernel, by decide +kernel⟩, List.mem_of_getElem? (i := 110) (by decide +kernel), List.mem_of_getElem? (i := 545) (by decide +kernel), List.mem_of_getElem? (i := 546) (by decide +kernel)⟩
theorem lw_p33 : lw_okq (⟨"AmendmentTree$Hall", "hasVoter", "(I)Z"⟩, 14) := ⟨⟨by decide +kernel, by decide +kernel⟩, List.mem_of_getElem? (i := 31) (by decide +kernel), List.mem_of_getElem? (i := 549) (by decide +kernel), List.mem_of_getElem? (i := 550) (by decide +kernel)⟩
theorem lw_p34 : lw_okq (⟨"AmendmentTree$Hall", "addJoint", "(III)V"⟩, 14) := ⟨⟨by decide +kernel, by decide +kernel⟩, List.mem_of_getElem? (i := 31) (by decide +kernel), List.mem_of_getElem? (i := 553) (by decide +kernel), List.mem_of_getElem? (i := 554) (by decide +kernel)⟩
theorem lw_p35 : lw_okq (⟨"AmendmentTree$Reader", "quota", "()Z"⟩, 13) := ⟨⟨by decide +kernel, by decide +kernel⟩, List.mem_of_getElem? (i := 110) (by decide +kernel), List.mem_of_getElem? (i := 558) (by decide +kernel), List.mem_of_getElem? (i := 559) (by decide +kernel)⟩
theorem lw_p36 : lw_okq (⟨"AmendmentTree$Reader", "semicolon", "()Z"⟩, 13) := ⟨⟨by decide +kernel, by decide +kernel⟩, List.mem_of_getElem? (i := 110) (by decide +kernel), List.mem_of_getElem? (i := 562) (by decide +kernel), List.mem_of_getElem? (i := 563) (by decide +kernel)⟩
theorem lw_p37 : lw_okq (⟨"AmendmentTree$Hall", "copyFrom", "(LAmendmentTree$Hall;)V"⟩, 14) := ⟨⟨by decide +kernel, by decide +kernel⟩, List.mem_of_getElem? (i := 31) (by decide +kernel), List.mem_of_getElem? (i := 566) (by decide +kernel), List.mem_of_getElem? (i := 567) (by decide +kernel)⟩
theorem lw_p38 : lw_okq (⟨"AmendmentTree$Agenda", "takeRow", "(I)Z"⟩, 3) := ⟨⟨by decide +kernel, by decide +kernel⟩, List.mem_of_getElem? (i := 157) (by decide +kernel), List.mem_of_getElem? (i := 590) (by decide +kernel), List.mem_of_getElem? (i := 591) (by decide +kernel)⟩
theorem lw_p39 : lw_okq (⟨"AmendmentTree$Agenda", "rowOfSequence", "()I"⟩, 3) := ⟨⟨by decide +kernel, by decide +kernel⟩, List.mem_of_getElem? (i := 157) (by decide +kernel), List.mem_of_getElem? (i := 594) (by decide +kernel), List.mem_of_getElem? (i := 595) (by decide +kernel)⟩
theorem lw_p40 : lw_okq (⟨"AmendmentTree$Agenda", "isGood", "(I)Z"⟩, 3) := ⟨⟨by decide +kernel, by decide +kernel⟩, List.mem_of_getElem? (i := 157) (by decide +kernel), List.mem_of_getElem? (i := 598) (by decide +kernel), List.mem_of_getElem? (i := 599) (by decide +kernel)⟩
theorem lw_p41 : lw_okq (⟨"AmendmentTree$Hall", "quotaInForce", "()I"⟩, 14) := ⟨⟨by decide +kernel, by decide +kernel⟩, List.mem_of_getElem? (i := 31) (by decide +kernel), List.mem_of_getElem? (i := 607) (by decide +kernel), List.mem_of_getElem? (i := 608) (by decide +kernel)⟩
theorem lw_p42 : lw_okq (⟨"AmendmentTree$Agenda", "countGood", "()I"⟩, 3) := ⟨⟨by decide +kernel, by decide +kernel⟩, List.mem_of_getElem? (i := 157) (by decide +kernel), List.mem_of_getElem? (i := 611) (by decide +kernel), List.mem_of_getElem? (i := 612) (by decide +kernel)⟩
theorem lw_p43 : lw_okq (⟨"AmendmentTree$Agenda", "canBeLast", "(II)Z"⟩, 3) := ⟨⟨by decide +kernel, by decide +kernel⟩, List.mem_of_getElem? (i := 157) (by decide +kernel), List.mem_of_getElem? (i := 615) (by decide +kernel), List.mem_of_getElem? (i := 616) (by decide +kernel)⟩
theorem lw_p44 : lw_okq (⟨"AmendmentTree", "areVoters", "(I)Z"⟩, 11) := ⟨⟨by decide +kernel, by decide +kernel⟩, List.mem_of_getElem? (i := 23) (by decide +kernel), List.mem_of_getElem? (i := 630) (by decide +kernel), List.mem_of_getElem? (i := 631) (by decide +kernel)⟩
theorem lw_p45 : lw_okq (⟨"AmendmentTree$Votes", "outcome", "(II)I"⟩, 9) := ⟨⟨by decide +kernel, by decide +kernel⟩, List.mem_of_getElem? (i := 187) (by decide +kernel), List.mem_of_getElem? (i := 634) (by decide +kernel), List.mem_of_getElem? (i := 635) (by decide +kernel)⟩
theorem lw_p46 : lw_okq (⟨"AmendmentTree$Votes", "startBack", "(III)V"⟩, 9) := ⟨⟨by decide +kernel, by decide +kernel⟩, List.mem_of_getElem? (i := 187) (by decide +kernel), List.mem_of_getElem? (i := 639) (by decide +kernel), List.mem_of_getElem? (i := 640) (by decide +kernel)⟩
theorem lw_p47 : lw_okq (⟨"AmendmentTree$Votes", "yesOnPassage", "(I)I"⟩, 9) := ⟨⟨by decide +kernel, by decide +kernel⟩, List.mem_of_getElem? (i := 187) (by decide +kernel), List.mem_of_getElem? (i := 643) (by decide +kernel), List.mem_of_getElem? (i := 644) (by decide +kernel)⟩
def lw_privs_3 : List (MethodName × Nat) := [(⟨"AmendmentTree$Reader", "joint", "()Z"⟩, 13), (⟨"AmendmentTree$Hall", "hasVoter", "(I)Z"⟩, 14), (⟨"AmendmentTree$Hall", "addJoint", "(III)V"⟩, 14), (⟨"AmendmentTree$Reader", "quota", "()Z"⟩, 13), (⟨"AmendmentTree$Reader", "semicolon", "()Z"⟩, 13), (⟨"AmendmentTree$Hall", "copyFrom", "(LAmendmentTree$Hall;)V"⟩, 14), (⟨"AmendmentTree$Agenda", "takeRow", "(I)Z"⟩, 3), (⟨"AmendmentTree$Agenda", "rowOfSequence", "()I"⟩, 3), (⟨"AmendmentTree$Agenda", "isGood", "(I)Z"⟩, 3), (⟨"AmendmentTree$Hall", "quotaInForce", "()I"⟩, 14), (⟨"AmendmentTree$Agenda", "countGood", "()I"⟩, 3), (⟨"AmendmentTree$Agenda", "canBeLast", "(II)Z"⟩, 3), (⟨"AmendmentTree", "areVoters", "(I)Z"⟩, 11), (⟨"AmendmentTree$Votes", "outcome", "(II)I"⟩, 9), (⟨"AmendmentTree$Votes", "startBack", "(III)V"⟩, 9), (⟨"AmendmentTree$Votes", "yesOnPassage", "(I)I"⟩, 9)]
theorem lw_r3 : ∀ q ∈ lw_privs_3, lw_okq q := List.forall_mem_cons.mpr ⟨lw_p32, List.forall_mem_cons.mpr ⟨lw_p33, List.forall_mem_cons.mpr ⟨lw_p34, List.forall_mem_cons.mpr ⟨lw_p35, List.forall_mem_cons.mpr ⟨lw_p36, List.forall_mem_cons.mpr ⟨lw_p37, List.forall_mem_cons.mpr ⟨lw_p38, List.forall_mem_cons.mpr ⟨lw_p39, List.forall_mem_cons.mpr ⟨lw_p40, List.forall_mem_cons.mpr ⟨lw_p41, List.forall_mem_cons.mpr ⟨lw_p42, List.forall_mem_cons.mpr ⟨lw_p43, List.forall_mem_cons.mpr ⟨lw_p44, List.forall_mem_cons.mpr ⟨lw_p45, List.forall_mem_cons.mpr ⟨lw_p46, List.forall_mem_cons.mpr ⟨lw_p47, fun _ h => absurd h List.not_mem_nil⟩⟩⟩⟩⟩⟩⟩⟩⟩⟩⟩⟩⟩⟩⟩⟩
theorem lw_p48 : lw_okq (⟨"AmendmentTree$Tastes", "countPreferring", "(II)I"⟩, 2) := ⟨⟨by decide +kernel, by decide +kernel⟩, List.mem_of_getElem? (i := 174) (by decide +kernel), List.mem_of_getElem? (i := 647) (by decide +kernel), List.mem_of_getElem? (i := 648) (by decide +kernel)⟩
theorem lw_p49 : lw_okq (⟨"AmendmentTree$Tastes", "isPreferred", "(III)Z"⟩, 2) := ⟨⟨by decide +kernel, by decide +kernel⟩, List.mem_of_getElem? (i := 174) (by decide +kernel), List.mem_of_getElem? (i := 651) (by decide +kernel), List.mem_of_getElem? (i := 652) (by decide +kernel)⟩
theorem lw_p50 : lw_okq (⟨"AmendmentTree$Votes", "passes", "(I)Z"⟩, 9) := ⟨⟨by decide +kernel, by decide +kernel⟩, List.mem_of_getElem? (i := 187) (by decide +kernel), List.mem_of_getElem? (i := 655) (by decide +kernel), List.mem_of_getElem? (i := 656) (by decide +kernel)⟩
theorem lw_p51 : lw_okq (⟨"AmendmentTree$Votes", "stepBack", "(III)V"⟩, 9) := ⟨⟨by decide +kernel, by decide +kernel⟩, List.mem_of_getElem? (i := 187) (by decide +kernel), List.mem_of_getElem? (i := 660) (by decide +kernel), List.mem_of_getElem? (i := 661) (by decide +kernel)⟩
theorem lw_p52 : lw_okq (⟨"AmendmentTree$Votes", "yesOnMotion", "(III)I"⟩, 9) := ⟨⟨by decide +kernel, by decide +kernel⟩, List.mem_of_getElem? (i := 187) (by decide +kernel), List.mem_of_getElem? (i := 670) (by decide +kernel), List.mem_of_getElem? (i := 671) (by decide +kernel)⟩
theorem lw_p53 : lw_okq (⟨"AmendmentTree$Votes", "carries", "(I)Z"⟩, 9) := ⟨⟨by decide +kernel, by decide +kernel⟩, List.mem_of_getElem? (i := 187) (by decide +kernel), List.mem_of_getElem? (i := 675) (by decide +kernel), List.mem_of_getElem? (i := 676) (by decide +kernel)⟩
theorem lw_p54 : lw_okq (⟨"AmendmentTree$Votes", "walk", "(I)V"⟩, 9) := ⟨⟨by decide +kernel, by decide +kernel⟩, List.mem_of_getElem? (i := 187) (by decide +kernel), List.mem_of_getElem? (i := 683) (by decide +kernel), List.mem_of_getElem? (i := 684) (by decide +kernel)⟩
theorem lw_p55 : lw_okq (⟨"AmendmentTree$Votes", "minuteByte", "(II)I"⟩, 9) := ⟨⟨by decide +kernel, by decide +kernel⟩, List.mem_of_getElem? (i := 187) (by decide +kernel), List.mem_of_getElem? (i := 696) (by decide +kernel), List.mem_of_getElem? (i := 697) (by decide +kernel)⟩
theorem lw_p56 : lw_okq (⟨"AmendmentTree$Hall", "goneWith", "(I)I"⟩, 14) := ⟨⟨by decide +kernel, by decide +kernel⟩, List.mem_of_getElem? (i := 31) (by decide +kernel), List.mem_of_getElem? (i := 705) (by decide +kernel), List.mem_of_getElem? (i := 706) (by decide +kernel)⟩
theorem lw_p57 : lw_okq (⟨"AmendmentTree$Search", "tryAll", "(II)V"⟩, 8) := ⟨⟨by decide +kernel, by decide +kernel⟩, List.mem_of_getElem? (i := 227) (by decide +kernel), List.mem_of_getElem? (i := 717) (by decide +kernel), List.mem_of_getElem? (i := 718) (by decide +kernel)⟩
theorem lw_p58 : lw_okq (⟨"AmendmentTree$Search", "tryLast", "(III)V"⟩, 8) := ⟨⟨by decide +kernel, by decide +kernel⟩, List.mem_of_getElem? (i := 227) (by decide +kernel), List.mem_of_getElem? (i := 722) (by decide +kernel), List.mem_of_getElem? (i := 723) (by decide +kernel)⟩
theorem lw_p59 : lw_okq (⟨"AmendmentTree$Search", "judge", "(II)V"⟩, 8) := ⟨⟨by decide +kernel, by decide +kernel⟩, List.mem_of_getElem? (i := 227) (by decide +kernel), List.mem_of_getElem? (i := 726) (by decide +kernel), List.mem_of_getElem? (i := 727) (by decide +kernel)⟩
theorem lw_p60 : lw_okq (⟨"AmendmentTree$Tastes", "likingOf", "(II)I"⟩, 2) := ⟨⟨by decide +kernel, by decide +kernel⟩, List.mem_of_getElem? (i := 174) (by decide +kernel), List.mem_of_getElem? (i := 730) (by decide +kernel), List.mem_of_getElem? (i := 731) (by decide +kernel)⟩
theorem lw_p61 : lw_okq (⟨"AmendmentTree$Search", "bestRow", "()I"⟩, 8) := ⟨⟨by decide +kernel, by decide +kernel⟩, List.mem_of_getElem? (i := 227) (by decide +kernel), List.mem_of_getElem? (i := 739) (by decide +kernel), List.mem_of_getElem? (i := 740) (by decide +kernel)⟩
theorem lw_p62 : lw_okq (⟨"AmendmentTree$Contest", "learnBeaten", "()V"⟩, 10) := ⟨⟨by decide +kernel, by decide +kernel⟩, List.mem_of_getElem? (i := 260) (by decide +kernel), List.mem_of_getElem? (i := 759) (by decide +kernel), List.mem_of_getElem? (i := 760) (by decide +kernel)⟩
theorem lw_p63 : lw_okq (⟨"AmendmentTree$Contest", "learnPair", "(II)V"⟩, 10) := ⟨⟨by decide +kernel, by decide +kernel⟩, List.mem_of_getElem? (i := 260) (by decide +kernel), List.mem_of_getElem? (i := 763) (by decide +kernel), List.mem_of_getElem? (i := 764) (by decide +kernel)⟩
def lw_privs_4 : List (MethodName × Nat) := [(⟨"AmendmentTree$Tastes", "countPreferring", "(II)I"⟩, 2), (⟨"AmendmentTree$Tastes", "isPreferred", "(III)Z"⟩, 2), (⟨"AmendmentTree$Votes", "passes", "(I)Z"⟩, 9), (⟨"AmendmentTree$Votes", "stepBack", "(III)V"⟩, 9), (⟨"AmendmentTree$Votes", "yesOnMotion", "(III)I"⟩, 9), (⟨"AmendmentTree$Votes", "carries", "(I)Z"⟩, 9), (⟨"AmendmentTree$Votes", "walk", "(I)V"⟩, 9), (⟨"AmendmentTree$Votes", "minuteByte", "(II)I"⟩, 9), (⟨"AmendmentTree$Hall", "goneWith", "(I)I"⟩, 14), (⟨"AmendmentTree$Search", "tryAll", "(II)V"⟩, 8), (⟨"AmendmentTree$Search", "tryLast", "(III)V"⟩, 8), (⟨"AmendmentTree$Search", "judge", "(II)V"⟩, 8), (⟨"AmendmentTree$Tastes", "likingOf", "(II)I"⟩, 2), (⟨"AmendmentTree$Search", "bestRow", "()I"⟩, 8), (⟨"AmendmentTree$Contest", "learnBeaten", "()V"⟩, 10), (⟨"AmendmentTree$Contest", "learnPair", "(II)V"⟩, 10)]
theorem lw_r4 : ∀ q ∈ lw_privs_4, lw_okq q := List.forall_mem_cons.mpr ⟨lw_p48, List.forall_mem_cons.mpr ⟨lw_p49, List.forall_mem_cons.mpr ⟨lw_p50, List.forall_mem_cons.mpr ⟨lw_p51, List.forall_mem_cons.mpr ⟨lw_p52, List.forall_mem_cons.mpr ⟨lw_p53, List.forall_mem_cons.mpr ⟨lw_p54, List.forall_mem_cons.mpr ⟨lw_p55, List.forall_mem_cons.mpr ⟨lw_p56, List.forall_mem_cons.mpr ⟨lw_p57, List.forall_mem_cons.mpr ⟨lw_p58, List.forall_mem_cons.mpr ⟨lw_p59, List.forall_mem_cons.mpr ⟨lw_p60, List.forall_mem_cons.mpr ⟨lw_p61, List.forall_mem_cons.mpr ⟨lw_p62, List.forall_mem_cons.mpr ⟨lw_p63, fun _ h => absurd h List.not_mem_nil⟩⟩⟩⟩⟩⟩⟩⟩⟩⟩⟩⟩⟩⟩⟩⟩
theorem lw_p64 : lw_okq (⟨"AmendmentTree$Contest", "markBeaten", "(II)V"⟩, 10) := ⟨⟨by decide +kernel, by decide +kernel⟩, List.mem_of_getElem? (i := 260) (by decide +kernel), List.mem_of_getElem? (i := 768) (by decide +kernel), List.mem_of_getElem? (i := 769) (by decide +kernel)⟩
theorem lw_p65 : lw_okq (⟨"AmendmentTree$Contest", "learnTop", "()V"⟩, 10) := ⟨⟨by decide +kernel, by decide +kernel⟩, List.mem_of_getElem? (i := 260) (by decide +kernel), List.mem_of_getElem? (i := 772) (by decide +kernel), List.mem_of_getElem? (i := 773) (by decide +kernel)⟩
theorem lw_p66 : lw_okq (⟨"AmendmentTree$Contest", "indexOfMostBeating", "()I"⟩, 10) := ⟨⟨by decide +kernel, by decide +kernel⟩, List.mem_of_getElem? (i := 260) (by decide +kernel), List.mem_of_getElem? (i := 776) (by decide +kernel), List.mem_of_getElem? (i := 777) (by decide +kernel)⟩
theorem lw_p67 : lw_okq (⟨"AmendmentTree$Contest", "countBeaten", "(I)I"⟩, 10) := ⟨⟨by decide +kernel, by decide +kernel⟩, List.mem_of_getElem? (i := 260) (by decide +kernel), List.mem_of_getElem? (i := 780) (by decide +kernel), List.mem_of_getElem? (i := 781) (by decide +kernel)⟩
theorem lw_p68 : lw_okq (⟨"AmendmentTree$Contest", "isBeaten", "(II)Z"⟩, 10) := ⟨⟨by decide +kernel, by decide +kernel⟩, List.mem_of_getElem? (i := 260) (by decide +kernel), List.mem_of_getElem? (i := 785) (by decide +kernel), List.mem_of_getElem? (i := 786) (by decide +kernel)⟩
theorem lw_p69 : lw_okq (⟨"AmendmentTree$Contest", "isOfTop", "(I)Z"⟩, 10) := ⟨⟨by decide +kernel, by decide +kernel⟩, List.mem_of_getElem? (i := 260) (by decide +kernel), List.mem_of_getElem? (i := 789) (by decide +kernel), List.mem_of_getElem? (i := 790) (by decide +kernel)⟩
theorem lw_p70 : lw_okq (⟨"AmendmentTree$Contest", "findWinner", "()I"⟩, 10) := ⟨⟨by decide +kernel, by decide +kernel⟩, List.mem_of_getElem? (i := 260) (by decide +kernel), List.mem_of_getElem? (i := 793) (by decide +kernel), List.mem_of_getElem? (i := 794) (by decide +kernel)⟩
theorem lw_p71 : lw_okq (⟨"AmendmentTree$Contest", "indexOf", "(I)I"⟩, 10) := ⟨⟨by decide +kernel, by decide +kernel⟩, List.mem_of_getElem? (i := 260) (by decide +kernel), List.mem_of_getElem? (i := 801) (by decide +kernel), List.mem_of_getElem? (i := 802) (by decide +kernel)⟩
theorem lw_p72 : lw_okq (⟨"AmendmentTree$Contest", "isCovered", "(I)Z"⟩, 10) := ⟨⟨by decide +kernel, by decide +kernel⟩, List.mem_of_getElem? (i := 260) (by decide +kernel), List.mem_of_getElem? (i := 806) (by decide +kernel), List.mem_of_getElem? (i := 807) (by decide +kernel)⟩
theorem lw_p73 : lw_okq (⟨"AmendmentTree$Contest", "beatsAllOf", "(II)Z"⟩, 10) := ⟨⟨by decide +kernel, by decide +kernel⟩, List.mem_of_getElem? (i := 260) (by decide +kernel), List.mem_of_getElem? (i := 810) (by decide +kernel), List.mem_of_getElem? (i := 811) (by decide +kernel)⟩
theorem lw_p74 : lw_okq (⟨"java/lang/Throwable", "fillInStackTrace", "(I)Ljava/lang/Throwable;"⟩, 6) := ⟨⟨by decide +kernel, by decide +kernel⟩, List.mem_of_getElem? (i := 859) (by decide +kernel), List.mem_of_getElem? (i := 857) (by decide +kernel), List.mem_of_getElem? (i := 858) (by decide +kernel)⟩
theorem lw_p75 : lw_okq (⟨"AmendmentTree$Agenda", "placeOf", "(I)I"⟩, 3) := ⟨⟨by decide +kernel, by decide +kernel⟩, List.mem_of_getElem? (i := 157) (by decide +kernel), List.mem_of_getElem? (i := 888) (by decide +kernel), List.mem_of_getElem? (i := 889) (by decide +kernel)⟩
theorem lw_p76 : lw_okq (⟨"AmendmentTreeModel", "four", "(I)V"⟩, 43) := ⟨⟨by decide +kernel, by decide +kernel⟩, List.mem_of_getElem? (i := 910) (by decide +kernel), List.mem_of_getElem? (i := 1055) (by decide +kernel), List.mem_of_getElem? (i := 1056) (by decide +kernel)⟩
theorem lw_p77 : lw_okq (⟨"AmendmentTreeModel", "readText", "()Z"⟩, 43) := ⟨⟨by decide +kernel, by decide +kernel⟩, List.mem_of_getElem? (i := 910) (by decide +kernel), List.mem_of_getElem? (i := 1070) (by decide +kernel), List.mem_of_getElem? (i := 1071) (by decide +kernel)⟩
theorem lw_p78 : lw_okq (⟨"AmendmentTreeModel", "here", "()I"⟩, 43) := ⟨⟨by decide +kernel, by decide +kernel⟩, List.mem_of_getElem? (i := 910) (by decide +kernel), List.mem_of_getElem? (i := 1074) (by decide +kernel), List.mem_of_getElem? (i := 1075) (by decide +kernel)⟩
theorem lw_p79 : lw_okq (⟨"AmendmentTreeModel", "readStatement", "()Z"⟩, 43) := ⟨⟨by decide +kernel, by decide +kernel⟩, List.mem_of_getElem? (i := 910) (by decide +kernel), List.mem_of_getElem? (i := 1078) (by decide +kernel), List.mem_of_getElem? (i := 1079) (by decide +kernel)⟩
def lw_privs_5 : List (MethodName × Nat) := [(⟨"AmendmentTree$Contest", "markBeaten", "(II)V"⟩, 10), (⟨"AmendmentTree$Contest", "learnTop", "()V"⟩, 10), (⟨"AmendmentTree$Contest", "indexOfMostBeating", "()I"⟩, 10), (⟨"AmendmentTree$Contest", "countBeaten", "(I)I"⟩, 10), (⟨"AmendmentTree$Contest", "isBeaten", "(II)Z"⟩, 10), (⟨"AmendmentTree$Contest", "isOfTop", "(I)Z"⟩, 10), (⟨"AmendmentTree$Contest", "findWinner", "()I"⟩, 10), (⟨"AmendmentTree$Contest", "indexOf", "(I)I"⟩, 10), (⟨"AmendmentTree$Contest", "isCovered", "(I)Z"⟩, 10), (⟨"AmendmentTree$Contest", "beatsAllOf", "(II)Z"⟩, 10), (⟨"java/lang/Throwable", "fillInStackTrace", "(I)Ljava/lang/Throwable;"⟩, 6), (⟨"AmendmentTree$Agenda", "placeOf", "(I)I"⟩, 3), (⟨"AmendmentTreeModel", "four", "(I)V"⟩, 43), (⟨"AmendmentTreeModel", "readText", "()Z"⟩, 43), (⟨"AmendmentTreeModel", "here", "()I"⟩, 43), (⟨"AmendmentTreeModel", "readStatement", "()Z"⟩, 43)]
theorem lw_r5 : ∀ q ∈ lw_privs_5, lw_okq q := List.forall_mem_cons.mpr ⟨lw_p64, List.forall_mem_cons.mpr ⟨lw_p65, List.forall_mem_cons.mpr ⟨lw_p66, List.forall_mem_cons.mpr ⟨lw_p67, List.forall_mem_cons.mpr ⟨lw_p68, List.forall_mem_cons.mpr ⟨lw_p69, List.forall_mem_cons.mpr ⟨lw_p70, List.forall_mem_cons.mpr ⟨lw_p71, List.forall_mem_cons.mpr ⟨lw_p72, List.forall_mem_cons.mpr ⟨lw_p73, List.forall_mem_cons.mpr ⟨lw_p74, List.forall_mem_cons.mpr ⟨lw_p75, List.forall_mem_cons.mpr ⟨lw_p76, List.forall_mem_cons.mpr ⟨lw_p77, List.forall_mem_cons.mpr ⟨lw_p78, List.forall_mem_cons.mpr ⟨lw_p79, fun _ h => absurd h List.not_mem_nil⟩⟩⟩⟩⟩⟩⟩⟩⟩⟩⟩⟩⟩⟩⟩⟩
theorem lw_p80 : lw_okq (⟨"AmendmentTreeModel", "isWord", "()Z"⟩, 43) := ⟨⟨by decide +kernel, by decide +kernel⟩, List.mem_of_getElem? (i := 910) (by decide +kernel), List.mem_of_getElem? (i := 1082) (by decide +kernel), List.mem_of_getElem? (i := 1083) (by decide +kernel)⟩
theorem lw_p81 : lw_okq (⟨"AmendmentTreeModel", "fails", "(II)Z"⟩, 43) := ⟨⟨by decide +kernel, by decide +kernel⟩, List.mem_of_getElem? (i := 910) (by decide +kernel), List.mem_of_getElem? (i := 1086) (by decide +kernel), List.mem_of_getElem? (i := 1087) (by decide +kernel)⟩
theorem lw_p82 : lw_okq (⟨"AmendmentTreeModel", "readWord", "()J"⟩, 43) := ⟨⟨by decide +kernel, by decide +kernel⟩, List.mem_of_getElem? (i := 910) (by decide +kernel), List.mem_of_getElem? (i := 1090) (by decide +kernel), List.mem_of_getElem? (i := 1091) (by decide +kernel)⟩
theorem lw_p83 : lw_okq (⟨"AmendmentTreeModel", "readBill", "(I)Z"⟩, 43) := ⟨⟨by decide +kernel, by decide +kernel⟩, List.mem_of_getElem? (i := 910) (by decide +kernel), List.mem_of_getElem? (i := 1100) (by decide +kernel), List.mem_of_getElem? (i := 1101) (by decide +kernel)⟩
theorem lw_p84 : lw_okq (⟨"AmendmentTreeModel", "readSet", "(I)Z"⟩, 43) := ⟨⟨by decide +kernel, by decide +kernel⟩, List.mem_of_getElem? (i := 910) (by decide +kernel), List.mem_of_getElem? (i := 1104) (by decide +kernel), List.mem_of_getElem? (i := 1105) (by decide +kernel)⟩
theorem lw_p85 : lw_okq (⟨"AmendmentTreeModel", "readAmend", "(I)Z"⟩, 43) := ⟨⟨by decide +kernel, by decide +kernel⟩, List.mem_of_getElem? (i := 910) (by decide +kernel), List.mem_of_getElem? (i := 1109) (by decide +kernel), List.mem_of_getElem? (i := 1110) (by decide +kernel)⟩
theorem lw_p86 : lw_okq (⟨"AmendmentTreeModel", "readOf", "()Z"⟩, 43) := ⟨⟨by decide +kernel, by decide +kernel⟩, List.mem_of_getElem? (i := 910) (by decide +kernel), List.mem_of_getElem? (i := 1113) (by decide +kernel), List.mem_of_getElem? (i := 1114) (by decide +kernel)⟩
theorem lw_p87 : lw_okq (⟨"AmendmentTreeModel", "readNumber", "(II)Z"⟩, 43) := ⟨⟨by decide +kernel, by decide +kernel⟩, List.mem_of_getElem? (i := 910) (by decide +kernel), List.mem_of_getElem? (i := 1118) (by decide +kernel), List.mem_of_getElem? (i := 1119) (by decide +kernel)⟩
theorem lw_p88 : lw_okq (⟨"AmendmentTreeModel", "comes", "(IIII)V"⟩, 43) := ⟨⟨by decide +kernel, by decide +kernel⟩, List.mem_of_getElem? (i := 910) (by decide +kernel), List.mem_of_getElem? (i := 1122) (by decide +kernel), List.mem_of_getElem? (i := 1123) (by decide +kernel)⟩
theorem lw_p89 : lw_okq (⟨"AmendmentTreeModel", "readSub", "(I)Z"⟩, 43) := ⟨⟨by decide +kernel, by decide +kernel⟩, List.mem_of_getElem? (i := 910) (by decide +kernel), List.mem_of_getElem? (i := 1126) (by decide +kernel), List.mem_of_getElem? (i := 1127) (by decide +kernel)⟩
theorem lw_p90 : lw_okq (⟨"AmendmentTreeModel", "readVoter", "(I)Z"⟩, 43) := ⟨⟨by decide +kernel, by decide +kernel⟩, List.mem_of_getElem? (i := 910) (by decide +kernel), List.mem_of_getElem? (i := 1131) (by decide +kernel), List.mem_of_getElem? (i := 1132) (by decide +kernel)⟩
theorem lw_p91 : lw_okq (⟨"AmendmentTreeModel", "readWeight", "()Z"⟩, 43) := ⟨⟨by decide +kernel, by decide +kernel⟩, List.mem_of_getElem? (i := 910) (by decide +kernel), List.mem_of_getElem? (i := 1135) (by decide +kernel), List.mem_of_getElem? (i := 1136) (by decide +kernel)⟩
theorem lw_p92 : lw_okq (⟨"AmendmentTreeModel", "readJoint", "(I)Z"⟩, 43) := ⟨⟨by decide +kernel, by decide +kernel⟩, List.mem_of_getElem? (i := 910) (by decide +kernel), List.mem_of_getElem? (i := 1140) (by decide +kernel), List.mem_of_getElem? (i := 1141) (by decide +kernel)⟩
theorem lw_p93 : lw_okq (⟨"AmendmentTreeModel", "readQuota", "(I)Z"⟩, 43) := ⟨⟨by decide +kernel, by decide +kernel⟩, List.mem_of_getElem? (i := 910) (by decide +kernel), List.mem_of_getElem? (i := 1145) (by decide +kernel), List.mem_of_getElem? (i := 1146) (by decide +kernel)⟩
theorem lw_p94 : lw_okq (⟨"AmendmentTreeModel", "laysLeast", "()V"⟩, 43) := ⟨⟨by decide +kernel, by decide +kernel⟩, List.mem_of_getElem? (i := 910) (by decide +kernel), List.mem_of_getElem? (i := 1149) (by decide +kernel), List.mem_of_getElem? (i := 1150) (by decide +kernel)⟩
theorem lw_p95 : lw_okq (⟨"AmendmentTreeModel", "mayStand", "(II)Z"⟩, 43) := ⟨⟨by decide +kernel, by decide +kernel⟩, List.mem_of_getElem? (i := 910) (by decide +kernel), List.mem_of_getElem? (i := 1153) (by decide +kernel), List.mem_of_getElem? (i := 1154) (by decide +kernel)⟩
def lw_privs_6 : List (MethodName × Nat) := [(⟨"AmendmentTreeModel", "isWord", "()Z"⟩, 43), (⟨"AmendmentTreeModel", "fails", "(II)Z"⟩, 43), (⟨"AmendmentTreeModel", "readWord", "()J"⟩, 43), (⟨"AmendmentTreeModel", "readBill", "(I)Z"⟩, 43), (⟨"AmendmentTreeModel", "readSet", "(I)Z"⟩, 43), (⟨"AmendmentTreeModel", "readAmend", "(I)Z"⟩, 43), (⟨"AmendmentTreeModel", "readOf", "()Z"⟩, 43), (⟨"AmendmentTreeModel", "readNumber", "(II)Z"⟩, 43), (⟨"AmendmentTreeModel", "comes", "(IIII)V"⟩, 43), (⟨"AmendmentTreeModel", "readSub", "(I)Z"⟩, 43), (⟨"AmendmentTreeModel", "readVoter", "(I)Z"⟩, 43), (⟨"AmendmentTreeModel", "readWeight", "()Z"⟩, 43), (⟨"AmendmentTreeModel", "readJoint", "(I)Z"⟩, 43), (⟨"AmendmentTreeModel", "readQuota", "(I)Z"⟩, 43), (⟨"AmendmentTreeModel", "laysLeast", "()V"⟩, 43), (⟨"AmendmentTreeModel", "mayStand", "(II)Z"⟩, 43)]
theorem lw_r6 : ∀ q ∈ lw_privs_6, lw_okq q := List.forall_mem_cons.mpr ⟨lw_p80, List.forall_mem_cons.mpr ⟨lw_p81, List.forall_mem_cons.mpr ⟨lw_p82, List.forall_mem_cons.mpr ⟨lw_p83, List.forall_mem_cons.mpr ⟨lw_p84, List.forall_mem_cons.mpr ⟨lw_p85, List.forall_mem_cons.mpr ⟨lw_p86, List.forall_mem_cons.mpr ⟨lw_p87, List.forall_mem_cons.mpr ⟨lw_p88, List.forall_mem_cons.mpr ⟨lw_p89, List.forall_mem_cons.mpr ⟨lw_p90, List.forall_mem_cons.mpr ⟨lw_p91, List.forall_mem_cons.mpr ⟨lw_p92, List.forall_mem_cons.mpr ⟨lw_p93, List.forall_mem_cons.mpr ⟨lw_p94, List.forall_mem_cons.mpr ⟨lw_p95, fun _ h => absurd h List.not_mem_nil⟩⟩⟩⟩⟩⟩⟩⟩⟩⟩⟩⟩⟩⟩⟩⟩
theorem lw_p96 : lw_okq (⟨"AmendmentTreeModel", "isGood", "()Z"⟩, 43) := ⟨⟨by decide +kernel, by decide +kernel⟩, List.mem_of_getElem? (i := 910) (by decide +kernel), List.mem_of_getElem? (i := 1165) (by decide +kernel), List.mem_of_getElem? (i := 1166) (by decide +kernel)⟩
theorem lw_p97 : lw_okq (⟨"AmendmentTreeModel", "formOf", "(I)I"⟩, 43) := ⟨⟨by decide +kernel, by decide +kernel⟩, List.mem_of_getElem? (i := 910) (by decide +kernel), List.mem_of_getElem? (i := 1173) (by decide +kernel), List.mem_of_getElem? (i := 1174) (by decide +kernel)⟩
theorem lw_p98 : lw_okq (⟨"AmendmentTreeModel", "plusOf", "(II)I"⟩, 43) := ⟨⟨by decide +kernel, by decide +kernel⟩, List.mem_of_getElem? (i := 910) (by decide +kernel), List.mem_of_getElem? (i := 1177) (by decide +kernel), List.mem_of_getElem? (i := 1178) (by decide +kernel)⟩
theorem lw_p99 : lw_okq (⟨"AmendmentTreeModel", "isSetOfVoters", "(I)Z"⟩, 43) := ⟨⟨by decide +kernel, by decide +kernel⟩, List.mem_of_getElem? (i := 910) (by decide +kernel), List.mem_of_getElem? (i := 1185) (by decide +kernel), List.mem_of_getElem? (i := 1186) (by decide +kernel)⟩
theorem lw_p100 : lw_okq (⟨"AmendmentTreeModel", "asks", "(I)V"⟩, 43) := ⟨⟨by decide +kernel, by decide +kernel⟩, List.mem_of_getElem? (i := 910) (by decide +kernel), List.mem_of_getElem? (i := 1189) (by decide +kernel), List.mem_of_getElem? (i := 1190) (by decide +kernel)⟩
theorem lw_p101 : lw_okq (⟨"AmendmentTreeModel", "laysLikes", "()V"⟩, 43) := ⟨⟨by decide +kernel, by decide +kernel⟩, List.mem_of_getElem? (i := 910) (by decide +kernel), List.mem_of_getElem? (i := 1193) (by decide +kernel), List.mem_of_getElem? (i := 1194) (by decide +kernel)⟩
theorem lw_p102 : lw_okq (⟨"AmendmentTreeModel", "likesOf", "(II)I"⟩, 43) := ⟨⟨by decide +kernel, by decide +kernel⟩, List.mem_of_getElem? (i := 910) (by decide +kernel), List.mem_of_getElem? (i := 1197) (by decide +kernel), List.mem_of_getElem? (i := 1198) (by decide +kernel)⟩
theorem lw_p103 : lw_okq (⟨"AmendmentTreeModel", "laysOrder", "()V"⟩, 43) := ⟨⟨by decide +kernel, by decide +kernel⟩, List.mem_of_getElem? (i := 910) (by decide +kernel), List.mem_of_getElem? (i := 1201) (by decide +kernel), List.mem_of_getElem? (i := 1202) (by decide +kernel)⟩
theorem lw_p104 : lw_okq (⟨"AmendmentTreeModel", "worksOut", "(II)V"⟩, 43) := ⟨⟨by decide +kernel, by decide +kernel⟩, List.mem_of_getElem? (i := 910) (by decide +kernel), List.mem_of_getElem? (i := 1205) (by decide +kernel), List.mem_of_getElem? (i := 1206) (by decide +kernel)⟩
theorem lw_p105 : lw_okq (⟨"AmendmentTreeModel", "passes", "(I)V"⟩, 43) := ⟨⟨by decide +kernel, by decide +kernel⟩, List.mem_of_getElem? (i := 910) (by decide +kernel), List.mem_of_getElem? (i := 1209) (by decide +kernel), List.mem_of_getElem? (i := 1210) (by decide +kernel)⟩
theorem lw_p106 : lw_okq (⟨"AmendmentTreeModel", "motionsOf", "(I)I"⟩, 43) := ⟨⟨by decide +kernel, by decide +kernel⟩, List.mem_of_getElem? (i := 910) (by decide +kernel), List.mem_of_getElem? (i := 1213) (by decide +kernel), List.mem_of_getElem? (i := 1214) (by decide +kernel)⟩
theorem lw_p107 : lw_okq (⟨"AmendmentTreeModel", "preferring", "(II)I"⟩, 43) := ⟨⟨by decide +kernel, by decide +kernel⟩, List.mem_of_getElem? (i := 910) (by decide +kernel), List.mem_of_getElem? (i := 1217) (by decide +kernel), List.mem_of_getElem? (i := 1218) (by decide +kernel)⟩
theorem lw_p108 : lw_okq (⟨"AmendmentTreeModel", "isPreferred", "(III)Z"⟩, 43) := ⟨⟨by decide +kernel, by decide +kernel⟩, List.mem_of_getElem? (i := 910) (by decide +kernel), List.mem_of_getElem? (i := 1221) (by decide +kernel), List.mem_of_getElem? (i := 1222) (by decide +kernel)⟩
theorem lw_p109 : lw_okq (⟨"AmendmentTreeModel", "quota", "()I"⟩, 43) := ⟨⟨by decide +kernel, by decide +kernel⟩, List.mem_of_getElem? (i := 910) (by decide +kernel), List.mem_of_getElem? (i := 1225) (by decide +kernel), List.mem_of_getElem? (i := 1226) (by decide +kernel)⟩
theorem lw_p110 : lw_okq (⟨"AmendmentTreeModel", "votesOn", "(III)V"⟩, 43) := ⟨⟨by decide +kernel, by decide +kernel⟩, List.mem_of_getElem? (i := 910) (by decide +kernel), List.mem_of_getElem? (i := 1229) (by decide +kernel), List.mem_of_getElem? (i := 1230) (by decide +kernel)⟩
theorem lw_p111 : lw_okq (⟨"AmendmentTreeModel", "way", "(I)I"⟩, 43) := ⟨⟨by decide +kernel, by decide +kernel⟩, List.mem_of_getElem? (i := 910) (by decide +kernel), List.mem_of_getElem? (i := 1237) (by decide +kernel), List.mem_of_getElem? (i := 1238) (by decide +kernel)⟩
def lw_privs_7 : List (MethodName × Nat) := [(⟨"AmendmentTreeModel", "isGood", "()Z"⟩, 43), (⟨"AmendmentTreeModel", "formOf", "(I)I"⟩, 43), (⟨"AmendmentTreeModel", "plusOf", "(II)I"⟩, 43), (⟨"AmendmentTreeModel", "isSetOfVoters", "(I)Z"⟩, 43), (⟨"AmendmentTreeModel", "asks", "(I)V"⟩, 43), (⟨"AmendmentTreeModel", "laysLikes", "()V"⟩, 43), (⟨"AmendmentTreeModel", "likesOf", "(II)I"⟩, 43), (⟨"AmendmentTreeModel", "laysOrder", "()V"⟩, 43), (⟨"AmendmentTreeModel", "worksOut", "(II)V"⟩, 43), (⟨"AmendmentTreeModel", "passes", "(I)V"⟩, 43), (⟨"AmendmentTreeModel", "motionsOf", "(I)I"⟩, 43), (⟨"AmendmentTreeModel", "preferring", "(II)I"⟩, 43), (⟨"AmendmentTreeModel", "isPreferred", "(III)Z"⟩, 43), (⟨"AmendmentTreeModel", "quota", "()I"⟩, 43), (⟨"AmendmentTreeModel", "votesOn", "(III)V"⟩, 43), (⟨"AmendmentTreeModel", "way", "(I)I"⟩, 43)]
theorem lw_r7 : ∀ q ∈ lw_privs_7, lw_okq q := List.forall_mem_cons.mpr ⟨lw_p96, List.forall_mem_cons.mpr ⟨lw_p97, List.forall_mem_cons.mpr ⟨lw_p98, List.forall_mem_cons.mpr ⟨lw_p99, List.forall_mem_cons.mpr ⟨lw_p100, List.forall_mem_cons.mpr ⟨lw_p101, List.forall_mem_cons.mpr ⟨lw_p102, List.forall_mem_cons.mpr ⟨lw_p103, List.forall_mem_cons.mpr ⟨lw_p104, List.forall_mem_cons.mpr ⟨lw_p105, List.forall_mem_cons.mpr ⟨lw_p106, List.forall_mem_cons.mpr ⟨lw_p107, List.forall_mem_cons.mpr ⟨lw_p108, List.forall_mem_cons.mpr ⟨lw_p109, List.forall_mem_cons.mpr ⟨lw_p110, List.forall_mem_cons.mpr ⟨lw_p111, fun _ h => absurd h List.not_mem_nil⟩⟩⟩⟩⟩⟩⟩⟩⟩⟩⟩⟩⟩⟩⟩⟩
theorem lw_p112 : lw_okq (⟨"AmendmentTreeModel", "says", "(I)V"⟩, 43) := ⟨⟨by decide +kernel, by decide +kernel⟩, List.mem_of_getElem? (i := 910) (by decide +kernel), List.mem_of_getElem? (i := 1249) (by decide +kernel), List.mem_of_getElem? (i := 1250) (by decide +kernel)⟩
theorem lw_p113 : lw_okq (⟨"AmendmentTreeModel", "isMotion", "(I)Z"⟩, 43) := ⟨⟨by decide +kernel, by decide +kernel⟩, List.mem_of_getElem? (i := 910) (by decide +kernel), List.mem_of_getElem? (i := 1257) (by decide +kernel), List.mem_of_getElem? (i := 1258) (by decide +kernel)⟩
theorem lw_p114 : lw_okq (⟨"AmendmentTreeModel", "resultWithout", "(II)I"⟩, 43) := ⟨⟨by decide +kernel, by decide +kernel⟩, List.mem_of_getElem? (i := 910) (by decide +kernel), List.mem_of_getElem? (i := 1261) (by decide +kernel), List.mem_of_getElem? (i := 1262) (by decide +kernel)⟩
theorem lw_p115 : lw_okq (⟨"AmendmentTreeModel", "goesWith", "(II)Z"⟩, 43) := ⟨⟨by decide +kernel, by decide +kernel⟩, List.mem_of_getElem? (i := 910) (by decide +kernel), List.mem_of_getElem? (i := 1265) (by decide +kernel), List.mem_of_getElem? (i := 1266) (by decide +kernel)⟩
theorem lw_p116 : lw_okq (⟨"AmendmentTreeModel", "isVoter", "(I)Z"⟩, 43) := ⟨⟨by decide +kernel, by decide +kernel⟩, List.mem_of_getElem? (i := 910) (by decide +kernel), List.mem_of_getElem? (i := 1277) (by decide +kernel), List.mem_of_getElem? (i := 1278) (by decide +kernel)⟩
theorem lw_p117 : lw_okq (⟨"AmendmentTreeModel", "laysFirst", "()V"⟩, 43) := ⟨⟨by decide +kernel, by decide +kernel⟩, List.mem_of_getElem? (i := 910) (by decide +kernel), List.mem_of_getElem? (i := 1281) (by decide +kernel), List.mem_of_getElem? (i := 1282) (by decide +kernel)⟩
theorem lw_p118 : lw_okq (⟨"AmendmentTreeModel", "packed", "()I"⟩, 43) := ⟨⟨by decide +kernel, by decide +kernel⟩, List.mem_of_getElem? (i := 910) (by decide +kernel), List.mem_of_getElem? (i := 1285) (by decide +kernel), List.mem_of_getElem? (i := 1286) (by decide +kernel)⟩
theorem lw_p119 : lw_okq (⟨"AmendmentTreeModel", "goesOn", "()Z"⟩, 43) := ⟨⟨by decide +kernel, by decide +kernel⟩, List.mem_of_getElem? (i := 910) (by decide +kernel), List.mem_of_getElem? (i := 1289) (by decide +kernel), List.mem_of_getElem? (i := 1290) (by decide +kernel)⟩
theorem lw_p120 : lw_okq (⟨"AmendmentTreeModel", "swaps", "(II)V"⟩, 43) := ⟨⟨by decide +kernel, by decide +kernel⟩, List.mem_of_getElem? (i := 910) (by decide +kernel), List.mem_of_getElem? (i := 1293) (by decide +kernel), List.mem_of_getElem? (i := 1294) (by decide +kernel)⟩
theorem lw_p121 : lw_okq (⟨"AmendmentTreeModel", "laysOpen", "()I"⟩, 43) := ⟨⟨by decide +kernel, by decide +kernel⟩, List.mem_of_getElem? (i := 910) (by decide +kernel), List.mem_of_getElem? (i := 1305) (by decide +kernel), List.mem_of_getElem? (i := 1306) (by decide +kernel)⟩
theorem lw_p122 : lw_okq (⟨"AmendmentTreeModel", "beaten", "(I)I"⟩, 43) := ⟨⟨by decide +kernel, by decide +kernel⟩, List.mem_of_getElem? (i := 910) (by decide +kernel), List.mem_of_getElem? (i := 1313) (by decide +kernel), List.mem_of_getElem? (i := 1314) (by decide +kernel)⟩
theorem lw_p123 : lw_okq (⟨"AmendmentTreeModel", "beats", "(II)Z"⟩, 43) := ⟨⟨by decide +kernel, by decide +kernel⟩, List.mem_of_getElem? (i := 910) (by decide +kernel), List.mem_of_getElem? (i := 1317) (by decide +kernel), List.mem_of_getElem? (i := 1318) (by decide +kernel)⟩
theorem lw_p124 : lw_okq (⟨"AmendmentTreeModel", "laysTop", "()V"⟩, 43) := ⟨⟨by decide +kernel, by decide +kernel⟩, List.mem_of_getElem? (i := 910) (by decide +kernel), List.mem_of_getElem? (i := 1325) (by decide +kernel), List.mem_of_getElem? (i := 1326) (by decide +kernel)⟩
theorem lw_p125 : lw_okq (⟨"AmendmentTreeModel", "growsFrom", "(I)I"⟩, 43) := ⟨⟨by decide +kernel, by decide +kernel⟩, List.mem_of_getElem? (i := 910) (by decide +kernel), List.mem_of_getElem? (i := 1329) (by decide +kernel), List.mem_of_getElem? (i := 1330) (by decide +kernel)⟩
theorem lw_p126 : lw_okq (⟨"AmendmentTreeModel", "isBelow", "(I)Z"⟩, 43) := ⟨⟨by decide +kernel, by decide +kernel⟩, List.mem_of_getElem? (i := 910) (by decide +kernel), List.mem_of_getElem? (i := 1333) (by decide +kernel), List.mem_of_getElem? (i := 1334) (by decide +kernel)⟩
theorem lw_p127 : lw_okq (⟨"AmendmentTreeModel", "isCovered", "(I)Z"⟩, 43) := ⟨⟨by decide +kernel, by decide +kernel⟩, List.mem_of_getElem? (i := 910) (by decide +kernel), List.mem_of_getElem? (i := 1337) (by decide +kernel), List.mem_of_getElem? (i := 1338) (by decide +kernel)⟩
def lw_privs_8 : List (MethodName × Nat) := [(⟨"AmendmentTreeModel", "says", "(I)V"⟩, 43), (⟨"AmendmentTreeModel", "isMotion", "(I)Z"⟩, 43), (⟨"AmendmentTreeModel", "resultWithout", "(II)I"⟩, 43), (⟨"AmendmentTreeModel", "goesWith", "(II)Z"⟩, 43), (⟨"AmendmentTreeModel", "isVoter", "(I)Z"⟩, 43), (⟨"AmendmentTreeModel", "laysFirst", "()V"⟩, 43), (⟨"AmendmentTreeModel", "packed", "()I"⟩, 43), (⟨"AmendmentTreeModel", "goesOn", "()Z"⟩, 43), (⟨"AmendmentTreeModel", "swaps", "(II)V"⟩, 43), (⟨"AmendmentTreeModel", "laysOpen", "()I"⟩, 43), (⟨"AmendmentTreeModel", "beaten", "(I)I"⟩, 43), (⟨"AmendmentTreeModel", "beats", "(II)Z"⟩, 43), (⟨"AmendmentTreeModel", "laysTop", "()V"⟩, 43), (⟨"AmendmentTreeModel", "growsFrom", "(I)I"⟩, 43), (⟨"AmendmentTreeModel", "isBelow", "(I)Z"⟩, 43), (⟨"AmendmentTreeModel", "isCovered", "(I)Z"⟩, 43)]
theorem lw_r8 : ∀ q ∈ lw_privs_8, lw_okq q := List.forall_mem_cons.mpr ⟨lw_p112, List.forall_mem_cons.mpr ⟨lw_p113, List.forall_mem_cons.mpr ⟨lw_p114, List.forall_mem_cons.mpr ⟨lw_p115, List.forall_mem_cons.mpr ⟨lw_p116, List.forall_mem_cons.mpr ⟨lw_p117, List.forall_mem_cons.mpr ⟨lw_p118, List.forall_mem_cons.mpr ⟨lw_p119, List.forall_mem_cons.mpr ⟨lw_p120, List.forall_mem_cons.mpr ⟨lw_p121, List.forall_mem_cons.mpr ⟨lw_p122, List.forall_mem_cons.mpr ⟨lw_p123, List.forall_mem_cons.mpr ⟨lw_p124, List.forall_mem_cons.mpr ⟨lw_p125, List.forall_mem_cons.mpr ⟨lw_p126, List.forall_mem_cons.mpr ⟨lw_p127, fun _ h => absurd h List.not_mem_nil⟩⟩⟩⟩⟩⟩⟩⟩⟩⟩⟩⟩⟩⟩⟩⟩
theorem lw_p128 : lw_okq (⟨"AmendmentTreeModel", "covers", "(II)Z"⟩, 43) := ⟨⟨by decide +kernel, by decide +kernel⟩, List.mem_of_getElem? (i := 910) (by decide +kernel), List.mem_of_getElem? (i := 1341) (by decide +kernel), List.mem_of_getElem? (i := 1342) (by decide +kernel)⟩
theorem lw_p129 : lw_okq (⟨"AmendmentTreeModel", "goodOrders", "()I"⟩, 43) := ⟨⟨by decide +kernel, by decide +kernel⟩, List.mem_of_getElem? (i := 910) (by decide +kernel), List.mem_of_getElem? (i := 1353) (by decide +kernel), List.mem_of_getElem? (i := 1354) (by decide +kernel)⟩
theorem lw_p130 : lw_okq (⟨"AmendmentTreeModel", "placeOf", "(I)I"⟩, 43) := ⟨⟨by decide +kernel, by decide +kernel⟩, List.mem_of_getElem? (i := 910) (by decide +kernel), List.mem_of_getElem? (i := 1361) (by decide +kernel), List.mem_of_getElem? (i := 1362) (by decide +kernel)⟩
def lw_privs_9 : List (MethodName × Nat) := [(⟨"AmendmentTreeModel", "covers", "(II)Z"⟩, 43), (⟨"AmendmentTreeModel", "goodOrders", "()I"⟩, 43), (⟨"AmendmentTreeModel", "placeOf", "(I)I"⟩, 43)]
theorem lw_r9 : ∀ q ∈ lw_privs_9, lw_okq q := List.forall_mem_cons.mpr ⟨lw_p128, List.forall_mem_cons.mpr ⟨lw_p129, List.forall_mem_cons.mpr ⟨lw_p130, fun _ h => absurd h List.not_mem_nil⟩⟩⟩
def lw_privs : List (MethodName × Nat) := lw_privs_1 ++ (lw_privs_2 ++ (lw_privs_3 ++ (lw_privs_4 ++ (lw_privs_5 ++ (lw_privs_6 ++ (lw_privs_7 ++ (lw_privs_8 ++ (lw_privs_9))))))))
def lw_tbl : List Cond := k2_sels lw_privs ++ tables_1
theorem lw_privs_ok : ∀ q ∈ lw_privs, lw_okq q := by
  show ∀ q ∈ lw_privs_1 ++ (lw_privs_2 ++ (lw_privs_3 ++ (lw_privs_4 ++ (lw_privs_5 ++ (lw_privs_6 ++ (lw_privs_7 ++ (lw_privs_8 ++ (lw_privs_9)))))))), lw_okq q
  exact List.forall_mem_append.mpr ⟨lw_r1, List.forall_mem_append.mpr ⟨lw_r2, List.forall_mem_append.mpr ⟨lw_r3, List.forall_mem_append.mpr ⟨lw_r4, List.forall_mem_append.mpr ⟨lw_r5, List.forall_mem_append.mpr ⟨lw_r6, List.forall_mem_append.mpr ⟨lw_r7, List.forall_mem_append.mpr ⟨lw_r8, lw_r9⟩⟩⟩⟩⟩⟩⟩⟩
end
section
def RX0 : String := "AmendmentTree$Agenda"
def TX0 : u_T := fun k => match k with
  | 0 => ("AmendmentTree$Agenda", "hall", "LAmendmentTree$Hall;", true)
  | 1 => ("AmendmentTree$Agenda", "sequence", "[I", true)
  | _ => ("AmendmentTree$Agenda", "goodOrders", "[I", true)
def tyX0 : Nat → FieldType := fun k => match k with
  | 0 => .object "AmendmentTree$Hall"
  | 1 => .array .int
  | _ => .array .int
abbrev wsX00 : List Cond := u_ws RX0 TX0 3
theorem nmX0 : ∀ a, a < 3 → ∀ b, b < 3 → a ≠ b → (TX0 a).2.1 ≠ (TX0 b).2.1 := by decide +kernel
theorem tyX0_ok : ∀ k, k < 3 → parseFieldDescriptor (TX0 k).2.2.1 = some (tyX0 k) := by decide +kernel
abbrev cX0_init : ByteArray := prog_2_method_1_code
def yX0_init : MethodName := ⟨RX0, "<init>", "(LAmendmentTree$Hall;)V"⟩
abbrev cX0_takeLeast : ByteArray := prog_2_method_2_code
def yX0_takeLeast : MethodName := ⟨RX0, "takeLeast", "()V"⟩
abbrev cX0_leastNext : ByteArray := prog_2_method_3_code
def yX0_leastNext : MethodName := ⟨RX0, "leastNext", "(I)I"⟩
abbrev cX0_areChildrenIn : ByteArray := prog_2_method_4_code
def yX0_areChildrenIn : MethodName := ⟨RX0, "areChildrenIn", "(II)Z"⟩
abbrev cX0_takeRow : ByteArray := prog_2_method_5_code
def yX0_takeRow : MethodName := ⟨RX0, "takeRow", "(I)Z"⟩
abbrev cX0_rowOfSequence : ByteArray := prog_2_method_6_code
def yX0_rowOfSequence : MethodName := ⟨RX0, "rowOfSequence", "()I"⟩
abbrev cX0_isGood : ByteArray := prog_2_method_7_code
def yX0_isGood : MethodName := ⟨RX0, "isGood", "(I)Z"⟩
abbrev cX0_placeOf : ByteArray := prog_2_method_8_code
def yX0_placeOf : MethodName := ⟨RX0, "placeOf", "(I)I"⟩
abbrev cX0_countGood : ByteArray := prog_2_method_9_code
def yX0_countGood : MethodName := ⟨RX0, "countGood", "()I"⟩
abbrev cX0_canBeLast : ByteArray := prog_2_method_10_code
def yX0_canBeLast : MethodName := ⟨RX0, "canBeLast", "(II)Z"⟩
def RX1 : String := "AmendmentTree$Contest"
def TX1 : u_T := fun k => match k with
  | 0 => ("AmendmentTree$Contest", "hall", "LAmendmentTree$Hall;", true)
  | 1 => ("AmendmentTree$Contest", "tastes", "LAmendmentTree$Tastes;", true)
  | 2 => ("AmendmentTree$Contest", "votes", "LAmendmentTree$Votes;", true)
  | 3 => ("AmendmentTree$Contest", "openForms", "[I", true)
  | 4 => ("AmendmentTree$Contest", "size", "I", false)
  | 5 => ("AmendmentTree$Contest", "marks", "[I", true)
  | 6 => ("AmendmentTree$Contest", "beaten", "[I", true)
  | 7 => ("AmendmentTree$Contest", "beatenKnown", "Z", false)
  | 8 => ("AmendmentTree$Contest", "top", "[I", true)
  | _ => ("AmendmentTree$Contest", "topSize", "I", false)
def tyX1 : Nat → FieldType := fun k => match k with
  | 0 => .object "AmendmentTree$Hall"
  | 1 => .object "AmendmentTree$Tastes"
  | 2 => .object "AmendmentTree$Votes"
  | 3 => .array .int
  | 4 => .int
  | 5 => .array .int
  | 6 => .array .int
  | 7 => .boolean
  | 8 => .array .int
  | _ => .int
abbrev wsX10 : List Cond := u_ws RX1 TX1 10
theorem nmX1 : ∀ a, a < 10 → ∀ b, b < 10 → a ≠ b → (TX1 a).2.1 ≠ (TX1 b).2.1 := by decide +kernel
theorem tyX1_ok : ∀ k, k < 10 → parseFieldDescriptor (TX1 k).2.2.1 = some (tyX1 k) := by decide +kernel
abbrev cX1_init : ByteArray := prog_3_method_1_code
def yX1_init : MethodName := ⟨RX1, "<init>", "(LAmendmentTree$Hall;LAmendmentTree$Tastes;LAmendmentTree$Votes;)V"⟩
abbrev cX1_takeOpen : ByteArray := prog_3_method_2_code
def yX1_takeOpen : MethodName := ⟨RX1, "takeOpen", "()V"⟩
abbrev cX1_forgetBeaten : ByteArray := prog_3_method_3_code
def yX1_forgetBeaten : MethodName := ⟨RX1, "forgetBeaten", "()V"⟩
abbrev cX1_indexOf : ByteArray := prog_3_method_4_code
def yX1_indexOf : MethodName := ⟨RX1, "indexOf", "(I)I"⟩
abbrev cX1_learnBeaten : ByteArray := prog_3_method_5_code
def yX1_learnBeaten : MethodName := ⟨RX1, "learnBeaten", "()V"⟩
abbrev cX1_learnPair : ByteArray := prog_3_method_6_code
def yX1_learnPair : MethodName := ⟨RX1, "learnPair", "(II)V"⟩
abbrev cX1_markBeaten : ByteArray := prog_3_method_7_code
def yX1_markBeaten : MethodName := ⟨RX1, "markBeaten", "(II)V"⟩
abbrev cX1_isBeaten : ByteArray := prog_3_method_8_code
def yX1_isBeaten : MethodName := ⟨RX1, "isBeaten", "(II)Z"⟩
abbrev cX1_countBeaten : ByteArray := prog_3_method_9_code
def yX1_countBeaten : MethodName := ⟨RX1, "countBeaten", "(I)I"⟩
abbrev cX1_findWinner : ByteArray := prog_3_method_10_code
def yX1_findWinner : MethodName := ⟨RX1, "findWinner", "()I"⟩
abbrev cX1_isCovered : ByteArray := prog_3_method_11_code
def yX1_isCovered : MethodName := ⟨RX1, "isCovered", "(I)Z"⟩
abbrev cX1_beatsAllOf : ByteArray := prog_3_method_12_code
def yX1_beatsAllOf : MethodName := ⟨RX1, "beatsAllOf", "(II)Z"⟩
abbrev cX1_learnTop : ByteArray := prog_3_method_13_code
def yX1_learnTop : MethodName := ⟨RX1, "learnTop", "()V"⟩
abbrev cX1_indexOfMostBeating : ByteArray := prog_3_method_14_code
def yX1_indexOfMostBeating : MethodName := ⟨RX1, "indexOfMostBeating", "()I"⟩
abbrev cX1_isOfTop : ByteArray := prog_3_method_15_code
def yX1_isOfTop : MethodName := ⟨RX1, "isOfTop", "(I)Z"⟩
def RX2 : String := "AmendmentTree$Hall"
def TX2 : u_T := fun k => match k with
  | 0 => ("AmendmentTree$Hall", "bill", "I", false)
  | 1 => ("AmendmentTree$Hall", "toldQuota", "I", false)
  | 2 => ("AmendmentTree$Hall", "substitute", "I", false)
  | 3 => ("AmendmentTree$Hall", "motions", "I", false)
  | 4 => ("AmendmentTree$Hall", "voters", "I", false)
  | 5 => ("AmendmentTree$Hall", "joints", "I", false)
  | 6 => ("AmendmentTree$Hall", "sorts", "[I", true)
  | 7 => ("AmendmentTree$Hall", "parents", "[I", true)
  | 8 => ("AmendmentTree$Hall", "pluses", "[I", true)
  | 9 => ("AmendmentTree$Hall", "minuses", "[I", true)
  | 10 => ("AmendmentTree$Hall", "weights", "[I", true)
  | 11 => ("AmendmentTree$Hall", "jointVoters", "[I", true)
  | 12 => ("AmendmentTree$Hall", "jointSets", "[I", true)
  | _ => ("AmendmentTree$Hall", "jointWeights", "[I", true)
def tyX2 : Nat → FieldType := fun k => match k with
  | 0 => .int
  | 1 => .int
  | 2 => .int
  | 3 => .int
  | 4 => .int
  | 5 => .int
  | 6 => .array .int
  | 7 => .array .int
  | 8 => .array .int
  | 9 => .array .int
  | 10 => .array .int
  | 11 => .array .int
  | 12 => .array .int
  | _ => .array .int
abbrev wsX20 : List Cond := u_ws RX2 TX2 14
theorem nmX2 : ∀ a, a < 14 → ∀ b, b < 14 → a ≠ b → (TX2 a).2.1 ≠ (TX2 b).2.1 := by decide +kernel
theorem tyX2_ok : ∀ k, k < 14 → parseFieldDescriptor (TX2 k).2.2.1 = some (tyX2 k) := by decide +kernel
abbrev cX2_init : ByteArray := prog_4_method_1_code
def yX2_init : MethodName := ⟨RX2, "<init>", "()V"⟩
abbrev cX2_clear : ByteArray := prog_4_method_2_code
def yX2_clear : MethodName := ⟨RX2, "clear", "()V"⟩
abbrev cX2_copyFrom : ByteArray := prog_4_method_3_code
def yX2_copyFrom : MethodName := ⟨RX2, "copyFrom", "(LAmendmentTree$Hall;)V"⟩
abbrev cX2_hasMotion : ByteArray := prog_4_method_4_code
def yX2_hasMotion : MethodName := ⟨RX2, "hasMotion", "(I)Z"⟩
abbrev cX2_hasVoter : ByteArray := prog_4_method_5_code
def yX2_hasVoter : MethodName := ⟨RX2, "hasVoter", "(I)Z"⟩
abbrev cX2_quotaInForce : ByteArray := prog_4_method_6_code
def yX2_quotaInForce : MethodName := ⟨RX2, "quotaInForce", "()I"⟩
abbrev cX2_addMotion : ByteArray := prog_4_method_7_code
def yX2_addMotion : MethodName := ⟨RX2, "addMotion", "(IIII)V"⟩
abbrev cX2_addJoint : ByteArray := prog_4_method_8_code
def yX2_addJoint : MethodName := ⟨RX2, "addJoint", "(III)V"⟩
abbrev cX2_formOf : ByteArray := prog_4_method_9_code
def yX2_formOf : MethodName := ⟨RX2, "formOf", "(I)I"⟩
abbrev cX2_plusOf : ByteArray := prog_4_method_10_code
def yX2_plusOf : MethodName := ⟨RX2, "plusOf", "(II)I"⟩
abbrev cX2_goneWith : ByteArray := prog_4_method_11_code
def yX2_goneWith : MethodName := ⟨RX2, "goneWith", "(I)I"⟩
def RX3 : String := "AmendmentTree$Reader"
def TX3 : u_T := fun k => match k with
  | 0 => ("AmendmentTree$Reader", "text", "[I", true)
  | 1 => ("AmendmentTree$Reader", "hall", "LAmendmentTree$Hall;", true)
  | 2 => ("AmendmentTree$Reader", "length", "I", false)
  | 3 => ("AmendmentTree$Reader", "billTold", "Z", false)
  | 4 => ("AmendmentTree$Reader", "foundFault", "I", false)
  | 5 => ("AmendmentTree$Reader", "kind", "I", false)
  | 6 => ("AmendmentTree$Reader", "start", "I", false)
  | 7 => ("AmendmentTree$Reader", "stop", "I", false)
  | 8 => ("AmendmentTree$Reader", "value", "I", false)
  | 9 => ("AmendmentTree$Reader", "readSet", "I", false)
  | 10 => ("AmendmentTree$Reader", "readWeight", "I", false)
  | 11 => ("AmendmentTree$Reader", "readSort", "I", false)
  | _ => ("AmendmentTree$Reader", "readParent", "I", false)
def tyX3 : Nat → FieldType := fun k => match k with
  | 0 => .array .int
  | 1 => .object "AmendmentTree$Hall"
  | 2 => .int
  | 3 => .boolean
  | 4 => .int
  | 5 => .int
  | 6 => .int
  | 7 => .int
  | 8 => .int
  | 9 => .int
  | 10 => .int
  | 11 => .int
  | _ => .int
abbrev wsX30 : List Cond := u_ws RX3 TX3 13
theorem nmX3 : ∀ a, a < 13 → ∀ b, b < 13 → a ≠ b → (TX3 a).2.1 ≠ (TX3 b).2.1 := by decide +kernel
theorem tyX3_ok : ∀ k, k < 13 → parseFieldDescriptor (TX3 k).2.2.1 = some (tyX3 k) := by decide +kernel
abbrev cX3_init : ByteArray := prog_5_method_1_code
def yX3_init : MethodName := ⟨RX3, "<init>", "([ILAmendmentTree$Hall;)V"⟩
abbrev cX3_readText : ByteArray := prog_5_method_2_code
def yX3_readText : MethodName := ⟨RX3, "readText", "(I)I"⟩
abbrev cX3_statement : ByteArray := prog_5_method_3_code
def yX3_statement : MethodName := ⟨RX3, "statement", "()Z"⟩
abbrev cX3_semicolon : ByteArray := prog_5_method_4_code
def yX3_semicolon : MethodName := ⟨RX3, "semicolon", "()Z"⟩
abbrev cX3_bill : ByteArray := prog_5_method_5_code
def yX3_bill : MethodName := ⟨RX3, "bill", "()Z"⟩
abbrev cX3_amendment : ByteArray := prog_5_method_6_code
def yX3_amendment : MethodName := ⟨RX3, "amendment", "()Z"⟩
abbrev cX3_target : ByteArray := prog_5_method_7_code
def yX3_target : MethodName := ⟨RX3, "target", "()Z"⟩
abbrev cX3_canBeAmended : ByteArray := prog_5_method_8_code
def yX3_canBeAmended : MethodName := ⟨RX3, "canBeAmended", "(I)Z"⟩
abbrev cX3_substitute : ByteArray := prog_5_method_9_code
def yX3_substitute : MethodName := ⟨RX3, "substitute", "()Z"⟩
abbrev cX3_voter : ByteArray := prog_5_method_10_code
def yX3_voter : MethodName := ⟨RX3, "voter", "()Z"⟩
abbrev cX3_joint : ByteArray := prog_5_method_11_code
def yX3_joint : MethodName := ⟨RX3, "joint", "()Z"⟩
abbrev cX3_quota : ByteArray := prog_5_method_12_code
def yX3_quota : MethodName := ⟨RX3, "quota", "()Z"⟩
abbrev cX3_clauseSet : ByteArray := prog_5_method_13_code
def yX3_clauseSet : MethodName := ⟨RX3, "clauseSet", "(I)Z"⟩
abbrev cX3_signedWeight : ByteArray := prog_5_method_14_code
def yX3_signedWeight : MethodName := ⟨RX3, "signedWeight", "()Z"⟩
abbrev cX3_refuse : ByteArray := prog_5_method_15_code
def yX3_refuse : MethodName := ⟨RX3, "refuse", "(I)Z"⟩
abbrev cX3_isSign : ByteArray := prog_5_method_16_code
def yX3_isSign : MethodName := ⟨RX3, "isSign", "(C)Z"⟩
abbrev cX3_isWord : ByteArray := prog_5_method_17_code
def yX3_isWord : MethodName := ⟨RX3, "isWord", "(Ljava/lang/String;)Z"⟩
abbrev cX3_step : ByteArray := prog_5_method_18_code
def yX3_step : MethodName := ⟨RX3, "step", "()V"⟩
abbrev cX3_endOfRun : ByteArray := prog_5_method_19_code
def yX3_endOfRun : MethodName := ⟨RX3, "endOfRun", "(CC)I"⟩
abbrev cX3_takeNumber : ByteArray := prog_5_method_20_code
def yX3_takeNumber : MethodName := ⟨RX3, "takeNumber", "()V"⟩
def RX4 : String := "AmendmentTree$Search"
def TX4 : u_T := fun k => match k with
  | 0 => ("AmendmentTree$Search", "hall", "LAmendmentTree$Hall;", true)
  | 1 => ("AmendmentTree$Search", "tastes", "LAmendmentTree$Tastes;", true)
  | 2 => ("AmendmentTree$Search", "votes", "LAmendmentTree$Votes;", true)
  | 3 => ("AmendmentTree$Search", "agenda", "LAmendmentTree$Agenda;", true)
  | 4 => ("AmendmentTree$Search", "mover", "I", false)
  | 5 => ("AmendmentTree$Search", "bestForm", "I", false)
  | 6 => ("AmendmentTree$Search", "bestCount", "I", false)
  | _ => ("AmendmentTree$Search", "bestKey", "I", false)
def tyX4 : Nat → FieldType := fun k => match k with
  | 0 => .object "AmendmentTree$Hall"
  | 1 => .object "AmendmentTree$Tastes"
  | 2 => .object "AmendmentTree$Votes"
  | 3 => .object "AmendmentTree$Agenda"
  | 4 => .int
  | 5 => .int
  | 6 => .int
  | _ => .int
abbrev wsX40 : List Cond := u_ws RX4 TX4 8
theorem nmX4 : ∀ a, a < 8 → ∀ b, b < 8 → a ≠ b → (TX4 a).2.1 ≠ (TX4 b).2.1 := by decide +kernel
theorem tyX4_ok : ∀ k, k < 8 → parseFieldDescriptor (TX4 k).2.2.1 = some (tyX4 k) := by decide +kernel
abbrev cX4_init : ByteArray := prog_6_method_1_code
def yX4_init : MethodName := ⟨RX4, "<init>", "(LAmendmentTree$Hall;LAmendmentTree$Tastes;LAmendmentTree$Votes;)V"⟩
abbrev cX4_tryAll : ByteArray := prog_6_method_2_code
def yX4_tryAll : MethodName := ⟨RX4, "tryAll", "(II)V"⟩
abbrev cX4_tryLast : ByteArray := prog_6_method_3_code
def yX4_tryLast : MethodName := ⟨RX4, "tryLast", "(III)V"⟩
abbrev cX4_judge : ByteArray := prog_6_method_4_code
def yX4_judge : MethodName := ⟨RX4, "judge", "(II)V"⟩
abbrev cX4_bestRow : ByteArray := prog_6_method_5_code
def yX4_bestRow : MethodName := ⟨RX4, "bestRow", "()I"⟩
abbrev cX4_shiftOf : ByteArray := prog_6_method_6_code
def yX4_shiftOf : MethodName := ⟨RX4, "shiftOf", "(I)I"⟩
def RX5 : String := "AmendmentTree$Tastes"
def TX5 : u_T := fun k => match k with
  | 0 => ("AmendmentTree$Tastes", "hall", "LAmendmentTree$Hall;", true)
  | _ => ("AmendmentTree$Tastes", "liking", "[I", true)
def tyX5 : Nat → FieldType := fun k => match k with
  | 0 => .object "AmendmentTree$Hall"
  | _ => .array .int
abbrev wsX50 : List Cond := u_ws RX5 TX5 2
theorem nmX5 : ∀ a, a < 2 → ∀ b, b < 2 → a ≠ b → (TX5 a).2.1 ≠ (TX5 b).2.1 := by decide +kernel
theorem tyX5_ok : ∀ k, k < 2 → parseFieldDescriptor (TX5 k).2.2.1 = some (tyX5 k) := by decide +kernel
abbrev cX5_init : ByteArray := prog_7_method_1_code
def yX5_init : MethodName := ⟨RX5, "<init>", "(LAmendmentTree$Hall;)V"⟩
abbrev cX5_takeAll : ByteArray := prog_7_method_2_code
def yX5_takeAll : MethodName := ⟨RX5, "takeAll", "()V"⟩
abbrev cX5_takeVoter : ByteArray := prog_7_method_3_code
def yX5_takeVoter : MethodName := ⟨RX5, "takeVoter", "(I)V"⟩
abbrev cX5_takeJoint : ByteArray := prog_7_method_4_code
def yX5_takeJoint : MethodName := ⟨RX5, "takeJoint", "(III)V"⟩
abbrev cX5_likingOf : ByteArray := prog_7_method_5_code
def yX5_likingOf : MethodName := ⟨RX5, "likingOf", "(II)I"⟩
abbrev cX5_isPreferred : ByteArray := prog_7_method_6_code
def yX5_isPreferred : MethodName := ⟨RX5, "isPreferred", "(III)Z"⟩
abbrev cX5_countPreferring : ByteArray := prog_7_method_7_code
def yX5_countPreferring : MethodName := ⟨RX5, "countPreferring", "(II)I"⟩
def RX6 : String := "AmendmentTree$Votes"
def TX6 : u_T := fun k => match k with
  | 0 => ("AmendmentTree$Votes", "hall", "LAmendmentTree$Hall;", true)
  | 1 => ("AmendmentTree$Votes", "agenda", "LAmendmentTree$Agenda;", true)
  | 2 => ("AmendmentTree$Votes", "tastes", "LAmendmentTree$Tastes;", true)
  | 3 => ("AmendmentTree$Votes", "made", "[I", true)
  | 4 => ("AmendmentTree$Votes", "ends", "[I", true)
  | 5 => ("AmendmentTree$Votes", "steps", "[I", true)
  | 6 => ("AmendmentTree$Votes", "yesOnWay", "[I", true)
  | 7 => ("AmendmentTree$Votes", "adoptedOnWay", "I", false)
  | _ => ("AmendmentTree$Votes", "trueVoters", "I", false)
def tyX6 : Nat → FieldType := fun k => match k with
  | 0 => .object "AmendmentTree$Hall"
  | 1 => .object "AmendmentTree$Agenda"
  | 2 => .object "AmendmentTree$Tastes"
  | 3 => .array .int
  | 4 => .array .int
  | 5 => .array .int
  | 6 => .array .int
  | 7 => .int
  | _ => .int
abbrev wsX60 : List Cond := u_ws RX6 TX6 9
theorem nmX6 : ∀ a, a < 9 → ∀ b, b < 9 → a ≠ b → (TX6 a).2.1 ≠ (TX6 b).2.1 := by decide +kernel
theorem tyX6_ok : ∀ k, k < 9 → parseFieldDescriptor (TX6 k).2.2.1 = some (tyX6 k) := by decide +kernel
abbrev cX6_init : ByteArray := prog_8_method_1_code
def yX6_init : MethodName := ⟨RX6, "<init>", "(LAmendmentTree$Hall;LAmendmentTree$Agenda;LAmendmentTree$Tastes;)V"⟩
abbrev cX6_takeForms : ByteArray := prog_8_method_2_code
def yX6_takeForms : MethodName := ⟨RX6, "takeForms", "()V"⟩
abbrev cX6_outcome : ByteArray := prog_8_method_3_code
def yX6_outcome : MethodName := ⟨RX6, "outcome", "(II)I"⟩
abbrev cX6_startBack : ByteArray := prog_8_method_4_code
def yX6_startBack : MethodName := ⟨RX6, "startBack", "(III)V"⟩
abbrev cX6_stepBack : ByteArray := prog_8_method_5_code
def yX6_stepBack : MethodName := ⟨RX6, "stepBack", "(III)V"⟩
abbrev cX6_yesOnMotion : ByteArray := prog_8_method_6_code
def yX6_yesOnMotion : MethodName := ⟨RX6, "yesOnMotion", "(III)I"⟩
abbrev cX6_yesOnPassage : ByteArray := prog_8_method_7_code
def yX6_yesOnPassage : MethodName := ⟨RX6, "yesOnPassage", "(I)I"⟩
abbrev cX6_carries : ByteArray := prog_8_method_8_code
def yX6_carries : MethodName := ⟨RX6, "carries", "(I)Z"⟩
abbrev cX6_passes : ByteArray := prog_8_method_9_code
def yX6_passes : MethodName := ⟨RX6, "passes", "(I)Z"⟩
abbrev cX6_walk : ByteArray := prog_8_method_10_code
def yX6_walk : MethodName := ⟨RX6, "walk", "(I)V"⟩
abbrev cX6_minuteByte : ByteArray := prog_8_method_11_code
def yX6_minuteByte : MethodName := ⟨RX6, "minuteByte", "(II)I"⟩
def RX7 : String := "AmendmentTree"
def TX7 : u_T := fun k => match k with
  | 0 => ("AmendmentTree", "tape", "[I", true)
  | 1 => ("AmendmentTree", "tapeLength", "I", false)
  | 2 => ("AmendmentTree", "latestFault", "I", false)
  | 3 => ("AmendmentTree", "told", "LAmendmentTree$Hall;", true)
  | 4 => ("AmendmentTree", "draft", "LAmendmentTree$Hall;", true)
  | 5 => ("AmendmentTree", "reader", "LAmendmentTree$Reader;", true)
  | 6 => ("AmendmentTree", "agenda", "LAmendmentTree$Agenda;", true)
  | 7 => ("AmendmentTree", "tastes", "LAmendmentTree$Tastes;", true)
  | 8 => ("AmendmentTree", "votes", "LAmendmentTree$Votes;", true)
  | 9 => ("AmendmentTree", "search", "LAmendmentTree$Search;", true)
  | _ => ("AmendmentTree", "contest", "LAmendmentTree$Contest;", true)
def tyX7 : Nat → FieldType := fun k => match k with
  | 0 => .array .int
  | 1 => .int
  | 2 => .int
  | 3 => .object "AmendmentTree$Hall"
  | 4 => .object "AmendmentTree$Hall"
  | 5 => .object "AmendmentTree$Reader"
  | 6 => .object "AmendmentTree$Agenda"
  | 7 => .object "AmendmentTree$Tastes"
  | 8 => .object "AmendmentTree$Votes"
  | 9 => .object "AmendmentTree$Search"
  | _ => .object "AmendmentTree$Contest"
abbrev wsX70 : List Cond := u_ws RX7 TX7 11
theorem nmX7 : ∀ a, a < 11 → ∀ b, b < 11 → a ≠ b → (TX7 a).2.1 ≠ (TX7 b).2.1 := by decide +kernel
theorem tyX7_ok : ∀ k, k < 11 → parseFieldDescriptor (TX7 k).2.2.1 = some (tyX7 k) := by decide +kernel
abbrev cX7_init : ByteArray := prog_1_method_1_code
def yX7_init : MethodName := ⟨RX7, "<init>", "()V"⟩
abbrev cX7_feed : ByteArray := prog_1_method_2_code
def yX7_feed : MethodName := ⟨RX7, "feed", "(IIIII)I"⟩
abbrev cX7_end : ByteArray := prog_1_method_3_code
def yX7_end : MethodName := ⟨RX7, "end", "(I)Z"⟩
abbrev cX7_tell : ByteArray := prog_1_method_4_code
def yX7_tell : MethodName := ⟨RX7, "tell", "()I"⟩
abbrev cX7_fault : ByteArray := prog_1_method_5_code
def yX7_fault : MethodName := ⟨RX7, "fault", "()I"⟩
abbrev cX7_weigh : ByteArray := prog_1_method_6_code
def yX7_weigh : MethodName := ⟨RX7, "weigh", "(III)Z"⟩
abbrev cX7_order : ByteArray := prog_1_method_7_code
def yX7_order : MethodName := ⟨RX7, "order", "(I)Z"⟩
abbrev cX7_count : ByteArray := prog_1_method_8_code
def yX7_count : MethodName := ⟨RX7, "count", "(I)I"⟩
abbrev cX7_motion : ByteArray := prog_1_method_9_code
def yX7_motion : MethodName := ⟨RX7, "motion", "(II)I"⟩
abbrev cX7_weight : ByteArray := prog_1_method_10_code
def yX7_weight : MethodName := ⟨RX7, "weight", "(II)I"⟩
abbrev cX7_likes : ByteArray := prog_1_method_11_code
def yX7_likes : MethodName := ⟨RX7, "likes", "(II)I"⟩
abbrev cX7_form : ByteArray := prog_1_method_12_code
def yX7_form : MethodName := ⟨RX7, "form", "(I)I"⟩
abbrev cX7_result : ByteArray := prog_1_method_13_code
def yX7_result : MethodName := ⟨RX7, "result", "(I)I"⟩
abbrev cX7_adopted : ByteArray := prog_1_method_14_code
def yX7_adopted : MethodName := ⟨RX7, "adopted", "(I)I"⟩
abbrev cX7_yes : ByteArray := prog_1_method_15_code
def yX7_yes : MethodName := ⟨RX7, "yes", "(II)I"⟩
abbrev cX7_minutes : ByteArray := prog_1_method_16_code
def yX7_minutes : MethodName := ⟨RX7, "minutes", "(II)I"⟩
abbrev cX7_without : ByteArray := prog_1_method_17_code
def yX7_without : MethodName := ⟨RX7, "without", "(II)I"⟩
abbrev cX7_killers : ByteArray := prog_1_method_18_code
def yX7_killers : MethodName := ⟨RX7, "killers", "(I)I"⟩
abbrev cX7_best : ByteArray := prog_1_method_19_code
def yX7_best : MethodName := ⟨RX7, "best", "(III)I"⟩
abbrev cX7_prefers : ByteArray := prog_1_method_20_code
def yX7_prefers : MethodName := ⟨RX7, "prefers", "(II)I"⟩
abbrev cX7_open : ByteArray := prog_1_method_21_code
def yX7_open : MethodName := ⟨RX7, "open", "(I)I"⟩
abbrev cX7_winner : ByteArray := prog_1_method_22_code
def yX7_winner : MethodName := ⟨RX7, "winner", "()I"⟩
abbrev cX7_standing : ByteArray := prog_1_method_23_code
def yX7_standing : MethodName := ⟨RX7, "standing", "(II)I"⟩
abbrev cX7_takeTold : ByteArray := prog_1_method_24_code
def yX7_takeTold : MethodName := ⟨RX7, "takeTold", "()V"⟩
abbrev cX7_putBytes : ByteArray := prog_1_method_25_code
def yX7_putBytes : MethodName := ⟨RX7, "putBytes", "(I)V"⟩
abbrev cX7_areVoters : ByteArray := prog_1_method_26_code
def yX7_areVoters : MethodName := ⟨RX7, "areVoters", "(I)Z"⟩
abbrev cX7_isClause : ByteArray := prog_1_method_27_code
def yX7_isClause : MethodName := ⟨RX7, "isClause", "(I)Z"⟩
abbrev cX7_isForm : ByteArray := prog_1_method_28_code
def yX7_isForm : MethodName := ⟨RX7, "isForm", "(I)Z"⟩
abbrev cX7_isSubset : ByteArray := prog_1_method_29_code
def yX7_isSubset : MethodName := ⟨RX7, "isSubset", "(II)Z"⟩
abbrev cX7_isIn : ByteArray := prog_1_method_30_code
def yX7_isIn : MethodName := ⟨RX7, "isIn", "(II)Z"⟩
def RX8 : String := "AmendmentTreeModel"
def TX8 : u_T := fun k => match k with
  | 0 => ("AmendmentTreeModel", "raised", "I", false)
  | 1 => ("AmendmentTreeModel", "hall", "[I", true)
  | 2 => ("AmendmentTreeModel", "newHall", "[I", true)
  | 3 => ("AmendmentTreeModel", "sort", "[I", true)
  | 4 => ("AmendmentTreeModel", "of", "[I", true)
  | 5 => ("AmendmentTreeModel", "plus", "[I", true)
  | 6 => ("AmendmentTreeModel", "minus", "[I", true)
  | 7 => ("AmendmentTreeModel", "newSort", "[I", true)
  | 8 => ("AmendmentTreeModel", "newOf", "[I", true)
  | 9 => ("AmendmentTreeModel", "newPlus", "[I", true)
  | 10 => ("AmendmentTreeModel", "newMinus", "[I", true)
  | 11 => ("AmendmentTreeModel", "weight", "[I", true)
  | 12 => ("AmendmentTreeModel", "newWeight", "[I", true)
  | 13 => ("AmendmentTreeModel", "jointOf", "[I", true)
  | 14 => ("AmendmentTreeModel", "jointSet", "[I", true)
  | 15 => ("AmendmentTreeModel", "jointWeight", "[I", true)
  | 16 => ("AmendmentTreeModel", "newJointOf", "[I", true)
  | 17 => ("AmendmentTreeModel", "newJointSet", "[I", true)
  | 18 => ("AmendmentTreeModel", "newJointWeight", "[I", true)
  | 19 => ("AmendmentTreeModel", "order", "[I", true)
  | 20 => ("AmendmentTreeModel", "tape", "[I", true)
  | 21 => ("AmendmentTreeModel", "taped", "I", false)
  | 22 => ("AmendmentTreeModel", "fault", "I", false)
  | 23 => ("AmendmentTreeModel", "at", "I", false)
  | 24 => ("AmendmentTreeModel", "wrong", "I", false)
  | 25 => ("AmendmentTreeModel", "value", "I", false)
  | 26 => ("AmendmentTreeModel", "place", "I", false)
  | 27 => ("AmendmentTreeModel", "statements", "I", false)
  | 28 => ("AmendmentTreeModel", "set", "I", false)
  | 29 => ("AmendmentTreeModel", "letters", "I", false)
  | 30 => ("AmendmentTreeModel", "isBilled", "Z", false)
  | 31 => ("AmendmentTreeModel", "itsSort", "I", false)
  | 32 => ("AmendmentTreeModel", "itsOf", "I", false)
  | 33 => ("AmendmentTreeModel", "row", "[I", true)
  | 34 => ("AmendmentTreeModel", "liked", "[I", true)
  | 35 => ("AmendmentTreeModel", "comesOut", "[I", true)
  | 36 => ("AmendmentTreeModel", "yeses", "[I", true)
  | 37 => ("AmendmentTreeModel", "votes", "I", false)
  | 38 => ("AmendmentTreeModel", "said", "[I", true)
  | 39 => ("AmendmentTreeModel", "saidMany", "I", false)
  | 40 => ("AmendmentTreeModel", "isOpen", "[Z", true)
  | 41 => ("AmendmentTreeModel", "isTop", "[Z", true)
  | _ => ("AmendmentTreeModel", "trial", "[Z", true)
def tyX8 : Nat → FieldType := fun k => match k with
  | 0 => .int
  | 1 => .array .int
  | 2 => .array .int
  | 3 => .array .int
  | 4 => .array .int
  | 5 => .array .int
  | 6 => .array .int
  | 7 => .array .int
  | 8 => .array .int
  | 9 => .array .int
  | 10 => .array .int
  | 11 => .array .int
  | 12 => .array .int
  | 13 => .array .int
  | 14 => .array .int
  | 15 => .array .int
  | 16 => .array .int
  | 17 => .array .int
  | 18 => .array .int
  | 19 => .array .int
  | 20 => .array .int
  | 21 => .int
  | 22 => .int
  | 23 => .int
  | 24 => .int
  | 25 => .int
  | 26 => .int
  | 27 => .int
  | 28 => .int
  | 29 => .int
  | 30 => .boolean
  | 31 => .int
  | 32 => .int
  | 33 => .array .int
  | 34 => .array .int
  | 35 => .array .int
  | 36 => .array .int
  | 37 => .int
  | 38 => .array .int
  | 39 => .int
  | 40 => .array .boolean
  | 41 => .array .boolean
  | _ => .array .boolean
abbrev wsX80 : List Cond := u_ws RX8 TX8 43
theorem nmX8 : ∀ a, a < 43 → ∀ b, b < 43 → a ≠ b → (TX8 a).2.1 ≠ (TX8 b).2.1 := by decide +kernel
theorem tyX8_ok : ∀ k, k < 43 → parseFieldDescriptor (TX8 k).2.2.1 = some (tyX8 k) := by decide +kernel
abbrev cX8_init : ByteArray := prog_10_method_1_code
def yX8_init : MethodName := ⟨RX8, "<init>", "()V"⟩
abbrev cX8_thrown : ByteArray := prog_10_method_2_code
def yX8_thrown : MethodName := ⟨RX8, "thrown", "()I"⟩
abbrev cX8_in : ByteArray := prog_10_method_3_code
def yX8_in : MethodName := ⟨RX8, "in", "(III)Z"⟩
abbrev cX8_has : ByteArray := prog_10_method_4_code
def yX8_has : MethodName := ⟨RX8, "has", "(II)Z"⟩
abbrev cX8_four : ByteArray := prog_10_method_5_code
def yX8_four : MethodName := ⟨RX8, "four", "(I)V"⟩
abbrev cX8_feed : ByteArray := prog_10_method_6_code
def yX8_feed : MethodName := ⟨RX8, "feed", "(IIIII)I"⟩
abbrev cX8_end : ByteArray := prog_10_method_7_code
def yX8_end : MethodName := ⟨RX8, "end", "(I)Z"⟩
abbrev cX8_here : ByteArray := prog_10_method_8_code
def yX8_here : MethodName := ⟨RX8, "here", "()I"⟩
abbrev cX8_fails : ByteArray := prog_10_method_9_code
def yX8_fails : MethodName := ⟨RX8, "fails", "(II)Z"⟩
abbrev cX8_isWord : ByteArray := prog_10_method_10_code
def yX8_isWord : MethodName := ⟨RX8, "isWord", "()Z"⟩
abbrev cX8_readWord : ByteArray := prog_10_method_11_code
def yX8_readWord : MethodName := ⟨RX8, "readWord", "()J"⟩
abbrev cX8_readNumber : ByteArray := prog_10_method_12_code
def yX8_readNumber : MethodName := ⟨RX8, "readNumber", "(II)Z"⟩
abbrev cX8_readSet : ByteArray := prog_10_method_13_code
def yX8_readSet : MethodName := ⟨RX8, "readSet", "(I)Z"⟩
abbrev cX8_readWeight : ByteArray := prog_10_method_14_code
def yX8_readWeight : MethodName := ⟨RX8, "readWeight", "()Z"⟩
abbrev cX8_readBill : ByteArray := prog_10_method_15_code
def yX8_readBill : MethodName := ⟨RX8, "readBill", "(I)Z"⟩
abbrev cX8_comes : ByteArray := prog_10_method_16_code
def yX8_comes : MethodName := ⟨RX8, "comes", "(IIII)V"⟩
abbrev cX8_readSub : ByteArray := prog_10_method_17_code
def yX8_readSub : MethodName := ⟨RX8, "readSub", "(I)Z"⟩
abbrev cX8_readOf : ByteArray := prog_10_method_18_code
def yX8_readOf : MethodName := ⟨RX8, "readOf", "()Z"⟩
abbrev cX8_readAmend : ByteArray := prog_10_method_19_code
def yX8_readAmend : MethodName := ⟨RX8, "readAmend", "(I)Z"⟩
abbrev cX8_readVoter : ByteArray := prog_10_method_20_code
def yX8_readVoter : MethodName := ⟨RX8, "readVoter", "(I)Z"⟩
abbrev cX8_readJoint : ByteArray := prog_10_method_21_code
def yX8_readJoint : MethodName := ⟨RX8, "readJoint", "(I)Z"⟩
abbrev cX8_readQuota : ByteArray := prog_10_method_22_code
def yX8_readQuota : MethodName := ⟨RX8, "readQuota", "(I)Z"⟩
abbrev cX8_readStatement : ByteArray := prog_10_method_23_code
def yX8_readStatement : MethodName := ⟨RX8, "readStatement", "()Z"⟩
abbrev cX8_readText : ByteArray := prog_10_method_24_code
def yX8_readText : MethodName := ⟨RX8, "readText", "()Z"⟩
abbrev cX8_tell : ByteArray := prog_10_method_25_code
def yX8_tell : MethodName := ⟨RX8, "tell", "()I"⟩
abbrev cX8_fault : ByteArray := prog_10_method_26_code
def yX8_fault : MethodName := ⟨RX8, "fault", "()I"⟩
abbrev cX8_mayStand : ByteArray := prog_10_method_27_code
def yX8_mayStand : MethodName := ⟨RX8, "mayStand", "(II)Z"⟩
abbrev cX8_laysLeast : ByteArray := prog_10_method_28_code
def yX8_laysLeast : MethodName := ⟨RX8, "laysLeast", "()V"⟩
abbrev cX8_isGood : ByteArray := prog_10_method_29_code
def yX8_isGood : MethodName := ⟨RX8, "isGood", "()Z"⟩
abbrev cX8_goesOn : ByteArray := prog_10_method_30_code
def yX8_goesOn : MethodName := ⟨RX8, "goesOn", "()Z"⟩
abbrev cX8_swaps : ByteArray := prog_10_method_31_code
def yX8_swaps : MethodName := ⟨RX8, "swaps", "(II)V"⟩
abbrev cX8_laysFirst : ByteArray := prog_10_method_32_code
def yX8_laysFirst : MethodName := ⟨RX8, "laysFirst", "()V"⟩
abbrev cX8_goodOrders : ByteArray := prog_10_method_33_code
def yX8_goodOrders : MethodName := ⟨RX8, "goodOrders", "()I"⟩
abbrev cX8_packed : ByteArray := prog_10_method_34_code
def yX8_packed : MethodName := ⟨RX8, "packed", "()I"⟩
abbrev cX8_order : ByteArray := prog_10_method_35_code
def yX8_order : MethodName := ⟨RX8, "order", "(I)Z"⟩
abbrev cX8_plusOf : ByteArray := prog_10_method_36_code
def yX8_plusOf : MethodName := ⟨RX8, "plusOf", "(II)I"⟩
abbrev cX8_formOf : ByteArray := prog_10_method_37_code
def yX8_formOf : MethodName := ⟨RX8, "formOf", "(I)I"⟩
abbrev cX8_form : ByteArray := prog_10_method_38_code
def yX8_form : MethodName := ⟨RX8, "form", "(I)I"⟩
abbrev cX8_likesOf : ByteArray := prog_10_method_39_code
def yX8_likesOf : MethodName := ⟨RX8, "likesOf", "(II)I"⟩
abbrev cX8_laysLikes : ByteArray := prog_10_method_40_code
def yX8_laysLikes : MethodName := ⟨RX8, "laysLikes", "()V"⟩
abbrev cX8_isPreferred : ByteArray := prog_10_method_41_code
def yX8_isPreferred : MethodName := ⟨RX8, "isPreferred", "(III)Z"⟩
abbrev cX8_preferring : ByteArray := prog_10_method_42_code
def yX8_preferring : MethodName := ⟨RX8, "preferring", "(II)I"⟩
abbrev cX8_quota : ByteArray := prog_10_method_43_code
def yX8_quota : MethodName := ⟨RX8, "quota", "()I"⟩
abbrev cX8_motionsOf : ByteArray := prog_10_method_44_code
def yX8_motionsOf : MethodName := ⟨RX8, "motionsOf", "(I)I"⟩
abbrev cX8_passes : ByteArray := prog_10_method_45_code
def yX8_passes : MethodName := ⟨RX8, "passes", "(I)V"⟩
abbrev cX8_votesOn : ByteArray := prog_10_method_46_code
def yX8_votesOn : MethodName := ⟨RX8, "votesOn", "(III)V"⟩
abbrev cX8_worksOut : ByteArray := prog_10_method_47_code
def yX8_worksOut : MethodName := ⟨RX8, "worksOut", "(II)V"⟩
abbrev cX8_laysOrder : ByteArray := prog_10_method_48_code
def yX8_laysOrder : MethodName := ⟨RX8, "laysOrder", "()V"⟩
abbrev cX8_isSetOfVoters : ByteArray := prog_10_method_49_code
def yX8_isSetOfVoters : MethodName := ⟨RX8, "isSetOfVoters", "(I)Z"⟩
abbrev cX8_asks : ByteArray := prog_10_method_50_code
def yX8_asks : MethodName := ⟨RX8, "asks", "(I)V"⟩
abbrev cX8_way : ByteArray := prog_10_method_51_code
def yX8_way : MethodName := ⟨RX8, "way", "(I)I"⟩
abbrev cX8_result : ByteArray := prog_10_method_52_code
def yX8_result : MethodName := ⟨RX8, "result", "(I)I"⟩
abbrev cX8_adopted : ByteArray := prog_10_method_53_code
def yX8_adopted : MethodName := ⟨RX8, "adopted", "(I)I"⟩
abbrev cX8_yes : ByteArray := prog_10_method_54_code
def yX8_yes : MethodName := ⟨RX8, "yes", "(II)I"⟩
abbrev cX8_says : ByteArray := prog_10_method_55_code
def yX8_says : MethodName := ⟨RX8, "says", "(I)V"⟩
abbrev cX8_minutes : ByteArray := prog_10_method_56_code
def yX8_minutes : MethodName := ⟨RX8, "minutes", "(II)I"⟩
abbrev cX8_goesWith : ByteArray := prog_10_method_57_code
def yX8_goesWith : MethodName := ⟨RX8, "goesWith", "(II)Z"⟩
abbrev cX8_resultWithout : ByteArray := prog_10_method_58_code
def yX8_resultWithout : MethodName := ⟨RX8, "resultWithout", "(II)I"⟩
abbrev cX8_isMotion : ByteArray := prog_10_method_59_code
def yX8_isMotion : MethodName := ⟨RX8, "isMotion", "(I)Z"⟩
abbrev cX8_without : ByteArray := prog_10_method_60_code
def yX8_without : MethodName := ⟨RX8, "without", "(II)I"⟩
abbrev cX8_killers : ByteArray := prog_10_method_61_code
def yX8_killers : MethodName := ⟨RX8, "killers", "(I)I"⟩
abbrev cX8_isVoter : ByteArray := prog_10_method_62_code
def yX8_isVoter : MethodName := ⟨RX8, "isVoter", "(I)Z"⟩
abbrev cX8_best : ByteArray := prog_10_method_63_code
def yX8_best : MethodName := ⟨RX8, "best", "(III)I"⟩
abbrev cX8_laysOpen : ByteArray := prog_10_method_64_code
def yX8_laysOpen : MethodName := ⟨RX8, "laysOpen", "()I"⟩
abbrev cX8_beats : ByteArray := prog_10_method_65_code
def yX8_beats : MethodName := ⟨RX8, "beats", "(II)Z"⟩
abbrev cX8_growsFrom : ByteArray := prog_10_method_66_code
def yX8_growsFrom : MethodName := ⟨RX8, "growsFrom", "(I)I"⟩
abbrev cX8_isBelow : ByteArray := prog_10_method_67_code
def yX8_isBelow : MethodName := ⟨RX8, "isBelow", "(I)Z"⟩
abbrev cX8_laysTop : ByteArray := prog_10_method_68_code
def yX8_laysTop : MethodName := ⟨RX8, "laysTop", "()V"⟩
abbrev cX8_covers : ByteArray := prog_10_method_69_code
def yX8_covers : MethodName := ⟨RX8, "covers", "(II)Z"⟩
abbrev cX8_isCovered : ByteArray := prog_10_method_70_code
def yX8_isCovered : MethodName := ⟨RX8, "isCovered", "(I)Z"⟩
abbrev cX8_beaten : ByteArray := prog_10_method_71_code
def yX8_beaten : MethodName := ⟨RX8, "beaten", "(I)I"⟩
abbrev cX8_prefers : ByteArray := prog_10_method_72_code
def yX8_prefers : MethodName := ⟨RX8, "prefers", "(II)I"⟩
abbrev cX8_open : ByteArray := prog_10_method_73_code
def yX8_open : MethodName := ⟨RX8, "open", "(I)I"⟩
abbrev cX8_winner : ByteArray := prog_10_method_74_code
def yX8_winner : MethodName := ⟨RX8, "winner", "()I"⟩
abbrev cX8_standing : ByteArray := prog_10_method_75_code
def yX8_standing : MethodName := ⟨RX8, "standing", "(II)I"⟩
abbrev cX8_weigh : ByteArray := prog_10_method_76_code
def yX8_weigh : MethodName := ⟨RX8, "weigh", "(III)Z"⟩
abbrev cX8_count : ByteArray := prog_10_method_77_code
def yX8_count : MethodName := ⟨RX8, "count", "(I)I"⟩
abbrev cX8_placeOf : ByteArray := prog_10_method_78_code
def yX8_placeOf : MethodName := ⟨RX8, "placeOf", "(I)I"⟩
abbrev cX8_motion : ByteArray := prog_10_method_79_code
def yX8_motion : MethodName := ⟨RX8, "motion", "(II)I"⟩
abbrev cX8_weight : ByteArray := prog_10_method_80_code
def yX8_weight : MethodName := ⟨RX8, "weight", "(II)I"⟩
abbrev cX8_likes : ByteArray := prog_10_method_81_code
def yX8_likes : MethodName := ⟨RX8, "likes", "(II)I"⟩
def RJx145de : String := "java/io/Serializable"
def TJx145de : u_T := fun k => match k with
  | _ => ("", "", "", false)
def tyJx145de : Nat → FieldType := fun k => match k with
  | _ => .int
abbrev wsJx145de0 : List Cond := u_ws RJx145de TJx145de 0
theorem nmJx145de : ∀ a, a < 0 → ∀ b, b < 0 → a ≠ b → (TJx145de a).2.1 ≠ (TJx145de b).2.1 := by decide +kernel
theorem tyJx145de_ok : ∀ k, k < 0 → parseFieldDescriptor (TJx145de k).2.2.1 = some (tyJx145de k) := by decide +kernel
def RJx9f9b0 : String := "java/lang/CharSequence"
def TJx9f9b0 : u_T := fun k => match k with
  | _ => ("", "", "", false)
def tyJx9f9b0 : Nat → FieldType := fun k => match k with
  | _ => .int
abbrev wsJx9f9b00 : List Cond := u_ws RJx9f9b0 TJx9f9b0 0
theorem nmJx9f9b0 : ∀ a, a < 0 → ∀ b, b < 0 → a ≠ b → (TJx9f9b0 a).2.1 ≠ (TJx9f9b0 b).2.1 := by decide +kernel
theorem tyJx9f9b0_ok : ∀ k, k < 0 → parseFieldDescriptor (TJx9f9b0 k).2.2.1 = some (tyJx9f9b0 k) := by decide +kernel
def RJxb160c : String := "java/lang/Comparable"
def TJxb160c : u_T := fun k => match k with
  | _ => ("", "", "", false)
def tyJxb160c : Nat → FieldType := fun k => match k with
  | _ => .int
abbrev wsJxb160c0 : List Cond := u_ws RJxb160c TJxb160c 0
theorem nmJxb160c : ∀ a, a < 0 → ∀ b, b < 0 → a ≠ b → (TJxb160c a).2.1 ≠ (TJxb160c b).2.1 := by decide +kernel
theorem tyJxb160c_ok : ∀ k, k < 0 → parseFieldDescriptor (TJxb160c k).2.2.1 = some (tyJxb160c k) := by decide +kernel
def RJ6 : String := "java/lang/Integer"
def TJ6 : u_T := fun k => match k with
  | _ => ("", "", "", false)
def tyJ6 : Nat → FieldType := fun k => match k with
  | _ => .int
abbrev wsJ60 : List Cond := u_ws RJ6 TJ6 0
theorem nmJ6 : ∀ a, a < 0 → ∀ b, b < 0 → a ≠ b → (TJ6 a).2.1 ≠ (TJ6 b).2.1 := by decide +kernel
theorem tyJ6_ok : ∀ k, k < 0 → parseFieldDescriptor (TJ6 k).2.2.1 = some (tyJ6 k) := by decide +kernel
abbrev cJ6_bitCount_0f7a4 : ByteArray := prog_15_method_49_code
def yJ6_bitCount_0f7a4 : MethodName := ⟨RJ6, "bitCount", "(I)I"⟩
def RJ9 : String := "java/lang/Math"
def TJ9 : u_T := fun k => match k with
  | _ => ("", "", "", false)
def tyJ9 : Nat → FieldType := fun k => match k with
  | _ => .int
abbrev wsJ90 : List Cond := u_ws RJ9 TJ9 0
theorem nmJ9 : ∀ a, a < 0 → ∀ b, b < 0 → a ≠ b → (TJ9 a).2.1 ≠ (TJ9 b).2.1 := by decide +kernel
theorem tyJ9_ok : ∀ k, k < 0 → parseFieldDescriptor (TJ9 k).2.2.1 = some (tyJ9 k) := by decide +kernel
abbrev cJ9_max_7cf53 : ByteArray := prog_16_method_65_code
def yJ9_max_7cf53 : MethodName := ⟨RJ9, "max", "(II)I"⟩
abbrev cJ9_min_7cf53 : ByteArray := prog_16_method_69_code
def yJ9_min_7cf53 : MethodName := ⟨RJ9, "min", "(II)I"⟩
def RJ0 : String := "java/lang/String"
def TJ0 : u_T := fun k => match k with
  | _ => ("", "", "", false)
def tyJ0 : Nat → FieldType := fun k => match k with
  | _ => .int
abbrev wsJ00 : List Cond := u_ws RJ0 TJ0 0
theorem nmJ0 : ∀ a, a < 0 → ∀ b, b < 0 → a ≠ b → (TJ0 a).2.1 ≠ (TJ0 b).2.1 := by decide +kernel
theorem tyJ0_ok : ∀ k, k < 0 → parseFieldDescriptor (TJ0 k).2.2.1 = some (tyJ0 k) := by decide +kernel
abbrev cJ0_length_8abf5 : ByteArray := prog_18_method_54_code
def yJ0_length_8abf5 : MethodName := ⟨RJ0, "length", "()I"⟩
abbrev cJ0_charAt_5068e : ByteArray := prog_18_method_56_code
def yJ0_charAt_5068e : MethodName := ⟨RJ0, "charAt", "(I)C"⟩
abbrev cJ0_coder_7d493 : ByteArray := prog_18_method_152_code
def yJ0_coder_7d493 : MethodName := ⟨RJ0, "coder", "()B"⟩
abbrev cJ0_isLatin1_aae02 : ByteArray := prog_18_method_154_code
def yJ0_isLatin1_aae02 : MethodName := ⟨RJ0, "isLatin1", "()Z"⟩
abbrev cJ0_checkIndex_df160 : ByteArray := prog_18_method_155_code
def yJ0_checkIndex_df160 : MethodName := ⟨RJ0, "checkIndex", "(II)V"⟩
def RJ1 : String := "java/lang/StringLatin1"
def TJ1 : u_T := fun k => match k with
  | _ => ("", "", "", false)
def tyJ1 : Nat → FieldType := fun k => match k with
  | _ => .int
abbrev wsJ10 : List Cond := u_ws RJ1 TJ1 0
theorem nmJ1 : ∀ a, a < 0 → ∀ b, b < 0 → a ≠ b → (TJ1 a).2.1 ≠ (TJ1 b).2.1 := by decide +kernel
theorem tyJ1_ok : ∀ k, k < 0 → parseFieldDescriptor (TJ1 k).2.2.1 = some (tyJ1 k) := by decide +kernel
abbrev cJ1_charAt_3b067 : ByteArray := prog_19_method_2_code
def yJ1_charAt_3b067 : MethodName := ⟨RJ1, "charAt", "([BI)C"⟩
def RJ2 : String := "java/lang/StringUTF16"
def TJ2 : u_T := fun k => match k with
  | _ => ("", "", "", false)
def tyJ2 : Nat → FieldType := fun k => match k with
  | _ => .int
abbrev wsJ20 : List Cond := u_ws RJ2 TJ2 0
theorem nmJ2 : ∀ a, a < 0 → ∀ b, b < 0 → a ≠ b → (TJ2 a).2.1 ≠ (TJ2 b).2.1 := by decide +kernel
theorem tyJ2_ok : ∀ k, k < 0 → parseFieldDescriptor (TJ2 k).2.2.1 = some (tyJ2 k) := by decide +kernel
abbrev cJ2_getChar_3b067 : ByteArray := prog_20_method_5_code
def yJ2_getChar_3b067 : MethodName := ⟨RJ2, "getChar", "([BI)C"⟩
abbrev cJ2_length_9d52b : ByteArray := prog_20_method_6_code
def yJ2_length_9d52b : MethodName := ⟨RJ2, "length", "([B)I"⟩
abbrev cJ2_charAt_3b067 : ByteArray := prog_20_method_83_code
def yJ2_charAt_3b067 : MethodName := ⟨RJ2, "charAt", "([BI)C"⟩
abbrev cJ2_checkIndex_2214a : ByteArray := prog_20_method_91_code
def yJ2_checkIndex_2214a : MethodName := ⟨RJ2, "checkIndex", "(I[B)V"⟩
def RJ10 : String := "java/lang/System"
def TJ10 : u_T := fun k => match k with
  | _ => ("", "", "", false)
def tyJ10 : Nat → FieldType := fun k => match k with
  | _ => .int
abbrev wsJ100 : List Cond := u_ws RJ10 TJ10 0
theorem nmJ10 : ∀ a, a < 0 → ∀ b, b < 0 → a ≠ b → (TJ10 a).2.1 ≠ (TJ10 b).2.1 := by decide +kernel
theorem tyJ10_ok : ∀ k, k < 0 → parseFieldDescriptor (TJ10 k).2.2.1 = some (tyJ10 k) := by decide +kernel
def RJxfd54e : String := "java/lang/constant/Constable"
def TJxfd54e : u_T := fun k => match k with
  | _ => ("", "", "", false)
def tyJxfd54e : Nat → FieldType := fun k => match k with
  | _ => .int
abbrev wsJxfd54e0 : List Cond := u_ws RJxfd54e TJxfd54e 0
theorem nmJxfd54e : ∀ a, a < 0 → ∀ b, b < 0 → a ≠ b → (TJxfd54e a).2.1 ≠ (TJxfd54e b).2.1 := by decide +kernel
theorem tyJxfd54e_ok : ∀ k, k < 0 → parseFieldDescriptor (TJxfd54e k).2.2.1 = some (tyJxfd54e k) := by decide +kernel
def RJx3cf43 : String := "java/lang/constant/ConstantDesc"
def TJx3cf43 : u_T := fun k => match k with
  | _ => ("", "", "", false)
def tyJx3cf43 : Nat → FieldType := fun k => match k with
  | _ => .int
abbrev wsJx3cf430 : List Cond := u_ws RJx3cf43 TJx3cf43 0
theorem nmJx3cf43 : ∀ a, a < 0 → ∀ b, b < 0 → a ≠ b → (TJx3cf43 a).2.1 ≠ (TJx3cf43 b).2.1 := by decide +kernel
theorem tyJx3cf43_ok : ∀ k, k < 0 → parseFieldDescriptor (TJx3cf43 k).2.2.1 = some (tyJx3cf43 k) := by decide +kernel
def RJ7 : String := "java/util/Arrays"
def TJ7 : u_T := fun k => match k with
  | _ => ("", "", "", false)
def tyJ7 : Nat → FieldType := fun k => match k with
  | _ => .int
abbrev wsJ70 : List Cond := u_ws RJ7 TJ7 0
theorem nmJ7 : ∀ a, a < 0 → ∀ b, b < 0 → a ≠ b → (TJ7 a).2.1 ≠ (TJ7 b).2.1 := by decide +kernel
theorem tyJ7_ok : ∀ k, k < 0 → parseFieldDescriptor (TJ7 k).2.2.1 = some (tyJ7 k) := by decide +kernel
abbrev cJ7_fill_53178 : ByteArray := prog_25_method_103_code
def yJ7_fill_53178 : MethodName := ⟨RJ7, "fill", "([II)V"⟩
def RJ3 : String := "jdk/internal/util/Preconditions"
def TJ3 : u_T := fun k => match k with
  | _ => ("", "", "", false)
def tyJ3 : Nat → FieldType := fun k => match k with
  | _ => .int
abbrev wsJ30 : List Cond := u_ws RJ3 TJ3 0
theorem nmJ3 : ∀ a, a < 0 → ∀ b, b < 0 → a ≠ b → (TJ3 a).2.1 ≠ (TJ3 b).2.1 := by decide +kernel
theorem tyJ3_ok : ∀ k, k < 0 → parseFieldDescriptor (TJ3 k).2.2.1 = some (tyJ3 k) := by decide +kernel
abbrev cJ3_checkIndex_8e157 : ByteArray := prog_27_method_11_code
def yJ3_checkIndex_8e157 : MethodName := ⟨RJ3, "checkIndex", "(IILjava/util/function/BiFunction;)I"⟩
def RL : String := "AmendmentTreeLaw"
abbrev cL_motion : ByteArray := method_3_code
def yL_motion : MethodName := ⟨RL, "motion", "(LAmendmentTree;II[J)I"⟩
abbrev cL_weight : ByteArray := method_4_code
def yL_weight : MethodName := ⟨RL, "weight", "(LAmendmentTree;II[J)I"⟩
abbrev cL_likes : ByteArray := method_5_code
def yL_likes : MethodName := ⟨RL, "likes", "(LAmendmentTree;II[J)I"⟩
abbrev cL_law : ByteArray := code
def yL_law : MethodName := ⟨RL, "law", "([I)Z"⟩
theorem inX0 : ∀ w ∈ wsX00, w ∈ lw_tbl := by decide +kernel
theorem inX1 : ∀ w ∈ wsX10, w ∈ lw_tbl := by decide +kernel
theorem inX2 : ∀ w ∈ wsX20, w ∈ lw_tbl := by decide +kernel
theorem inX3 : ∀ w ∈ wsX30, w ∈ lw_tbl := by decide +kernel
theorem inX4 : ∀ w ∈ wsX40, w ∈ lw_tbl := by decide +kernel
theorem inX5 : ∀ w ∈ wsX50, w ∈ lw_tbl := by decide +kernel
theorem inX6 : ∀ w ∈ wsX60, w ∈ lw_tbl := by decide +kernel
theorem inX7 : ∀ w ∈ wsX70, w ∈ lw_tbl := by decide +kernel
theorem inX8 : ∀ w ∈ wsX80, w ∈ lw_tbl := by decide +kernel
theorem inJx145de : ∀ w ∈ wsJx145de0, w ∈ lw_tbl := by decide +kernel
theorem inJx9f9b0 : ∀ w ∈ wsJx9f9b00, w ∈ lw_tbl := by decide +kernel
theorem inJxb160c : ∀ w ∈ wsJxb160c0, w ∈ lw_tbl := by decide +kernel
theorem inJ6 : ∀ w ∈ wsJ60, w ∈ lw_tbl := by decide +kernel
theorem inJ9 : ∀ w ∈ wsJ90, w ∈ lw_tbl := by decide +kernel
theorem inJ0 : ∀ w ∈ wsJ00, w ∈ lw_tbl := by decide +kernel
theorem inJ1 : ∀ w ∈ wsJ10, w ∈ lw_tbl := by decide +kernel
theorem inJ2 : ∀ w ∈ wsJ20, w ∈ lw_tbl := by decide +kernel
theorem inJ10 : ∀ w ∈ wsJ100, w ∈ lw_tbl := by decide +kernel
theorem inJxfd54e : ∀ w ∈ wsJxfd54e0, w ∈ lw_tbl := by decide +kernel
theorem inJx3cf43 : ∀ w ∈ wsJx3cf430, w ∈ lw_tbl := by decide +kernel
theorem inJ7 : ∀ w ∈ wsJ70, w ∈ lw_tbl := by decide +kernel
theorem inJ3 : ∀ w ∈ wsJ30, w ∈ lw_tbl := by decide +kernel
abbrev vwCl : List vw_C := [(RX0, TX0, 3), (RX1, TX1, 10), (RX2, TX2, 14), (RX3, TX3, 13), (RX4, TX4, 8), (RX5, TX5, 2), (RX6, TX6, 9), (RX7, TX7, 11), (RX8, TX8, 43)]
end
section
theorem dX0_init_0 : decode cX0_init 0 = .ok (.aload_n 0, 1) := by decide +kernel
theorem dX0_init_1 : decode cX0_init 1 = .ok (.invokespecial 3, 3) := by decide +kernel
theorem dX0_init_4 : decode cX0_init 4 = .ok (.aload_n 0, 1) := by decide +kernel
theorem dX0_init_5 : decode cX0_init 5 = .ok (.bipush 6, 2) := by decide +kernel
theorem dX0_init_7 : decode cX0_init 7 = .ok (.newarray .int, 2) := by decide +kernel
theorem dX0_init_9 : decode cX0_init 9 = .ok (.putfield 9, 3) := by decide +kernel
theorem dX0_init_12 : decode cX0_init 12 = .ok (.aload_n 0, 1) := by decide +kernel
theorem dX0_init_13 : decode cX0_init 13 = .ok (.bipush 64, 2) := by decide +kernel
theorem dX0_init_15 : decode cX0_init 15 = .ok (.newarray .int, 2) := by decide +kernel
theorem dX0_init_17 : decode cX0_init 17 = .ok (.putfield 15, 3) := by decide +kernel
theorem dX0_init_20 : decode cX0_init 20 = .ok (.aload_n 0, 1) := by decide +kernel
theorem dX0_init_21 : decode cX0_init 21 = .ok (.aload_n 1, 1) := by decide +kernel
theorem dX0_init_22 : decode cX0_init 22 = .ok (.putfield 18, 3) := by decide +kernel
theorem dX0_init_25 : decode cX0_init 25 = .ok (.return_, 1) := by decide +kernel
theorem dX0_takeLeast_0 : decode cX0_takeLeast 0 = .ok (.iconst 0, 1) := by decide +kernel
theorem dX0_takeLeast_1 : decode cX0_takeLeast 1 = .ok (.istore_n 1, 1) := by decide +kernel
theorem dX0_takeLeast_2 : decode cX0_takeLeast 2 = .ok (.iconst 0, 1) := by decide +kernel
theorem dX0_takeLeast_3 : decode cX0_takeLeast 3 = .ok (.istore_n 2, 1) := by decide +kernel
theorem dX0_takeLeast_4 : decode cX0_takeLeast 4 = .ok (.iload_n 2, 1) := by decide +kernel
theorem dX0_takeLeast_5 : decode cX0_takeLeast 5 = .ok (.aload_n 0, 1) := by decide +kernel
theorem dX0_takeLeast_6 : decode cX0_takeLeast 6 = .ok (.getfield 18, 3) := by decide +kernel
theorem dX0_takeLeast_9 : decode cX0_takeLeast 9 = .ok (.getfield 22, 3) := by decide +kernel
theorem dX0_takeLeast_12 : decode cX0_takeLeast 12 = .ok (.if_icmp .ge 28, 3) := by decide +kernel
theorem dX0_takeLeast_15 : decode cX0_takeLeast 15 = .ok (.aload_n 0, 1) := by decide +kernel
theorem dX0_takeLeast_16 : decode cX0_takeLeast 16 = .ok (.iload_n 1, 1) := by decide +kernel
theorem dX0_takeLeast_17 : decode cX0_takeLeast 17 = .ok (.invokevirtual 28, 3) := by decide +kernel
theorem dX0_takeLeast_20 : decode cX0_takeLeast 20 = .ok (.istore_n 3, 1) := by decide +kernel
theorem dX0_takeLeast_21 : decode cX0_takeLeast 21 = .ok (.aload_n 0, 1) := by decide +kernel
theorem dX0_takeLeast_22 : decode cX0_takeLeast 22 = .ok (.getfield 9, 3) := by decide +kernel
theorem dX0_takeLeast_25 : decode cX0_takeLeast 25 = .ok (.iload_n 2, 1) := by decide +kernel
theorem dX0_takeLeast_26 : decode cX0_takeLeast 26 = .ok (.iload_n 3, 1) := by decide +kernel
theorem dX0_takeLeast_27 : decode cX0_takeLeast 27 = .ok (.iastore, 1) := by decide +kernel
theorem dX0_takeLeast_28 : decode cX0_takeLeast 28 = .ok (.iload_n 1, 1) := by decide +kernel
theorem dX0_takeLeast_29 : decode cX0_takeLeast 29 = .ok (.iconst 1, 1) := by decide +kernel
theorem dX0_takeLeast_30 : decode cX0_takeLeast 30 = .ok (.iload_n 3, 1) := by decide +kernel
theorem dX0_takeLeast_31 : decode cX0_takeLeast 31 = .ok (.ishl, 1) := by decide +kernel
theorem dX0_takeLeast_32 : decode cX0_takeLeast 32 = .ok (.ior, 1) := by decide +kernel
theorem dX0_takeLeast_33 : decode cX0_takeLeast 33 = .ok (.istore_n 1, 1) := by decide +kernel
theorem dX0_takeLeast_34 : decode cX0_takeLeast 34 = .ok (.iinc 2 1, 3) := by decide +kernel
theorem dX0_takeLeast_37 : decode cX0_takeLeast 37 = .ok (.goto (-33), 3) := by decide +kernel
theorem dX0_takeLeast_40 : decode cX0_takeLeast 40 = .ok (.return_, 1) := by decide +kernel
theorem dX0_leastNext_0 : decode cX0_leastNext 0 = .ok (.iconst 0, 1) := by decide +kernel
theorem dX0_leastNext_1 : decode cX0_leastNext 1 = .ok (.istore_n 2, 1) := by decide +kernel
theorem dX0_leastNext_2 : decode cX0_leastNext 2 = .ok (.iload_n 2, 1) := by decide +kernel
theorem dX0_leastNext_3 : decode cX0_leastNext 3 = .ok (.aload_n 0, 1) := by decide +kernel
theorem dX0_leastNext_4 : decode cX0_leastNext 4 = .ok (.getfield 18, 3) := by decide +kernel
theorem dX0_leastNext_7 : decode cX0_leastNext 7 = .ok (.getfield 22, 3) := by decide +kernel
theorem dX0_leastNext_10 : decode cX0_leastNext 10 = .ok (.if_icmp .ge 28, 3) := by decide +kernel
theorem dX0_leastNext_13 : decode cX0_leastNext 13 = .ok (.iload_n 2, 1) := by decide +kernel
theorem dX0_leastNext_14 : decode cX0_leastNext 14 = .ok (.iload_n 1, 1) := by decide +kernel
theorem dX0_leastNext_15 : decode cX0_leastNext 15 = .ok (.invokestatic 32, 3) := by decide +kernel
theorem dX0_leastNext_18 : decode cX0_leastNext 18 = .ok (.ifCond .ne 14, 3) := by decide +kernel
theorem dX0_leastNext_21 : decode cX0_leastNext 21 = .ok (.aload_n 0, 1) := by decide +kernel
theorem dX0_leastNext_22 : decode cX0_leastNext 22 = .ok (.iload_n 2, 1) := by decide +kernel
theorem dX0_leastNext_23 : decode cX0_leastNext 23 = .ok (.iload_n 1, 1) := by decide +kernel
theorem dX0_leastNext_24 : decode cX0_leastNext 24 = .ok (.invokevirtual 36, 3) := by decide +kernel
theorem dX0_leastNext_27 : decode cX0_leastNext 27 = .ok (.ifCond .eq 5, 3) := by decide +kernel
theorem dX0_leastNext_30 : decode cX0_leastNext 30 = .ok (.iload_n 2, 1) := by decide +kernel
theorem dX0_leastNext_31 : decode cX0_leastNext 31 = .ok (.ireturn, 1) := by decide +kernel
theorem dX0_leastNext_32 : decode cX0_leastNext 32 = .ok (.iinc 2 1, 3) := by decide +kernel
theorem dX0_leastNext_35 : decode cX0_leastNext 35 = .ok (.goto (-33), 3) := by decide +kernel
theorem dX0_leastNext_38 : decode cX0_leastNext 38 = .ok (.iconst 0, 1) := by decide +kernel
theorem dX0_leastNext_39 : decode cX0_leastNext 39 = .ok (.ireturn, 1) := by decide +kernel
theorem dX0_areChildrenIn_0 : decode cX0_areChildrenIn 0 = .ok (.iconst 0, 1) := by decide +kernel
theorem dX0_areChildrenIn_1 : decode cX0_areChildrenIn 1 = .ok (.istore_n 3, 1) := by decide +kernel
theorem dX0_areChildrenIn_2 : decode cX0_areChildrenIn 2 = .ok (.iload_n 3, 1) := by decide +kernel
theorem dX0_areChildrenIn_3 : decode cX0_areChildrenIn 3 = .ok (.aload_n 0, 1) := by decide +kernel
theorem dX0_areChildrenIn_4 : decode cX0_areChildrenIn 4 = .ok (.getfield 18, 3) := by decide +kernel
theorem dX0_areChildrenIn_7 : decode cX0_areChildrenIn 7 = .ok (.getfield 22, 3) := by decide +kernel
theorem dX0_areChildrenIn_10 : decode cX0_areChildrenIn 10 = .ok (.if_icmp .ge 32, 3) := by decide +kernel
theorem dX0_areChildrenIn_13 : decode cX0_areChildrenIn 13 = .ok (.aload_n 0, 1) := by decide +kernel
theorem dX0_areChildrenIn_14 : decode cX0_areChildrenIn 14 = .ok (.getfield 18, 3) := by decide +kernel
theorem dX0_areChildrenIn_17 : decode cX0_areChildrenIn 17 = .ok (.getfield 39, 3) := by decide +kernel
theorem dX0_areChildrenIn_20 : decode cX0_areChildrenIn 20 = .ok (.iload_n 3, 1) := by decide +kernel
theorem dX0_areChildrenIn_21 : decode cX0_areChildrenIn 21 = .ok (.iaload, 1) := by decide +kernel
theorem dX0_areChildrenIn_22 : decode cX0_areChildrenIn 22 = .ok (.iload_n 1, 1) := by decide +kernel
theorem dX0_areChildrenIn_23 : decode cX0_areChildrenIn 23 = .ok (.if_icmp .ne 13, 3) := by decide +kernel
theorem dX0_areChildrenIn_26 : decode cX0_areChildrenIn 26 = .ok (.iload_n 3, 1) := by decide +kernel
theorem dX0_areChildrenIn_27 : decode cX0_areChildrenIn 27 = .ok (.iload_n 2, 1) := by decide +kernel
theorem dX0_areChildrenIn_28 : decode cX0_areChildrenIn 28 = .ok (.invokestatic 32, 3) := by decide +kernel
theorem dX0_areChildrenIn_31 : decode cX0_areChildrenIn 31 = .ok (.ifCond .ne 5, 3) := by decide +kernel
theorem dX0_areChildrenIn_34 : decode cX0_areChildrenIn 34 = .ok (.iconst 0, 1) := by decide +kernel
theorem dX0_areChildrenIn_35 : decode cX0_areChildrenIn 35 = .ok (.ireturn, 1) := by decide +kernel
theorem dX0_areChildrenIn_36 : decode cX0_areChildrenIn 36 = .ok (.iinc 3 1, 3) := by decide +kernel
theorem dX0_areChildrenIn_39 : decode cX0_areChildrenIn 39 = .ok (.goto (-37), 3) := by decide +kernel
theorem dX0_areChildrenIn_42 : decode cX0_areChildrenIn 42 = .ok (.iconst 1, 1) := by decide +kernel
theorem dX0_areChildrenIn_43 : decode cX0_areChildrenIn 43 = .ok (.ireturn, 1) := by decide +kernel
theorem dX0_takeRow_0 : decode cX0_takeRow 0 = .ok (.iload_n 1, 1) := by decide +kernel
theorem dX0_takeRow_1 : decode cX0_takeRow 1 = .ok (.aload_n 0, 1) := by decide +kernel
theorem dX0_takeRow_2 : decode cX0_takeRow 2 = .ok (.invokevirtual 42, 3) := by decide +kernel
theorem dX0_takeRow_5 : decode cX0_takeRow 5 = .ok (.if_icmp .eq 11, 3) := by decide +kernel
theorem dX0_takeRow_8 : decode cX0_takeRow 8 = .ok (.aload_n 0, 1) := by decide +kernel
theorem dX0_takeRow_9 : decode cX0_takeRow 9 = .ok (.iload_n 1, 1) := by decide +kernel
theorem dX0_takeRow_10 : decode cX0_takeRow 10 = .ok (.invokevirtual 46, 3) := by decide +kernel
theorem dX0_takeRow_13 : decode cX0_takeRow 13 = .ok (.ifCond .ne 5, 3) := by decide +kernel
theorem dX0_takeRow_16 : decode cX0_takeRow 16 = .ok (.iconst 0, 1) := by decide +kernel
theorem dX0_takeRow_17 : decode cX0_takeRow 17 = .ok (.ireturn, 1) := by decide +kernel
theorem dX0_takeRow_18 : decode cX0_takeRow 18 = .ok (.iconst 0, 1) := by decide +kernel
theorem dX0_takeRow_19 : decode cX0_takeRow 19 = .ok (.istore_n 2, 1) := by decide +kernel
theorem dX0_takeRow_20 : decode cX0_takeRow 20 = .ok (.iload_n 2, 1) := by decide +kernel
theorem dX0_takeRow_21 : decode cX0_takeRow 21 = .ok (.aload_n 0, 1) := by decide +kernel
theorem dX0_takeRow_22 : decode cX0_takeRow 22 = .ok (.getfield 18, 3) := by decide +kernel
theorem dX0_takeRow_25 : decode cX0_takeRow 25 = .ok (.getfield 22, 3) := by decide +kernel
theorem dX0_takeRow_28 : decode cX0_takeRow 28 = .ok (.if_icmp .ge 23, 3) := by decide +kernel
theorem dX0_takeRow_31 : decode cX0_takeRow 31 = .ok (.aload_n 0, 1) := by decide +kernel
theorem dX0_takeRow_32 : decode cX0_takeRow 32 = .ok (.getfield 9, 3) := by decide +kernel
theorem dX0_takeRow_35 : decode cX0_takeRow 35 = .ok (.iload_n 2, 1) := by decide +kernel
theorem dX0_takeRow_36 : decode cX0_takeRow 36 = .ok (.iload_n 1, 1) := by decide +kernel
theorem dX0_takeRow_37 : decode cX0_takeRow 37 = .ok (.iconst 4, 1) := by decide +kernel
theorem dX0_takeRow_38 : decode cX0_takeRow 38 = .ok (.iload_n 2, 1) := by decide +kernel
theorem dX0_takeRow_39 : decode cX0_takeRow 39 = .ok (.imul, 1) := by decide +kernel
theorem dX0_takeRow_40 : decode cX0_takeRow 40 = .ok (.ishr, 1) := by decide +kernel
theorem dX0_takeRow_41 : decode cX0_takeRow 41 = .ok (.bipush 15, 2) := by decide +kernel
theorem dX0_takeRow_43 : decode cX0_takeRow 43 = .ok (.iand, 1) := by decide +kernel
theorem dX0_takeRow_44 : decode cX0_takeRow 44 = .ok (.iastore, 1) := by decide +kernel
theorem dX0_takeRow_45 : decode cX0_takeRow 45 = .ok (.iinc 2 1, 3) := by decide +kernel
theorem dX0_takeRow_48 : decode cX0_takeRow 48 = .ok (.goto (-28), 3) := by decide +kernel
theorem dX0_takeRow_51 : decode cX0_takeRow 51 = .ok (.iconst 1, 1) := by decide +kernel
theorem dX0_takeRow_52 : decode cX0_takeRow 52 = .ok (.ireturn, 1) := by decide +kernel
theorem dX0_rowOfSequence_0 : decode cX0_rowOfSequence 0 = .ok (.iconst 0, 1) := by decide +kernel
theorem dX0_rowOfSequence_1 : decode cX0_rowOfSequence 1 = .ok (.istore_n 1, 1) := by decide +kernel
theorem dX0_rowOfSequence_2 : decode cX0_rowOfSequence 2 = .ok (.iconst 0, 1) := by decide +kernel
theorem dX0_rowOfSequence_3 : decode cX0_rowOfSequence 3 = .ok (.istore_n 2, 1) := by decide +kernel
theorem dX0_rowOfSequence_4 : decode cX0_rowOfSequence 4 = .ok (.iload_n 2, 1) := by decide +kernel
theorem dX0_rowOfSequence_5 : decode cX0_rowOfSequence 5 = .ok (.aload_n 0, 1) := by decide +kernel
theorem dX0_rowOfSequence_6 : decode cX0_rowOfSequence 6 = .ok (.getfield 18, 3) := by decide +kernel
theorem dX0_rowOfSequence_9 : decode cX0_rowOfSequence 9 = .ok (.getfield 22, 3) := by decide +kernel
theorem dX0_rowOfSequence_12 : decode cX0_rowOfSequence 12 = .ok (.if_icmp .ge 22, 3) := by decide +kernel
theorem dX0_rowOfSequence_15 : decode cX0_rowOfSequence 15 = .ok (.iload_n 1, 1) := by decide +kernel
theorem dX0_rowOfSequence_16 : decode cX0_rowOfSequence 16 = .ok (.aload_n 0, 1) := by decide +kernel
theorem dX0_rowOfSequence_17 : decode cX0_rowOfSequence 17 = .ok (.getfield 9, 3) := by decide +kernel
theorem dX0_rowOfSequence_20 : decode cX0_rowOfSequence 20 = .ok (.iload_n 2, 1) := by decide +kernel
theorem dX0_rowOfSequence_21 : decode cX0_rowOfSequence 21 = .ok (.iaload, 1) := by decide +kernel
theorem dX0_rowOfSequence_22 : decode cX0_rowOfSequence 22 = .ok (.iconst 4, 1) := by decide +kernel
theorem dX0_rowOfSequence_23 : decode cX0_rowOfSequence 23 = .ok (.iload_n 2, 1) := by decide +kernel
theorem dX0_rowOfSequence_24 : decode cX0_rowOfSequence 24 = .ok (.imul, 1) := by decide +kernel
theorem dX0_rowOfSequence_25 : decode cX0_rowOfSequence 25 = .ok (.ishl, 1) := by decide +kernel
theorem dX0_rowOfSequence_26 : decode cX0_rowOfSequence 26 = .ok (.ior, 1) := by decide +kernel
theorem dX0_rowOfSequence_27 : decode cX0_rowOfSequence 27 = .ok (.istore_n 1, 1) := by decide +kernel
theorem dX0_rowOfSequence_28 : decode cX0_rowOfSequence 28 = .ok (.iinc 2 1, 3) := by decide +kernel
theorem dX0_rowOfSequence_31 : decode cX0_rowOfSequence 31 = .ok (.goto (-27), 3) := by decide +kernel
theorem dX0_rowOfSequence_34 : decode cX0_rowOfSequence 34 = .ok (.iload_n 1, 1) := by decide +kernel
theorem dX0_rowOfSequence_35 : decode cX0_rowOfSequence 35 = .ok (.ireturn, 1) := by decide +kernel
theorem dX0_isGood_0 : decode cX0_isGood 0 = .ok (.iload_n 1, 1) := by decide +kernel
theorem dX0_isGood_1 : decode cX0_isGood 1 = .ok (.iconst 4, 1) := by decide +kernel
theorem dX0_isGood_2 : decode cX0_isGood 2 = .ok (.aload_n 0, 1) := by decide +kernel
theorem dX0_isGood_3 : decode cX0_isGood 3 = .ok (.getfield 18, 3) := by decide +kernel
theorem dX0_isGood_6 : decode cX0_isGood 6 = .ok (.getfield 22, 3) := by decide +kernel
theorem dX0_isGood_9 : decode cX0_isGood 9 = .ok (.imul, 1) := by decide +kernel
theorem dX0_isGood_10 : decode cX0_isGood 10 = .ok (.iushr, 1) := by decide +kernel
theorem dX0_isGood_11 : decode cX0_isGood 11 = .ok (.ifCond .eq 5, 3) := by decide +kernel
theorem dX0_isGood_14 : decode cX0_isGood 14 = .ok (.iconst 0, 1) := by decide +kernel
theorem dX0_isGood_15 : decode cX0_isGood 15 = .ok (.ireturn, 1) := by decide +kernel
theorem dX0_isGood_16 : decode cX0_isGood 16 = .ok (.iconst 0, 1) := by decide +kernel
theorem dX0_isGood_17 : decode cX0_isGood 17 = .ok (.istore_n 2, 1) := by decide +kernel
theorem dX0_isGood_18 : decode cX0_isGood 18 = .ok (.iconst 0, 1) := by decide +kernel
theorem dX0_isGood_19 : decode cX0_isGood 19 = .ok (.istore_n 3, 1) := by decide +kernel
theorem dX0_isGood_20 : decode cX0_isGood 20 = .ok (.iload_n 3, 1) := by decide +kernel
theorem dX0_isGood_21 : decode cX0_isGood 21 = .ok (.aload_n 0, 1) := by decide +kernel
theorem dX0_isGood_22 : decode cX0_isGood 22 = .ok (.getfield 18, 3) := by decide +kernel
theorem dX0_isGood_25 : decode cX0_isGood 25 = .ok (.getfield 22, 3) := by decide +kernel
theorem dX0_isGood_28 : decode cX0_isGood 28 = .ok (.if_icmp .ge 59, 3) := by decide +kernel
theorem dX0_isGood_31 : decode cX0_isGood 31 = .ok (.iload_n 1, 1) := by decide +kernel
theorem dX0_isGood_32 : decode cX0_isGood 32 = .ok (.iconst 4, 1) := by decide +kernel
theorem dX0_isGood_33 : decode cX0_isGood 33 = .ok (.iload_n 3, 1) := by decide +kernel
theorem dX0_isGood_34 : decode cX0_isGood 34 = .ok (.imul, 1) := by decide +kernel
theorem dX0_isGood_35 : decode cX0_isGood 35 = .ok (.ishr, 1) := by decide +kernel
theorem dX0_isGood_36 : decode cX0_isGood 36 = .ok (.bipush 15, 2) := by decide +kernel
theorem dX0_isGood_38 : decode cX0_isGood 38 = .ok (.iand, 1) := by decide +kernel
theorem dX0_isGood_39 : decode cX0_isGood 39 = .ok (.istore 4, 2) := by decide +kernel
theorem dX0_isGood_41 : decode cX0_isGood 41 = .ok (.aload_n 0, 1) := by decide +kernel
theorem dX0_isGood_42 : decode cX0_isGood 42 = .ok (.getfield 18, 3) := by decide +kernel
theorem dX0_isGood_45 : decode cX0_isGood 45 = .ok (.iload 4, 2) := by decide +kernel
theorem dX0_isGood_47 : decode cX0_isGood 47 = .ok (.invokevirtual 50, 3) := by decide +kernel
theorem dX0_isGood_50 : decode cX0_isGood 50 = .ok (.ifCond .eq 22, 3) := by decide +kernel
theorem dX0_isGood_53 : decode cX0_isGood 53 = .ok (.iload 4, 2) := by decide +kernel
theorem dX0_isGood_55 : decode cX0_isGood 55 = .ok (.iload_n 2, 1) := by decide +kernel
theorem dX0_isGood_56 : decode cX0_isGood 56 = .ok (.invokestatic 32, 3) := by decide +kernel
theorem dX0_isGood_59 : decode cX0_isGood 59 = .ok (.ifCond .ne 13, 3) := by decide +kernel
theorem dX0_isGood_62 : decode cX0_isGood 62 = .ok (.aload_n 0, 1) := by decide +kernel
theorem dX0_isGood_63 : decode cX0_isGood 63 = .ok (.iload 4, 2) := by decide +kernel
theorem dX0_isGood_65 : decode cX0_isGood 65 = .ok (.iload_n 2, 1) := by decide +kernel
theorem dX0_isGood_66 : decode cX0_isGood 66 = .ok (.invokevirtual 36, 3) := by decide +kernel
theorem dX0_isGood_69 : decode cX0_isGood 69 = .ok (.ifCond .ne 5, 3) := by decide +kernel
theorem dX0_isGood_72 : decode cX0_isGood 72 = .ok (.iconst 0, 1) := by decide +kernel
theorem dX0_isGood_73 : decode cX0_isGood 73 = .ok (.ireturn, 1) := by decide +kernel
theorem dX0_isGood_74 : decode cX0_isGood 74 = .ok (.iload_n 2, 1) := by decide +kernel
theorem dX0_isGood_75 : decode cX0_isGood 75 = .ok (.iconst 1, 1) := by decide +kernel
theorem dX0_isGood_76 : decode cX0_isGood 76 = .ok (.iload 4, 2) := by decide +kernel
theorem dX0_isGood_78 : decode cX0_isGood 78 = .ok (.ishl, 1) := by decide +kernel
theorem dX0_isGood_79 : decode cX0_isGood 79 = .ok (.ior, 1) := by decide +kernel
theorem dX0_isGood_80 : decode cX0_isGood 80 = .ok (.istore_n 2, 1) := by decide +kernel
theorem dX0_isGood_81 : decode cX0_isGood 81 = .ok (.iinc 3 1, 3) := by decide +kernel
theorem dX0_isGood_84 : decode cX0_isGood 84 = .ok (.goto (-64), 3) := by decide +kernel
theorem dX0_isGood_87 : decode cX0_isGood 87 = .ok (.iconst 1, 1) := by decide +kernel
theorem dX0_isGood_88 : decode cX0_isGood 88 = .ok (.ireturn, 1) := by decide +kernel
theorem dX0_placeOf_0 : decode cX0_placeOf 0 = .ok (.iconst 0, 1) := by decide +kernel
theorem dX0_placeOf_1 : decode cX0_placeOf 1 = .ok (.istore_n 2, 1) := by decide +kernel
theorem dX0_placeOf_2 : decode cX0_placeOf 2 = .ok (.iload_n 2, 1) := by decide +kernel
theorem dX0_placeOf_3 : decode cX0_placeOf 3 = .ok (.aload_n 0, 1) := by decide +kernel
theorem dX0_placeOf_4 : decode cX0_placeOf 4 = .ok (.getfield 18, 3) := by decide +kernel
theorem dX0_placeOf_7 : decode cX0_placeOf 7 = .ok (.getfield 22, 3) := by decide +kernel
theorem dX0_placeOf_10 : decode cX0_placeOf 10 = .ok (.if_icmp .ge 21, 3) := by decide +kernel
theorem dX0_placeOf_13 : decode cX0_placeOf 13 = .ok (.aload_n 0, 1) := by decide +kernel
theorem dX0_placeOf_14 : decode cX0_placeOf 14 = .ok (.getfield 9, 3) := by decide +kernel
theorem dX0_placeOf_17 : decode cX0_placeOf 17 = .ok (.iload_n 2, 1) := by decide +kernel
theorem dX0_placeOf_18 : decode cX0_placeOf 18 = .ok (.iaload, 1) := by decide +kernel
theorem dX0_placeOf_19 : decode cX0_placeOf 19 = .ok (.iload_n 1, 1) := by decide +kernel
theorem dX0_placeOf_20 : decode cX0_placeOf 20 = .ok (.if_icmp .ne 5, 3) := by decide +kernel
theorem dX0_placeOf_23 : decode cX0_placeOf 23 = .ok (.iload_n 2, 1) := by decide +kernel
theorem dX0_placeOf_24 : decode cX0_placeOf 24 = .ok (.ireturn, 1) := by decide +kernel
theorem dX0_placeOf_25 : decode cX0_placeOf 25 = .ok (.iinc 2 1, 3) := by decide +kernel
theorem dX0_placeOf_28 : decode cX0_placeOf 28 = .ok (.goto (-26), 3) := by decide +kernel
theorem dX0_placeOf_31 : decode cX0_placeOf 31 = .ok (.iconst (-1), 1) := by decide +kernel
theorem dX0_placeOf_32 : decode cX0_placeOf 32 = .ok (.ireturn, 1) := by decide +kernel
theorem dX0_countGood_0 : decode cX0_countGood 0 = .ok (.iconst 1, 1) := by decide +kernel
theorem dX0_countGood_1 : decode cX0_countGood 1 = .ok (.aload_n 0, 1) := by decide +kernel
theorem dX0_countGood_2 : decode cX0_countGood 2 = .ok (.getfield 18, 3) := by decide +kernel
theorem dX0_countGood_5 : decode cX0_countGood 5 = .ok (.getfield 22, 3) := by decide +kernel
theorem dX0_countGood_8 : decode cX0_countGood 8 = .ok (.ishl, 1) := by decide +kernel
theorem dX0_countGood_9 : decode cX0_countGood 9 = .ok (.istore_n 1, 1) := by decide +kernel
theorem dX0_countGood_10 : decode cX0_countGood 10 = .ok (.aload_n 0, 1) := by decide +kernel
theorem dX0_countGood_11 : decode cX0_countGood 11 = .ok (.getfield 15, 3) := by decide +kernel
theorem dX0_countGood_14 : decode cX0_countGood 14 = .ok (.iconst 0, 1) := by decide +kernel
theorem dX0_countGood_15 : decode cX0_countGood 15 = .ok (.iconst 1, 1) := by decide +kernel
theorem dX0_countGood_16 : decode cX0_countGood 16 = .ok (.iastore, 1) := by decide +kernel
theorem dX0_countGood_17 : decode cX0_countGood 17 = .ok (.iconst 1, 1) := by decide +kernel
theorem dX0_countGood_18 : decode cX0_countGood 18 = .ok (.istore_n 2, 1) := by decide +kernel
theorem dX0_countGood_19 : decode cX0_countGood 19 = .ok (.iload_n 2, 1) := by decide +kernel
theorem dX0_countGood_20 : decode cX0_countGood 20 = .ok (.iload_n 1, 1) := by decide +kernel
theorem dX0_countGood_21 : decode cX0_countGood 21 = .ok (.if_icmp .ge 65, 3) := by decide +kernel
theorem dX0_countGood_24 : decode cX0_countGood 24 = .ok (.aload_n 0, 1) := by decide +kernel
theorem dX0_countGood_25 : decode cX0_countGood 25 = .ok (.getfield 15, 3) := by decide +kernel
theorem dX0_countGood_28 : decode cX0_countGood 28 = .ok (.iload_n 2, 1) := by decide +kernel
theorem dX0_countGood_29 : decode cX0_countGood 29 = .ok (.iconst 0, 1) := by decide +kernel
theorem dX0_countGood_30 : decode cX0_countGood 30 = .ok (.iastore, 1) := by decide +kernel
theorem dX0_countGood_31 : decode cX0_countGood 31 = .ok (.iconst 0, 1) := by decide +kernel
theorem dX0_countGood_32 : decode cX0_countGood 32 = .ok (.istore_n 3, 1) := by decide +kernel
theorem dX0_countGood_33 : decode cX0_countGood 33 = .ok (.iload_n 3, 1) := by decide +kernel
theorem dX0_countGood_34 : decode cX0_countGood 34 = .ok (.aload_n 0, 1) := by decide +kernel
theorem dX0_countGood_35 : decode cX0_countGood 35 = .ok (.getfield 18, 3) := by decide +kernel
theorem dX0_countGood_38 : decode cX0_countGood 38 = .ok (.getfield 22, 3) := by decide +kernel
theorem dX0_countGood_41 : decode cX0_countGood 41 = .ok (.if_icmp .ge 39, 3) := by decide +kernel
theorem dX0_countGood_44 : decode cX0_countGood 44 = .ok (.aload_n 0, 1) := by decide +kernel
theorem dX0_countGood_45 : decode cX0_countGood 45 = .ok (.iload_n 3, 1) := by decide +kernel
theorem dX0_countGood_46 : decode cX0_countGood 46 = .ok (.iload_n 2, 1) := by decide +kernel
theorem dX0_countGood_47 : decode cX0_countGood 47 = .ok (.invokevirtual 53, 3) := by decide +kernel
theorem dX0_countGood_50 : decode cX0_countGood 50 = .ok (.ifCond .eq 24, 3) := by decide +kernel
theorem dX0_countGood_53 : decode cX0_countGood 53 = .ok (.aload_n 0, 1) := by decide +kernel
theorem dX0_countGood_54 : decode cX0_countGood 54 = .ok (.getfield 15, 3) := by decide +kernel
theorem dX0_countGood_57 : decode cX0_countGood 57 = .ok (.iload_n 2, 1) := by decide +kernel
theorem dX0_countGood_58 : decode cX0_countGood 58 = .ok (.dup2, 1) := by decide +kernel
theorem dX0_countGood_59 : decode cX0_countGood 59 = .ok (.iaload, 1) := by decide +kernel
theorem dX0_countGood_60 : decode cX0_countGood 60 = .ok (.aload_n 0, 1) := by decide +kernel
theorem dX0_countGood_61 : decode cX0_countGood 61 = .ok (.getfield 15, 3) := by decide +kernel
theorem dX0_countGood_64 : decode cX0_countGood 64 = .ok (.iload_n 2, 1) := by decide +kernel
theorem dX0_countGood_65 : decode cX0_countGood 65 = .ok (.iconst 1, 1) := by decide +kernel
theorem dX0_countGood_66 : decode cX0_countGood 66 = .ok (.iload_n 3, 1) := by decide +kernel
theorem dX0_countGood_67 : decode cX0_countGood 67 = .ok (.ishl, 1) := by decide +kernel
theorem dX0_countGood_68 : decode cX0_countGood 68 = .ok (.iconst (-1), 1) := by decide +kernel
theorem dX0_countGood_69 : decode cX0_countGood 69 = .ok (.ixor, 1) := by decide +kernel
theorem dX0_countGood_70 : decode cX0_countGood 70 = .ok (.iand, 1) := by decide +kernel
theorem dX0_countGood_71 : decode cX0_countGood 71 = .ok (.iaload, 1) := by decide +kernel
theorem dX0_countGood_72 : decode cX0_countGood 72 = .ok (.iadd, 1) := by decide +kernel
theorem dX0_countGood_73 : decode cX0_countGood 73 = .ok (.iastore, 1) := by decide +kernel
theorem dX0_countGood_74 : decode cX0_countGood 74 = .ok (.iinc 3 1, 3) := by decide +kernel
theorem dX0_countGood_77 : decode cX0_countGood 77 = .ok (.goto (-44), 3) := by decide +kernel
theorem dX0_countGood_80 : decode cX0_countGood 80 = .ok (.iinc 2 1, 3) := by decide +kernel
theorem dX0_countGood_83 : decode cX0_countGood 83 = .ok (.goto (-64), 3) := by decide +kernel
theorem dX0_countGood_86 : decode cX0_countGood 86 = .ok (.aload_n 0, 1) := by decide +kernel
theorem dX0_countGood_87 : decode cX0_countGood 87 = .ok (.getfield 15, 3) := by decide +kernel
theorem dX0_countGood_90 : decode cX0_countGood 90 = .ok (.iload_n 1, 1) := by decide +kernel
theorem dX0_countGood_91 : decode cX0_countGood 91 = .ok (.iconst 1, 1) := by decide +kernel
theorem dX0_countGood_92 : decode cX0_countGood 92 = .ok (.isub, 1) := by decide +kernel
theorem dX0_countGood_93 : decode cX0_countGood 93 = .ok (.iaload, 1) := by decide +kernel
theorem dX0_countGood_94 : decode cX0_countGood 94 = .ok (.ireturn, 1) := by decide +kernel
theorem dX0_canBeLast_0 : decode cX0_canBeLast 0 = .ok (.aload_n 0, 1) := by decide +kernel
theorem dX0_canBeLast_1 : decode cX0_canBeLast 1 = .ok (.getfield 18, 3) := by decide +kernel
theorem dX0_canBeLast_4 : decode cX0_canBeLast 4 = .ok (.getfield 39, 3) := by decide +kernel
theorem dX0_canBeLast_7 : decode cX0_canBeLast 7 = .ok (.iload_n 1, 1) := by decide +kernel
theorem dX0_canBeLast_8 : decode cX0_canBeLast 8 = .ok (.iaload, 1) := by decide +kernel
theorem dX0_canBeLast_9 : decode cX0_canBeLast 9 = .ok (.istore_n 3, 1) := by decide +kernel
theorem dX0_canBeLast_10 : decode cX0_canBeLast 10 = .ok (.iload_n 1, 1) := by decide +kernel
theorem dX0_canBeLast_11 : decode cX0_canBeLast 11 = .ok (.iload_n 2, 1) := by decide +kernel
theorem dX0_canBeLast_12 : decode cX0_canBeLast 12 = .ok (.invokestatic 32, 3) := by decide +kernel
theorem dX0_canBeLast_15 : decode cX0_canBeLast 15 = .ok (.ifCond .eq 20, 3) := by decide +kernel
theorem dX0_canBeLast_18 : decode cX0_canBeLast 18 = .ok (.iload_n 3, 1) := by decide +kernel
theorem dX0_canBeLast_19 : decode cX0_canBeLast 19 = .ok (.iconst (-1), 1) := by decide +kernel
theorem dX0_canBeLast_20 : decode cX0_canBeLast 20 = .ok (.if_icmp .eq 11, 3) := by decide +kernel
theorem dX0_canBeLast_23 : decode cX0_canBeLast 23 = .ok (.iload_n 3, 1) := by decide +kernel
theorem dX0_canBeLast_24 : decode cX0_canBeLast 24 = .ok (.iload_n 2, 1) := by decide +kernel
theorem dX0_canBeLast_25 : decode cX0_canBeLast 25 = .ok (.invokestatic 32, 3) := by decide +kernel
theorem dX0_canBeLast_28 : decode cX0_canBeLast 28 = .ok (.ifCond .ne 7, 3) := by decide +kernel
theorem dX0_canBeLast_31 : decode cX0_canBeLast 31 = .ok (.iconst 1, 1) := by decide +kernel
theorem dX0_canBeLast_32 : decode cX0_canBeLast 32 = .ok (.goto 4, 3) := by decide +kernel
theorem dX0_canBeLast_35 : decode cX0_canBeLast 35 = .ok (.iconst 0, 1) := by decide +kernel
theorem dX0_canBeLast_36 : decode cX0_canBeLast 36 = .ok (.ireturn, 1) := by decide +kernel
theorem dX1_init_0 : decode cX1_init 0 = .ok (.aload_n 0, 1) := by decide +kernel
theorem dX1_init_1 : decode cX1_init 1 = .ok (.invokespecial 3, 3) := by decide +kernel
theorem dX1_init_4 : decode cX1_init 4 = .ok (.aload_n 0, 1) := by decide +kernel
theorem dX1_init_5 : decode cX1_init 5 = .ok (.bipush 65, 2) := by decide +kernel
theorem dX1_init_7 : decode cX1_init 7 = .ok (.newarray .int, 2) := by decide +kernel
theorem dX1_init_9 : decode cX1_init 9 = .ok (.putfield 9, 3) := by decide +kernel
theorem dX1_init_12 : decode cX1_init 12 = .ok (.aload_n 0, 1) := by decide +kernel
theorem dX1_init_13 : decode cX1_init 13 = .ok (.bipush 8, 2) := by decide +kernel
theorem dX1_init_15 : decode cX1_init 15 = .ok (.newarray .int, 2) := by decide +kernel
theorem dX1_init_17 : decode cX1_init 17 = .ok (.putfield 15, 3) := by decide +kernel
theorem dX1_init_20 : decode cX1_init 20 = .ok (.aload_n 0, 1) := by decide +kernel
theorem dX1_init_21 : decode cX1_init 21 = .ok (.sipush 195, 3) := by decide +kernel
theorem dX1_init_24 : decode cX1_init 24 = .ok (.newarray .int, 2) := by decide +kernel
theorem dX1_init_26 : decode cX1_init 26 = .ok (.putfield 18, 3) := by decide +kernel
theorem dX1_init_29 : decode cX1_init 29 = .ok (.aload_n 0, 1) := by decide +kernel
theorem dX1_init_30 : decode cX1_init 30 = .ok (.bipush 65, 2) := by decide +kernel
theorem dX1_init_32 : decode cX1_init 32 = .ok (.newarray .int, 2) := by decide +kernel
theorem dX1_init_34 : decode cX1_init 34 = .ok (.putfield 21, 3) := by decide +kernel
theorem dX1_init_37 : decode cX1_init 37 = .ok (.aload_n 0, 1) := by decide +kernel
theorem dX1_init_38 : decode cX1_init 38 = .ok (.aload_n 1, 1) := by decide +kernel
theorem dX1_init_39 : decode cX1_init 39 = .ok (.putfield 24, 3) := by decide +kernel
theorem dX1_init_42 : decode cX1_init 42 = .ok (.aload_n 0, 1) := by decide +kernel
theorem dX1_init_43 : decode cX1_init 43 = .ok (.aload_n 2, 1) := by decide +kernel
theorem dX1_init_44 : decode cX1_init 44 = .ok (.putfield 28, 3) := by decide +kernel
theorem dX1_init_47 : decode cX1_init 47 = .ok (.aload_n 0, 1) := by decide +kernel
theorem dX1_init_48 : decode cX1_init 48 = .ok (.aload_n 3, 1) := by decide +kernel
theorem dX1_init_49 : decode cX1_init 49 = .ok (.putfield 32, 3) := by decide +kernel
theorem dX1_init_52 : decode cX1_init 52 = .ok (.return_, 1) := by decide +kernel
theorem dX1_takeOpen_0 : decode cX1_takeOpen 0 = .ok (.aload_n 0, 1) := by decide +kernel
theorem dX1_takeOpen_1 : decode cX1_takeOpen 1 = .ok (.getfield 15, 3) := by decide +kernel
theorem dX1_takeOpen_4 : decode cX1_takeOpen 4 = .ok (.iconst 0, 1) := by decide +kernel
theorem dX1_takeOpen_5 : decode cX1_takeOpen 5 = .ok (.invokestatic 36, 3) := by decide +kernel
theorem dX1_takeOpen_8 : decode cX1_takeOpen 8 = .ok (.aload_n 0, 1) := by decide +kernel
theorem dX1_takeOpen_9 : decode cX1_takeOpen 9 = .ok (.getfield 15, 3) := by decide +kernel
theorem dX1_takeOpen_12 : decode cX1_takeOpen 12 = .ok (.iconst 0, 1) := by decide +kernel
theorem dX1_takeOpen_13 : decode cX1_takeOpen 13 = .ok (.iconst 1, 1) := by decide +kernel
theorem dX1_takeOpen_14 : decode cX1_takeOpen 14 = .ok (.iastore, 1) := by decide +kernel
theorem dX1_takeOpen_15 : decode cX1_takeOpen 15 = .ok (.iconst 1, 1) := by decide +kernel
theorem dX1_takeOpen_16 : decode cX1_takeOpen 16 = .ok (.aload_n 0, 1) := by decide +kernel
theorem dX1_takeOpen_17 : decode cX1_takeOpen 17 = .ok (.getfield 24, 3) := by decide +kernel
theorem dX1_takeOpen_20 : decode cX1_takeOpen 20 = .ok (.getfield 42, 3) := by decide +kernel
theorem dX1_takeOpen_23 : decode cX1_takeOpen 23 = .ok (.ishl, 1) := by decide +kernel
theorem dX1_takeOpen_24 : decode cX1_takeOpen 24 = .ok (.istore_n 1, 1) := by decide +kernel
theorem dX1_takeOpen_25 : decode cX1_takeOpen 25 = .ok (.iconst 0, 1) := by decide +kernel
theorem dX1_takeOpen_26 : decode cX1_takeOpen 26 = .ok (.istore_n 2, 1) := by decide +kernel
theorem dX1_takeOpen_27 : decode cX1_takeOpen 27 = .ok (.iload_n 2, 1) := by decide +kernel
theorem dX1_takeOpen_28 : decode cX1_takeOpen 28 = .ok (.iload_n 1, 1) := by decide +kernel
theorem dX1_takeOpen_29 : decode cX1_takeOpen 29 = .ok (.if_icmp .ge 37, 3) := by decide +kernel
theorem dX1_takeOpen_32 : decode cX1_takeOpen 32 = .ok (.aload_n 0, 1) := by decide +kernel
theorem dX1_takeOpen_33 : decode cX1_takeOpen 33 = .ok (.getfield 32, 3) := by decide +kernel
theorem dX1_takeOpen_36 : decode cX1_takeOpen 36 = .ok (.getfield 48, 3) := by decide +kernel
theorem dX1_takeOpen_39 : decode cX1_takeOpen 39 = .ok (.iload_n 2, 1) := by decide +kernel
theorem dX1_takeOpen_40 : decode cX1_takeOpen 40 = .ok (.iaload, 1) := by decide +kernel
theorem dX1_takeOpen_41 : decode cX1_takeOpen 41 = .ok (.istore_n 3, 1) := by decide +kernel
theorem dX1_takeOpen_42 : decode cX1_takeOpen 42 = .ok (.aload_n 0, 1) := by decide +kernel
theorem dX1_takeOpen_43 : decode cX1_takeOpen 43 = .ok (.getfield 15, 3) := by decide +kernel
theorem dX1_takeOpen_46 : decode cX1_takeOpen 46 = .ok (.iload_n 3, 1) := by decide +kernel
theorem dX1_takeOpen_47 : decode cX1_takeOpen 47 = .ok (.bipush 32, 2) := by decide +kernel
theorem dX1_takeOpen_49 : decode cX1_takeOpen 49 = .ok (.idiv, 1) := by decide +kernel
theorem dX1_takeOpen_50 : decode cX1_takeOpen 50 = .ok (.dup2, 1) := by decide +kernel
theorem dX1_takeOpen_51 : decode cX1_takeOpen 51 = .ok (.iaload, 1) := by decide +kernel
theorem dX1_takeOpen_52 : decode cX1_takeOpen 52 = .ok (.iconst 1, 1) := by decide +kernel
theorem dX1_takeOpen_53 : decode cX1_takeOpen 53 = .ok (.iload_n 3, 1) := by decide +kernel
theorem dX1_takeOpen_54 : decode cX1_takeOpen 54 = .ok (.bipush 32, 2) := by decide +kernel
theorem dX1_takeOpen_56 : decode cX1_takeOpen 56 = .ok (.irem, 1) := by decide +kernel
theorem dX1_takeOpen_57 : decode cX1_takeOpen 57 = .ok (.ishl, 1) := by decide +kernel
theorem dX1_takeOpen_58 : decode cX1_takeOpen 58 = .ok (.ior, 1) := by decide +kernel
theorem dX1_takeOpen_59 : decode cX1_takeOpen 59 = .ok (.iastore, 1) := by decide +kernel
theorem dX1_takeOpen_60 : decode cX1_takeOpen 60 = .ok (.iinc 2 1, 3) := by decide +kernel
theorem dX1_takeOpen_63 : decode cX1_takeOpen 63 = .ok (.goto (-36), 3) := by decide +kernel
theorem dX1_takeOpen_66 : decode cX1_takeOpen 66 = .ok (.aload_n 0, 1) := by decide +kernel
theorem dX1_takeOpen_67 : decode cX1_takeOpen 67 = .ok (.iconst 0, 1) := by decide +kernel
theorem dX1_takeOpen_68 : decode cX1_takeOpen 68 = .ok (.putfield 53, 3) := by decide +kernel
theorem dX1_takeOpen_71 : decode cX1_takeOpen 71 = .ok (.iconst 0, 1) := by decide +kernel
theorem dX1_takeOpen_72 : decode cX1_takeOpen 72 = .ok (.istore_n 2, 1) := by decide +kernel
theorem dX1_takeOpen_73 : decode cX1_takeOpen 73 = .ok (.iload_n 2, 1) := by decide +kernel
theorem dX1_takeOpen_74 : decode cX1_takeOpen 74 = .ok (.sipush 256, 3) := by decide +kernel
theorem dX1_takeOpen_77 : decode cX1_takeOpen 77 = .ok (.if_icmp .ge 57, 3) := by decide +kernel
theorem dX1_takeOpen_80 : decode cX1_takeOpen 80 = .ok (.aload_n 0, 1) := by decide +kernel
theorem dX1_takeOpen_81 : decode cX1_takeOpen 81 = .ok (.getfield 53, 3) := by decide +kernel
theorem dX1_takeOpen_84 : decode cX1_takeOpen 84 = .ok (.bipush 65, 2) := by decide +kernel
theorem dX1_takeOpen_86 : decode cX1_takeOpen 86 = .ok (.if_icmp .ge 48, 3) := by decide +kernel
theorem dX1_takeOpen_89 : decode cX1_takeOpen 89 = .ok (.iload_n 2, 1) := by decide +kernel
theorem dX1_takeOpen_90 : decode cX1_takeOpen 90 = .ok (.bipush 32, 2) := by decide +kernel
theorem dX1_takeOpen_92 : decode cX1_takeOpen 92 = .ok (.irem, 1) := by decide +kernel
theorem dX1_takeOpen_93 : decode cX1_takeOpen 93 = .ok (.aload_n 0, 1) := by decide +kernel
theorem dX1_takeOpen_94 : decode cX1_takeOpen 94 = .ok (.getfield 15, 3) := by decide +kernel
theorem dX1_takeOpen_97 : decode cX1_takeOpen 97 = .ok (.iload_n 2, 1) := by decide +kernel
theorem dX1_takeOpen_98 : decode cX1_takeOpen 98 = .ok (.bipush 32, 2) := by decide +kernel
theorem dX1_takeOpen_100 : decode cX1_takeOpen 100 = .ok (.idiv, 1) := by decide +kernel
theorem dX1_takeOpen_101 : decode cX1_takeOpen 101 = .ok (.iaload, 1) := by decide +kernel
theorem dX1_takeOpen_102 : decode cX1_takeOpen 102 = .ok (.invokestatic 56, 3) := by decide +kernel
theorem dX1_takeOpen_105 : decode cX1_takeOpen 105 = .ok (.ifCond .eq 23, 3) := by decide +kernel
theorem dX1_takeOpen_108 : decode cX1_takeOpen 108 = .ok (.aload_n 0, 1) := by decide +kernel
theorem dX1_takeOpen_109 : decode cX1_takeOpen 109 = .ok (.getfield 9, 3) := by decide +kernel
theorem dX1_takeOpen_112 : decode cX1_takeOpen 112 = .ok (.aload_n 0, 1) := by decide +kernel
theorem dX1_takeOpen_113 : decode cX1_takeOpen 113 = .ok (.getfield 53, 3) := by decide +kernel
theorem dX1_takeOpen_116 : decode cX1_takeOpen 116 = .ok (.iload_n 2, 1) := by decide +kernel
theorem dX1_takeOpen_117 : decode cX1_takeOpen 117 = .ok (.iastore, 1) := by decide +kernel
theorem dX1_takeOpen_118 : decode cX1_takeOpen 118 = .ok (.aload_n 0, 1) := by decide +kernel
theorem dX1_takeOpen_119 : decode cX1_takeOpen 119 = .ok (.dup, 1) := by decide +kernel
theorem dX1_takeOpen_120 : decode cX1_takeOpen 120 = .ok (.getfield 53, 3) := by decide +kernel
theorem dX1_takeOpen_123 : decode cX1_takeOpen 123 = .ok (.iconst 1, 1) := by decide +kernel
theorem dX1_takeOpen_124 : decode cX1_takeOpen 124 = .ok (.iadd, 1) := by decide +kernel
theorem dX1_takeOpen_125 : decode cX1_takeOpen 125 = .ok (.putfield 53, 3) := by decide +kernel
theorem dX1_takeOpen_128 : decode cX1_takeOpen 128 = .ok (.iinc 2 1, 3) := by decide +kernel
theorem dX1_takeOpen_131 : decode cX1_takeOpen 131 = .ok (.goto (-58), 3) := by decide +kernel
theorem dX1_takeOpen_134 : decode cX1_takeOpen 134 = .ok (.aload_n 0, 1) := by decide +kernel
theorem dX1_takeOpen_135 : decode cX1_takeOpen 135 = .ok (.invokevirtual 60, 3) := by decide +kernel
theorem dX1_takeOpen_138 : decode cX1_takeOpen 138 = .ok (.return_, 1) := by decide +kernel
theorem dX1_forgetBeaten_0 : decode cX1_forgetBeaten 0 = .ok (.aload_n 0, 1) := by decide +kernel
theorem dX1_forgetBeaten_1 : decode cX1_forgetBeaten 1 = .ok (.iconst 0, 1) := by decide +kernel
theorem dX1_forgetBeaten_2 : decode cX1_forgetBeaten 2 = .ok (.putfield 63, 3) := by decide +kernel
theorem dX1_forgetBeaten_5 : decode cX1_forgetBeaten 5 = .ok (.return_, 1) := by decide +kernel
theorem dX1_indexOf_0 : decode cX1_indexOf 0 = .ok (.iconst 0, 1) := by decide +kernel
theorem dX1_indexOf_1 : decode cX1_indexOf 1 = .ok (.istore_n 2, 1) := by decide +kernel
theorem dX1_indexOf_2 : decode cX1_indexOf 2 = .ok (.iload_n 2, 1) := by decide +kernel
theorem dX1_indexOf_3 : decode cX1_indexOf 3 = .ok (.aload_n 0, 1) := by decide +kernel
theorem dX1_indexOf_4 : decode cX1_indexOf 4 = .ok (.getfield 53, 3) := by decide +kernel
theorem dX1_indexOf_7 : decode cX1_indexOf 7 = .ok (.if_icmp .ge 21, 3) := by decide +kernel
theorem dX1_indexOf_10 : decode cX1_indexOf 10 = .ok (.aload_n 0, 1) := by decide +kernel
theorem dX1_indexOf_11 : decode cX1_indexOf 11 = .ok (.getfield 9, 3) := by decide +kernel
theorem dX1_indexOf_14 : decode cX1_indexOf 14 = .ok (.iload_n 2, 1) := by decide +kernel
theorem dX1_indexOf_15 : decode cX1_indexOf 15 = .ok (.iaload, 1) := by decide +kernel
theorem dX1_indexOf_16 : decode cX1_indexOf 16 = .ok (.iload_n 1, 1) := by decide +kernel
theorem dX1_indexOf_17 : decode cX1_indexOf 17 = .ok (.if_icmp .ne 5, 3) := by decide +kernel
theorem dX1_indexOf_20 : decode cX1_indexOf 20 = .ok (.iload_n 2, 1) := by decide +kernel
theorem dX1_indexOf_21 : decode cX1_indexOf 21 = .ok (.ireturn, 1) := by decide +kernel
theorem dX1_indexOf_22 : decode cX1_indexOf 22 = .ok (.iinc 2 1, 3) := by decide +kernel
theorem dX1_indexOf_25 : decode cX1_indexOf 25 = .ok (.goto (-23), 3) := by decide +kernel
theorem dX1_indexOf_28 : decode cX1_indexOf 28 = .ok (.iconst (-1), 1) := by decide +kernel
theorem dX1_indexOf_29 : decode cX1_indexOf 29 = .ok (.ireturn, 1) := by decide +kernel
theorem dX1_learnBeaten_0 : decode cX1_learnBeaten 0 = .ok (.aload_n 0, 1) := by decide +kernel
theorem dX1_learnBeaten_1 : decode cX1_learnBeaten 1 = .ok (.getfield 63, 3) := by decide +kernel
theorem dX1_learnBeaten_4 : decode cX1_learnBeaten 4 = .ok (.ifCond .eq 4, 3) := by decide +kernel
theorem dX1_learnBeaten_7 : decode cX1_learnBeaten 7 = .ok (.return_, 1) := by decide +kernel
theorem dX1_learnBeaten_8 : decode cX1_learnBeaten 8 = .ok (.aload_n 0, 1) := by decide +kernel
theorem dX1_learnBeaten_9 : decode cX1_learnBeaten 9 = .ok (.getfield 18, 3) := by decide +kernel
theorem dX1_learnBeaten_12 : decode cX1_learnBeaten 12 = .ok (.iconst 0, 1) := by decide +kernel
theorem dX1_learnBeaten_13 : decode cX1_learnBeaten 13 = .ok (.invokestatic 36, 3) := by decide +kernel
theorem dX1_learnBeaten_16 : decode cX1_learnBeaten 16 = .ok (.iconst 0, 1) := by decide +kernel
theorem dX1_learnBeaten_17 : decode cX1_learnBeaten 17 = .ok (.istore_n 1, 1) := by decide +kernel
theorem dX1_learnBeaten_18 : decode cX1_learnBeaten 18 = .ok (.iload_n 1, 1) := by decide +kernel
theorem dX1_learnBeaten_19 : decode cX1_learnBeaten 19 = .ok (.aload_n 0, 1) := by decide +kernel
theorem dX1_learnBeaten_20 : decode cX1_learnBeaten 20 = .ok (.getfield 53, 3) := by decide +kernel
theorem dX1_learnBeaten_23 : decode cX1_learnBeaten 23 = .ok (.if_icmp .ge 28, 3) := by decide +kernel
theorem dX1_learnBeaten_26 : decode cX1_learnBeaten 26 = .ok (.iconst 0, 1) := by decide +kernel
theorem dX1_learnBeaten_27 : decode cX1_learnBeaten 27 = .ok (.istore_n 2, 1) := by decide +kernel
theorem dX1_learnBeaten_28 : decode cX1_learnBeaten 28 = .ok (.iload_n 2, 1) := by decide +kernel
theorem dX1_learnBeaten_29 : decode cX1_learnBeaten 29 = .ok (.iload_n 1, 1) := by decide +kernel
theorem dX1_learnBeaten_30 : decode cX1_learnBeaten 30 = .ok (.if_icmp .ge 15, 3) := by decide +kernel
theorem dX1_learnBeaten_33 : decode cX1_learnBeaten 33 = .ok (.aload_n 0, 1) := by decide +kernel
theorem dX1_learnBeaten_34 : decode cX1_learnBeaten 34 = .ok (.iload_n 1, 1) := by decide +kernel
theorem dX1_learnBeaten_35 : decode cX1_learnBeaten 35 = .ok (.iload_n 2, 1) := by decide +kernel
theorem dX1_learnBeaten_36 : decode cX1_learnBeaten 36 = .ok (.invokevirtual 67, 3) := by decide +kernel
theorem dX1_learnBeaten_39 : decode cX1_learnBeaten 39 = .ok (.iinc 2 1, 3) := by decide +kernel
theorem dX1_learnBeaten_42 : decode cX1_learnBeaten 42 = .ok (.goto (-14), 3) := by decide +kernel
theorem dX1_learnBeaten_45 : decode cX1_learnBeaten 45 = .ok (.iinc 1 1, 3) := by decide +kernel
theorem dX1_learnBeaten_48 : decode cX1_learnBeaten 48 = .ok (.goto (-30), 3) := by decide +kernel
theorem dX1_learnBeaten_51 : decode cX1_learnBeaten 51 = .ok (.aload_n 0, 1) := by decide +kernel
theorem dX1_learnBeaten_52 : decode cX1_learnBeaten 52 = .ok (.invokevirtual 71, 3) := by decide +kernel
theorem dX1_learnBeaten_55 : decode cX1_learnBeaten 55 = .ok (.aload_n 0, 1) := by decide +kernel
theorem dX1_learnBeaten_56 : decode cX1_learnBeaten 56 = .ok (.iconst 1, 1) := by decide +kernel
theorem dX1_learnBeaten_57 : decode cX1_learnBeaten 57 = .ok (.putfield 63, 3) := by decide +kernel
theorem dX1_learnBeaten_60 : decode cX1_learnBeaten 60 = .ok (.return_, 1) := by decide +kernel
theorem dX1_learnPair_0 : decode cX1_learnPair 0 = .ok (.aload_n 0, 1) := by decide +kernel
theorem dX1_learnPair_1 : decode cX1_learnPair 1 = .ok (.getfield 28, 3) := by decide +kernel
theorem dX1_learnPair_4 : decode cX1_learnPair 4 = .ok (.aload_n 0, 1) := by decide +kernel
theorem dX1_learnPair_5 : decode cX1_learnPair 5 = .ok (.getfield 9, 3) := by decide +kernel
theorem dX1_learnPair_8 : decode cX1_learnPair 8 = .ok (.iload_n 1, 1) := by decide +kernel
theorem dX1_learnPair_9 : decode cX1_learnPair 9 = .ok (.iaload, 1) := by decide +kernel
theorem dX1_learnPair_10 : decode cX1_learnPair 10 = .ok (.aload_n 0, 1) := by decide +kernel
theorem dX1_learnPair_11 : decode cX1_learnPair 11 = .ok (.getfield 9, 3) := by decide +kernel
theorem dX1_learnPair_14 : decode cX1_learnPair 14 = .ok (.iload_n 2, 1) := by decide +kernel
theorem dX1_learnPair_15 : decode cX1_learnPair 15 = .ok (.iaload, 1) := by decide +kernel
theorem dX1_learnPair_16 : decode cX1_learnPair 16 = .ok (.invokevirtual 74, 3) := by decide +kernel
theorem dX1_learnPair_19 : decode cX1_learnPair 19 = .ok (.aload_n 0, 1) := by decide +kernel
theorem dX1_learnPair_20 : decode cX1_learnPair 20 = .ok (.getfield 28, 3) := by decide +kernel
theorem dX1_learnPair_23 : decode cX1_learnPair 23 = .ok (.aload_n 0, 1) := by decide +kernel
theorem dX1_learnPair_24 : decode cX1_learnPair 24 = .ok (.getfield 9, 3) := by decide +kernel
theorem dX1_learnPair_27 : decode cX1_learnPair 27 = .ok (.iload_n 2, 1) := by decide +kernel
theorem dX1_learnPair_28 : decode cX1_learnPair 28 = .ok (.iaload, 1) := by decide +kernel
theorem dX1_learnPair_29 : decode cX1_learnPair 29 = .ok (.aload_n 0, 1) := by decide +kernel
theorem dX1_learnPair_30 : decode cX1_learnPair 30 = .ok (.getfield 9, 3) := by decide +kernel
theorem dX1_learnPair_33 : decode cX1_learnPair 33 = .ok (.iload_n 1, 1) := by decide +kernel
theorem dX1_learnPair_34 : decode cX1_learnPair 34 = .ok (.iaload, 1) := by decide +kernel
theorem dX1_learnPair_35 : decode cX1_learnPair 35 = .ok (.invokevirtual 74, 3) := by decide +kernel
theorem dX1_learnPair_38 : decode cX1_learnPair 38 = .ok (.isub, 1) := by decide +kernel
theorem dX1_learnPair_39 : decode cX1_learnPair 39 = .ok (.istore_n 3, 1) := by decide +kernel
theorem dX1_learnPair_40 : decode cX1_learnPair 40 = .ok (.iload_n 3, 1) := by decide +kernel
theorem dX1_learnPair_41 : decode cX1_learnPair 41 = .ok (.ifCond .le 12, 3) := by decide +kernel
theorem dX1_learnPair_44 : decode cX1_learnPair 44 = .ok (.aload_n 0, 1) := by decide +kernel
theorem dX1_learnPair_45 : decode cX1_learnPair 45 = .ok (.iload_n 1, 1) := by decide +kernel
theorem dX1_learnPair_46 : decode cX1_learnPair 46 = .ok (.iload_n 2, 1) := by decide +kernel
theorem dX1_learnPair_47 : decode cX1_learnPair 47 = .ok (.invokevirtual 80, 3) := by decide +kernel
theorem dX1_learnPair_50 : decode cX1_learnPair 50 = .ok (.goto 13, 3) := by decide +kernel
theorem dX1_learnPair_53 : decode cX1_learnPair 53 = .ok (.iload_n 3, 1) := by decide +kernel
theorem dX1_learnPair_54 : decode cX1_learnPair 54 = .ok (.ifCond .ge 9, 3) := by decide +kernel
theorem dX1_learnPair_57 : decode cX1_learnPair 57 = .ok (.aload_n 0, 1) := by decide +kernel
theorem dX1_learnPair_58 : decode cX1_learnPair 58 = .ok (.iload_n 2, 1) := by decide +kernel
theorem dX1_learnPair_59 : decode cX1_learnPair 59 = .ok (.iload_n 1, 1) := by decide +kernel
theorem dX1_learnPair_60 : decode cX1_learnPair 60 = .ok (.invokevirtual 80, 3) := by decide +kernel
theorem dX1_learnPair_63 : decode cX1_learnPair 63 = .ok (.return_, 1) := by decide +kernel
theorem dX1_markBeaten_0 : decode cX1_markBeaten 0 = .ok (.aload_n 0, 1) := by decide +kernel
theorem dX1_markBeaten_1 : decode cX1_markBeaten 1 = .ok (.getfield 18, 3) := by decide +kernel
theorem dX1_markBeaten_4 : decode cX1_markBeaten 4 = .ok (.iload_n 1, 1) := by decide +kernel
theorem dX1_markBeaten_5 : decode cX1_markBeaten 5 = .ok (.iconst 3, 1) := by decide +kernel
theorem dX1_markBeaten_6 : decode cX1_markBeaten 6 = .ok (.imul, 1) := by decide +kernel
theorem dX1_markBeaten_7 : decode cX1_markBeaten 7 = .ok (.iload_n 2, 1) := by decide +kernel
theorem dX1_markBeaten_8 : decode cX1_markBeaten 8 = .ok (.bipush 32, 2) := by decide +kernel
theorem dX1_markBeaten_10 : decode cX1_markBeaten 10 = .ok (.idiv, 1) := by decide +kernel
theorem dX1_markBeaten_11 : decode cX1_markBeaten 11 = .ok (.iadd, 1) := by decide +kernel
theorem dX1_markBeaten_12 : decode cX1_markBeaten 12 = .ok (.dup2, 1) := by decide +kernel
theorem dX1_markBeaten_13 : decode cX1_markBeaten 13 = .ok (.iaload, 1) := by decide +kernel
theorem dX1_markBeaten_14 : decode cX1_markBeaten 14 = .ok (.iconst 1, 1) := by decide +kernel
theorem dX1_markBeaten_15 : decode cX1_markBeaten 15 = .ok (.iload_n 2, 1) := by decide +kernel
theorem dX1_markBeaten_16 : decode cX1_markBeaten 16 = .ok (.bipush 32, 2) := by decide +kernel
theorem dX1_markBeaten_18 : decode cX1_markBeaten 18 = .ok (.irem, 1) := by decide +kernel
theorem dX1_markBeaten_19 : decode cX1_markBeaten 19 = .ok (.ishl, 1) := by decide +kernel
theorem dX1_markBeaten_20 : decode cX1_markBeaten 20 = .ok (.ior, 1) := by decide +kernel
theorem dX1_markBeaten_21 : decode cX1_markBeaten 21 = .ok (.iastore, 1) := by decide +kernel
theorem dX1_markBeaten_22 : decode cX1_markBeaten 22 = .ok (.return_, 1) := by decide +kernel
theorem dX1_isBeaten_0 : decode cX1_isBeaten 0 = .ok (.iload_n 2, 1) := by decide +kernel
theorem dX1_isBeaten_1 : decode cX1_isBeaten 1 = .ok (.bipush 32, 2) := by decide +kernel
theorem dX1_isBeaten_3 : decode cX1_isBeaten 3 = .ok (.irem, 1) := by decide +kernel
theorem dX1_isBeaten_4 : decode cX1_isBeaten 4 = .ok (.aload_n 0, 1) := by decide +kernel
theorem dX1_isBeaten_5 : decode cX1_isBeaten 5 = .ok (.getfield 18, 3) := by decide +kernel
theorem dX1_isBeaten_8 : decode cX1_isBeaten 8 = .ok (.iload_n 1, 1) := by decide +kernel
theorem dX1_isBeaten_9 : decode cX1_isBeaten 9 = .ok (.iconst 3, 1) := by decide +kernel
theorem dX1_isBeaten_10 : decode cX1_isBeaten 10 = .ok (.imul, 1) := by decide +kernel
theorem dX1_isBeaten_11 : decode cX1_isBeaten 11 = .ok (.iload_n 2, 1) := by decide +kernel
theorem dX1_isBeaten_12 : decode cX1_isBeaten 12 = .ok (.bipush 32, 2) := by decide +kernel
theorem dX1_isBeaten_14 : decode cX1_isBeaten 14 = .ok (.idiv, 1) := by decide +kernel
theorem dX1_isBeaten_15 : decode cX1_isBeaten 15 = .ok (.iadd, 1) := by decide +kernel
theorem dX1_isBeaten_16 : decode cX1_isBeaten 16 = .ok (.iaload, 1) := by decide +kernel
theorem dX1_isBeaten_17 : decode cX1_isBeaten 17 = .ok (.invokestatic 56, 3) := by decide +kernel
theorem dX1_isBeaten_20 : decode cX1_isBeaten 20 = .ok (.ireturn, 1) := by decide +kernel
theorem dX1_countBeaten_0 : decode cX1_countBeaten 0 = .ok (.iconst 0, 1) := by decide +kernel
theorem dX1_countBeaten_1 : decode cX1_countBeaten 1 = .ok (.istore_n 2, 1) := by decide +kernel
theorem dX1_countBeaten_2 : decode cX1_countBeaten 2 = .ok (.iconst 0, 1) := by decide +kernel
theorem dX1_countBeaten_3 : decode cX1_countBeaten 3 = .ok (.istore_n 3, 1) := by decide +kernel
theorem dX1_countBeaten_4 : decode cX1_countBeaten 4 = .ok (.iload_n 3, 1) := by decide +kernel
theorem dX1_countBeaten_5 : decode cX1_countBeaten 5 = .ok (.iconst 3, 1) := by decide +kernel
theorem dX1_countBeaten_6 : decode cX1_countBeaten 6 = .ok (.if_icmp .ge 25, 3) := by decide +kernel
theorem dX1_countBeaten_9 : decode cX1_countBeaten 9 = .ok (.iload_n 2, 1) := by decide +kernel
theorem dX1_countBeaten_10 : decode cX1_countBeaten 10 = .ok (.aload_n 0, 1) := by decide +kernel
theorem dX1_countBeaten_11 : decode cX1_countBeaten 11 = .ok (.getfield 18, 3) := by decide +kernel
theorem dX1_countBeaten_14 : decode cX1_countBeaten 14 = .ok (.iload_n 1, 1) := by decide +kernel
theorem dX1_countBeaten_15 : decode cX1_countBeaten 15 = .ok (.iconst 3, 1) := by decide +kernel
theorem dX1_countBeaten_16 : decode cX1_countBeaten 16 = .ok (.imul, 1) := by decide +kernel
theorem dX1_countBeaten_17 : decode cX1_countBeaten 17 = .ok (.iload_n 3, 1) := by decide +kernel
theorem dX1_countBeaten_18 : decode cX1_countBeaten 18 = .ok (.iadd, 1) := by decide +kernel
theorem dX1_countBeaten_19 : decode cX1_countBeaten 19 = .ok (.iaload, 1) := by decide +kernel
theorem dX1_countBeaten_20 : decode cX1_countBeaten 20 = .ok (.invokestatic 83, 3) := by decide +kernel
theorem dX1_countBeaten_23 : decode cX1_countBeaten 23 = .ok (.iadd, 1) := by decide +kernel
theorem dX1_countBeaten_24 : decode cX1_countBeaten 24 = .ok (.istore_n 2, 1) := by decide +kernel
theorem dX1_countBeaten_25 : decode cX1_countBeaten 25 = .ok (.iinc 3 1, 3) := by decide +kernel
theorem dX1_countBeaten_28 : decode cX1_countBeaten 28 = .ok (.goto (-24), 3) := by decide +kernel
theorem dX1_countBeaten_31 : decode cX1_countBeaten 31 = .ok (.iload_n 2, 1) := by decide +kernel
theorem dX1_countBeaten_32 : decode cX1_countBeaten 32 = .ok (.ireturn, 1) := by decide +kernel
theorem dX1_findWinner_0 : decode cX1_findWinner 0 = .ok (.iconst 0, 1) := by decide +kernel
theorem dX1_findWinner_1 : decode cX1_findWinner 1 = .ok (.istore_n 1, 1) := by decide +kernel
theorem dX1_findWinner_2 : decode cX1_findWinner 2 = .ok (.iload_n 1, 1) := by decide +kernel
theorem dX1_findWinner_3 : decode cX1_findWinner 3 = .ok (.aload_n 0, 1) := by decide +kernel
theorem dX1_findWinner_4 : decode cX1_findWinner 4 = .ok (.getfield 53, 3) := by decide +kernel
theorem dX1_findWinner_7 : decode cX1_findWinner 7 = .ok (.if_icmp .ge 30, 3) := by decide +kernel
theorem dX1_findWinner_10 : decode cX1_findWinner 10 = .ok (.aload_n 0, 1) := by decide +kernel
theorem dX1_findWinner_11 : decode cX1_findWinner 11 = .ok (.iload_n 1, 1) := by decide +kernel
theorem dX1_findWinner_12 : decode cX1_findWinner 12 = .ok (.invokevirtual 89, 3) := by decide +kernel
theorem dX1_findWinner_15 : decode cX1_findWinner 15 = .ok (.aload_n 0, 1) := by decide +kernel
theorem dX1_findWinner_16 : decode cX1_findWinner 16 = .ok (.getfield 53, 3) := by decide +kernel
theorem dX1_findWinner_19 : decode cX1_findWinner 19 = .ok (.iconst 1, 1) := by decide +kernel
theorem dX1_findWinner_20 : decode cX1_findWinner 20 = .ok (.isub, 1) := by decide +kernel
theorem dX1_findWinner_21 : decode cX1_findWinner 21 = .ok (.if_icmp .ne 10, 3) := by decide +kernel
theorem dX1_findWinner_24 : decode cX1_findWinner 24 = .ok (.aload_n 0, 1) := by decide +kernel
theorem dX1_findWinner_25 : decode cX1_findWinner 25 = .ok (.getfield 9, 3) := by decide +kernel
theorem dX1_findWinner_28 : decode cX1_findWinner 28 = .ok (.iload_n 1, 1) := by decide +kernel
theorem dX1_findWinner_29 : decode cX1_findWinner 29 = .ok (.iaload, 1) := by decide +kernel
theorem dX1_findWinner_30 : decode cX1_findWinner 30 = .ok (.ireturn, 1) := by decide +kernel
theorem dX1_findWinner_31 : decode cX1_findWinner 31 = .ok (.iinc 1 1, 3) := by decide +kernel
theorem dX1_findWinner_34 : decode cX1_findWinner 34 = .ok (.goto (-32), 3) := by decide +kernel
theorem dX1_findWinner_37 : decode cX1_findWinner 37 = .ok (.iconst (-1), 1) := by decide +kernel
theorem dX1_findWinner_38 : decode cX1_findWinner 38 = .ok (.ireturn, 1) := by decide +kernel
theorem dX1_isCovered_0 : decode cX1_isCovered 0 = .ok (.iconst 0, 1) := by decide +kernel
theorem dX1_isCovered_1 : decode cX1_isCovered 1 = .ok (.istore_n 2, 1) := by decide +kernel
theorem dX1_isCovered_2 : decode cX1_isCovered 2 = .ok (.iload_n 2, 1) := by decide +kernel
theorem dX1_isCovered_3 : decode cX1_isCovered 3 = .ok (.aload_n 0, 1) := by decide +kernel
theorem dX1_isCovered_4 : decode cX1_isCovered 4 = .ok (.getfield 53, 3) := by decide +kernel
theorem dX1_isCovered_7 : decode cX1_isCovered 7 = .ok (.if_icmp .ge 29, 3) := by decide +kernel
theorem dX1_isCovered_10 : decode cX1_isCovered 10 = .ok (.aload_n 0, 1) := by decide +kernel
theorem dX1_isCovered_11 : decode cX1_isCovered 11 = .ok (.iload_n 2, 1) := by decide +kernel
theorem dX1_isCovered_12 : decode cX1_isCovered 12 = .ok (.iload_n 1, 1) := by decide +kernel
theorem dX1_isCovered_13 : decode cX1_isCovered 13 = .ok (.invokevirtual 92, 3) := by decide +kernel
theorem dX1_isCovered_16 : decode cX1_isCovered 16 = .ok (.ifCond .eq 14, 3) := by decide +kernel
theorem dX1_isCovered_19 : decode cX1_isCovered 19 = .ok (.aload_n 0, 1) := by decide +kernel
theorem dX1_isCovered_20 : decode cX1_isCovered 20 = .ok (.iload_n 2, 1) := by decide +kernel
theorem dX1_isCovered_21 : decode cX1_isCovered 21 = .ok (.iload_n 1, 1) := by decide +kernel
theorem dX1_isCovered_22 : decode cX1_isCovered 22 = .ok (.invokevirtual 95, 3) := by decide +kernel
theorem dX1_isCovered_25 : decode cX1_isCovered 25 = .ok (.ifCond .eq 5, 3) := by decide +kernel
theorem dX1_isCovered_28 : decode cX1_isCovered 28 = .ok (.iconst 1, 1) := by decide +kernel
theorem dX1_isCovered_29 : decode cX1_isCovered 29 = .ok (.ireturn, 1) := by decide +kernel
theorem dX1_isCovered_30 : decode cX1_isCovered 30 = .ok (.iinc 2 1, 3) := by decide +kernel
theorem dX1_isCovered_33 : decode cX1_isCovered 33 = .ok (.goto (-31), 3) := by decide +kernel
theorem dX1_isCovered_36 : decode cX1_isCovered 36 = .ok (.iconst 0, 1) := by decide +kernel
theorem dX1_isCovered_37 : decode cX1_isCovered 37 = .ok (.ireturn, 1) := by decide +kernel
theorem dX1_beatsAllOf_0 : decode cX1_beatsAllOf 0 = .ok (.iconst 0, 1) := by decide +kernel
theorem dX1_beatsAllOf_1 : decode cX1_beatsAllOf 1 = .ok (.istore_n 3, 1) := by decide +kernel
theorem dX1_beatsAllOf_2 : decode cX1_beatsAllOf 2 = .ok (.iload_n 3, 1) := by decide +kernel
theorem dX1_beatsAllOf_3 : decode cX1_beatsAllOf 3 = .ok (.iconst 3, 1) := by decide +kernel
theorem dX1_beatsAllOf_4 : decode cX1_beatsAllOf 4 = .ok (.if_icmp .ge 37, 3) := by decide +kernel
theorem dX1_beatsAllOf_7 : decode cX1_beatsAllOf 7 = .ok (.aload_n 0, 1) := by decide +kernel
theorem dX1_beatsAllOf_8 : decode cX1_beatsAllOf 8 = .ok (.getfield 18, 3) := by decide +kernel
theorem dX1_beatsAllOf_11 : decode cX1_beatsAllOf 11 = .ok (.iload_n 2, 1) := by decide +kernel
theorem dX1_beatsAllOf_12 : decode cX1_beatsAllOf 12 = .ok (.iconst 3, 1) := by decide +kernel
theorem dX1_beatsAllOf_13 : decode cX1_beatsAllOf 13 = .ok (.imul, 1) := by decide +kernel
theorem dX1_beatsAllOf_14 : decode cX1_beatsAllOf 14 = .ok (.iload_n 3, 1) := by decide +kernel
theorem dX1_beatsAllOf_15 : decode cX1_beatsAllOf 15 = .ok (.iadd, 1) := by decide +kernel
theorem dX1_beatsAllOf_16 : decode cX1_beatsAllOf 16 = .ok (.iaload, 1) := by decide +kernel
theorem dX1_beatsAllOf_17 : decode cX1_beatsAllOf 17 = .ok (.aload_n 0, 1) := by decide +kernel
theorem dX1_beatsAllOf_18 : decode cX1_beatsAllOf 18 = .ok (.getfield 18, 3) := by decide +kernel
theorem dX1_beatsAllOf_21 : decode cX1_beatsAllOf 21 = .ok (.iload_n 1, 1) := by decide +kernel
theorem dX1_beatsAllOf_22 : decode cX1_beatsAllOf 22 = .ok (.iconst 3, 1) := by decide +kernel
theorem dX1_beatsAllOf_23 : decode cX1_beatsAllOf 23 = .ok (.imul, 1) := by decide +kernel
theorem dX1_beatsAllOf_24 : decode cX1_beatsAllOf 24 = .ok (.iload_n 3, 1) := by decide +kernel
theorem dX1_beatsAllOf_25 : decode cX1_beatsAllOf 25 = .ok (.iadd, 1) := by decide +kernel
theorem dX1_beatsAllOf_26 : decode cX1_beatsAllOf 26 = .ok (.iaload, 1) := by decide +kernel
theorem dX1_beatsAllOf_27 : decode cX1_beatsAllOf 27 = .ok (.iconst (-1), 1) := by decide +kernel
theorem dX1_beatsAllOf_28 : decode cX1_beatsAllOf 28 = .ok (.ixor, 1) := by decide +kernel
theorem dX1_beatsAllOf_29 : decode cX1_beatsAllOf 29 = .ok (.iand, 1) := by decide +kernel
theorem dX1_beatsAllOf_30 : decode cX1_beatsAllOf 30 = .ok (.ifCond .eq 5, 3) := by decide +kernel
theorem dX1_beatsAllOf_33 : decode cX1_beatsAllOf 33 = .ok (.iconst 0, 1) := by decide +kernel
theorem dX1_beatsAllOf_34 : decode cX1_beatsAllOf 34 = .ok (.ireturn, 1) := by decide +kernel
theorem dX1_beatsAllOf_35 : decode cX1_beatsAllOf 35 = .ok (.iinc 3 1, 3) := by decide +kernel
theorem dX1_beatsAllOf_38 : decode cX1_beatsAllOf 38 = .ok (.goto (-36), 3) := by decide +kernel
theorem dX1_beatsAllOf_41 : decode cX1_beatsAllOf 41 = .ok (.iconst 1, 1) := by decide +kernel
theorem dX1_beatsAllOf_42 : decode cX1_beatsAllOf 42 = .ok (.ireturn, 1) := by decide +kernel
theorem dX1_learnTop_0 : decode cX1_learnTop 0 = .ok (.aload_n 0, 1) := by decide +kernel
theorem dX1_learnTop_1 : decode cX1_learnTop 1 = .ok (.getfield 21, 3) := by decide +kernel
theorem dX1_learnTop_4 : decode cX1_learnTop 4 = .ok (.iconst 0, 1) := by decide +kernel
theorem dX1_learnTop_5 : decode cX1_learnTop 5 = .ok (.aload_n 0, 1) := by decide +kernel
theorem dX1_learnTop_6 : decode cX1_learnTop 6 = .ok (.invokevirtual 98, 3) := by decide +kernel
theorem dX1_learnTop_9 : decode cX1_learnTop 9 = .ok (.iastore, 1) := by decide +kernel
theorem dX1_learnTop_10 : decode cX1_learnTop 10 = .ok (.aload_n 0, 1) := by decide +kernel
theorem dX1_learnTop_11 : decode cX1_learnTop 11 = .ok (.iconst 1, 1) := by decide +kernel
theorem dX1_learnTop_12 : decode cX1_learnTop 12 = .ok (.putfield 102, 3) := by decide +kernel
theorem dX1_learnTop_15 : decode cX1_learnTop 15 = .ok (.iconst 0, 1) := by decide +kernel
theorem dX1_learnTop_16 : decode cX1_learnTop 16 = .ok (.istore_n 1, 1) := by decide +kernel
theorem dX1_learnTop_17 : decode cX1_learnTop 17 = .ok (.iload_n 1, 1) := by decide +kernel
theorem dX1_learnTop_18 : decode cX1_learnTop 18 = .ok (.aload_n 0, 1) := by decide +kernel
theorem dX1_learnTop_19 : decode cX1_learnTop 19 = .ok (.getfield 102, 3) := by decide +kernel
theorem dX1_learnTop_22 : decode cX1_learnTop 22 = .ok (.if_icmp .ge 82, 3) := by decide +kernel
theorem dX1_learnTop_25 : decode cX1_learnTop 25 = .ok (.iload_n 1, 1) := by decide +kernel
theorem dX1_learnTop_26 : decode cX1_learnTop 26 = .ok (.bipush 65, 2) := by decide +kernel
theorem dX1_learnTop_28 : decode cX1_learnTop 28 = .ok (.if_icmp .ge 76, 3) := by decide +kernel
theorem dX1_learnTop_31 : decode cX1_learnTop 31 = .ok (.iconst 0, 1) := by decide +kernel
theorem dX1_learnTop_32 : decode cX1_learnTop 32 = .ok (.istore_n 2, 1) := by decide +kernel
theorem dX1_learnTop_33 : decode cX1_learnTop 33 = .ok (.iload_n 2, 1) := by decide +kernel
theorem dX1_learnTop_34 : decode cX1_learnTop 34 = .ok (.aload_n 0, 1) := by decide +kernel
theorem dX1_learnTop_35 : decode cX1_learnTop 35 = .ok (.getfield 53, 3) := by decide +kernel
theorem dX1_learnTop_38 : decode cX1_learnTop 38 = .ok (.if_icmp .ge 60, 3) := by decide +kernel
theorem dX1_learnTop_41 : decode cX1_learnTop 41 = .ok (.aload_n 0, 1) := by decide +kernel
theorem dX1_learnTop_42 : decode cX1_learnTop 42 = .ok (.getfield 102, 3) := by decide +kernel
theorem dX1_learnTop_45 : decode cX1_learnTop 45 = .ok (.bipush 65, 2) := by decide +kernel
theorem dX1_learnTop_47 : decode cX1_learnTop 47 = .ok (.if_icmp .ge 51, 3) := by decide +kernel
theorem dX1_learnTop_50 : decode cX1_learnTop 50 = .ok (.aload_n 0, 1) := by decide +kernel
theorem dX1_learnTop_51 : decode cX1_learnTop 51 = .ok (.aload_n 0, 1) := by decide +kernel
theorem dX1_learnTop_52 : decode cX1_learnTop 52 = .ok (.getfield 21, 3) := by decide +kernel
theorem dX1_learnTop_55 : decode cX1_learnTop 55 = .ok (.iload_n 1, 1) := by decide +kernel
theorem dX1_learnTop_56 : decode cX1_learnTop 56 = .ok (.iaload, 1) := by decide +kernel
theorem dX1_learnTop_57 : decode cX1_learnTop 57 = .ok (.iload_n 2, 1) := by decide +kernel
theorem dX1_learnTop_58 : decode cX1_learnTop 58 = .ok (.invokevirtual 92, 3) := by decide +kernel
theorem dX1_learnTop_61 : decode cX1_learnTop 61 = .ok (.ifCond .ne 31, 3) := by decide +kernel
theorem dX1_learnTop_64 : decode cX1_learnTop 64 = .ok (.aload_n 0, 1) := by decide +kernel
theorem dX1_learnTop_65 : decode cX1_learnTop 65 = .ok (.iload_n 2, 1) := by decide +kernel
theorem dX1_learnTop_66 : decode cX1_learnTop 66 = .ok (.invokevirtual 105, 3) := by decide +kernel
theorem dX1_learnTop_69 : decode cX1_learnTop 69 = .ok (.ifCond .ne 23, 3) := by decide +kernel
theorem dX1_learnTop_72 : decode cX1_learnTop 72 = .ok (.aload_n 0, 1) := by decide +kernel
theorem dX1_learnTop_73 : decode cX1_learnTop 73 = .ok (.getfield 21, 3) := by decide +kernel
theorem dX1_learnTop_76 : decode cX1_learnTop 76 = .ok (.aload_n 0, 1) := by decide +kernel
theorem dX1_learnTop_77 : decode cX1_learnTop 77 = .ok (.getfield 102, 3) := by decide +kernel
theorem dX1_learnTop_80 : decode cX1_learnTop 80 = .ok (.iload_n 2, 1) := by decide +kernel
theorem dX1_learnTop_81 : decode cX1_learnTop 81 = .ok (.iastore, 1) := by decide +kernel
theorem dX1_learnTop_82 : decode cX1_learnTop 82 = .ok (.aload_n 0, 1) := by decide +kernel
theorem dX1_learnTop_83 : decode cX1_learnTop 83 = .ok (.dup, 1) := by decide +kernel
theorem dX1_learnTop_84 : decode cX1_learnTop 84 = .ok (.getfield 102, 3) := by decide +kernel
theorem dX1_learnTop_87 : decode cX1_learnTop 87 = .ok (.iconst 1, 1) := by decide +kernel
theorem dX1_learnTop_88 : decode cX1_learnTop 88 = .ok (.iadd, 1) := by decide +kernel
theorem dX1_learnTop_89 : decode cX1_learnTop 89 = .ok (.putfield 102, 3) := by decide +kernel
theorem dX1_learnTop_92 : decode cX1_learnTop 92 = .ok (.iinc 2 1, 3) := by decide +kernel
theorem dX1_learnTop_95 : decode cX1_learnTop 95 = .ok (.goto (-62), 3) := by decide +kernel
theorem dX1_learnTop_98 : decode cX1_learnTop 98 = .ok (.iinc 1 1, 3) := by decide +kernel
theorem dX1_learnTop_101 : decode cX1_learnTop 101 = .ok (.goto (-84), 3) := by decide +kernel
theorem dX1_learnTop_104 : decode cX1_learnTop 104 = .ok (.return_, 1) := by decide +kernel
theorem dX1_indexOfMostBeating_0 : decode cX1_indexOfMostBeating 0 = .ok (.iconst 0, 1) := by decide +kernel
theorem dX1_indexOfMostBeating_1 : decode cX1_indexOfMostBeating 1 = .ok (.istore_n 1, 1) := by decide +kernel
theorem dX1_indexOfMostBeating_2 : decode cX1_indexOfMostBeating 2 = .ok (.iconst 1, 1) := by decide +kernel
theorem dX1_indexOfMostBeating_3 : decode cX1_indexOfMostBeating 3 = .ok (.istore_n 2, 1) := by decide +kernel
theorem dX1_indexOfMostBeating_4 : decode cX1_indexOfMostBeating 4 = .ok (.iload_n 2, 1) := by decide +kernel
theorem dX1_indexOfMostBeating_5 : decode cX1_indexOfMostBeating 5 = .ok (.aload_n 0, 1) := by decide +kernel
theorem dX1_indexOfMostBeating_6 : decode cX1_indexOfMostBeating 6 = .ok (.getfield 53, 3) := by decide +kernel
theorem dX1_indexOfMostBeating_9 : decode cX1_indexOfMostBeating 9 = .ok (.if_icmp .ge 24, 3) := by decide +kernel
theorem dX1_indexOfMostBeating_12 : decode cX1_indexOfMostBeating 12 = .ok (.aload_n 0, 1) := by decide +kernel
theorem dX1_indexOfMostBeating_13 : decode cX1_indexOfMostBeating 13 = .ok (.iload_n 2, 1) := by decide +kernel
theorem dX1_indexOfMostBeating_14 : decode cX1_indexOfMostBeating 14 = .ok (.invokevirtual 89, 3) := by decide +kernel
theorem dX1_indexOfMostBeating_17 : decode cX1_indexOfMostBeating 17 = .ok (.aload_n 0, 1) := by decide +kernel
theorem dX1_indexOfMostBeating_18 : decode cX1_indexOfMostBeating 18 = .ok (.iload_n 1, 1) := by decide +kernel
theorem dX1_indexOfMostBeating_19 : decode cX1_indexOfMostBeating 19 = .ok (.invokevirtual 89, 3) := by decide +kernel
theorem dX1_indexOfMostBeating_22 : decode cX1_indexOfMostBeating 22 = .ok (.if_icmp .le 5, 3) := by decide +kernel
theorem dX1_indexOfMostBeating_25 : decode cX1_indexOfMostBeating 25 = .ok (.iload_n 2, 1) := by decide +kernel
theorem dX1_indexOfMostBeating_26 : decode cX1_indexOfMostBeating 26 = .ok (.istore_n 1, 1) := by decide +kernel
theorem dX1_indexOfMostBeating_27 : decode cX1_indexOfMostBeating 27 = .ok (.iinc 2 1, 3) := by decide +kernel
theorem dX1_indexOfMostBeating_30 : decode cX1_indexOfMostBeating 30 = .ok (.goto (-26), 3) := by decide +kernel
theorem dX1_indexOfMostBeating_33 : decode cX1_indexOfMostBeating 33 = .ok (.iload_n 1, 1) := by decide +kernel
theorem dX1_indexOfMostBeating_34 : decode cX1_indexOfMostBeating 34 = .ok (.ireturn, 1) := by decide +kernel
theorem dX1_isOfTop_0 : decode cX1_isOfTop 0 = .ok (.iconst 0, 1) := by decide +kernel
theorem dX1_isOfTop_1 : decode cX1_isOfTop 1 = .ok (.istore_n 2, 1) := by decide +kernel
theorem dX1_isOfTop_2 : decode cX1_isOfTop 2 = .ok (.iload_n 2, 1) := by decide +kernel
theorem dX1_isOfTop_3 : decode cX1_isOfTop 3 = .ok (.aload_n 0, 1) := by decide +kernel
theorem dX1_isOfTop_4 : decode cX1_isOfTop 4 = .ok (.getfield 102, 3) := by decide +kernel
theorem dX1_isOfTop_7 : decode cX1_isOfTop 7 = .ok (.if_icmp .ge 21, 3) := by decide +kernel
theorem dX1_isOfTop_10 : decode cX1_isOfTop 10 = .ok (.aload_n 0, 1) := by decide +kernel
theorem dX1_isOfTop_11 : decode cX1_isOfTop 11 = .ok (.getfield 21, 3) := by decide +kernel
theorem dX1_isOfTop_14 : decode cX1_isOfTop 14 = .ok (.iload_n 2, 1) := by decide +kernel
theorem dX1_isOfTop_15 : decode cX1_isOfTop 15 = .ok (.iaload, 1) := by decide +kernel
theorem dX1_isOfTop_16 : decode cX1_isOfTop 16 = .ok (.iload_n 1, 1) := by decide +kernel
theorem dX1_isOfTop_17 : decode cX1_isOfTop 17 = .ok (.if_icmp .ne 5, 3) := by decide +kernel
theorem dX1_isOfTop_20 : decode cX1_isOfTop 20 = .ok (.iconst 1, 1) := by decide +kernel
theorem dX1_isOfTop_21 : decode cX1_isOfTop 21 = .ok (.ireturn, 1) := by decide +kernel
theorem dX1_isOfTop_22 : decode cX1_isOfTop 22 = .ok (.iinc 2 1, 3) := by decide +kernel
theorem dX1_isOfTop_25 : decode cX1_isOfTop 25 = .ok (.goto (-23), 3) := by decide +kernel
theorem dX1_isOfTop_28 : decode cX1_isOfTop 28 = .ok (.iconst 0, 1) := by decide +kernel
theorem dX1_isOfTop_29 : decode cX1_isOfTop 29 = .ok (.ireturn, 1) := by decide +kernel
theorem dX2_init_0 : decode cX2_init 0 = .ok (.aload_n 0, 1) := by decide +kernel
theorem dX2_init_1 : decode cX2_init 1 = .ok (.invokespecial 3, 3) := by decide +kernel
theorem dX2_init_4 : decode cX2_init 4 = .ok (.aload_n 0, 1) := by decide +kernel
theorem dX2_init_5 : decode cX2_init 5 = .ok (.iconst (-1), 1) := by decide +kernel
theorem dX2_init_6 : decode cX2_init 6 = .ok (.putfield 9, 3) := by decide +kernel
theorem dX2_init_9 : decode cX2_init 9 = .ok (.aload_n 0, 1) := by decide +kernel
theorem dX2_init_10 : decode cX2_init 10 = .ok (.bipush 6, 2) := by decide +kernel
theorem dX2_init_12 : decode cX2_init 12 = .ok (.newarray .int, 2) := by decide +kernel
theorem dX2_init_14 : decode cX2_init 14 = .ok (.putfield 15, 3) := by decide +kernel
theorem dX2_init_17 : decode cX2_init 17 = .ok (.aload_n 0, 1) := by decide +kernel
theorem dX2_init_18 : decode cX2_init 18 = .ok (.bipush 6, 2) := by decide +kernel
theorem dX2_init_20 : decode cX2_init 20 = .ok (.newarray .int, 2) := by decide +kernel
theorem dX2_init_22 : decode cX2_init 22 = .ok (.putfield 19, 3) := by decide +kernel
theorem dX2_init_25 : decode cX2_init 25 = .ok (.aload_n 0, 1) := by decide +kernel
theorem dX2_init_26 : decode cX2_init 26 = .ok (.bipush 6, 2) := by decide +kernel
theorem dX2_init_28 : decode cX2_init 28 = .ok (.newarray .int, 2) := by decide +kernel
theorem dX2_init_30 : decode cX2_init 30 = .ok (.putfield 22, 3) := by decide +kernel
theorem dX2_init_33 : decode cX2_init 33 = .ok (.aload_n 0, 1) := by decide +kernel
theorem dX2_init_34 : decode cX2_init 34 = .ok (.bipush 6, 2) := by decide +kernel
theorem dX2_init_36 : decode cX2_init 36 = .ok (.newarray .int, 2) := by decide +kernel
theorem dX2_init_38 : decode cX2_init 38 = .ok (.putfield 25, 3) := by decide +kernel
theorem dX2_init_41 : decode cX2_init 41 = .ok (.aload_n 0, 1) := by decide +kernel
theorem dX2_init_42 : decode cX2_init 42 = .ok (.bipush 72, 2) := by decide +kernel
theorem dX2_init_44 : decode cX2_init 44 = .ok (.newarray .int, 2) := by decide +kernel
theorem dX2_init_46 : decode cX2_init 46 = .ok (.putfield 28, 3) := by decide +kernel
theorem dX2_init_49 : decode cX2_init 49 = .ok (.aload_n 0, 1) := by decide +kernel
theorem dX2_init_50 : decode cX2_init 50 = .ok (.bipush 6, 2) := by decide +kernel
theorem dX2_init_52 : decode cX2_init 52 = .ok (.newarray .int, 2) := by decide +kernel
theorem dX2_init_54 : decode cX2_init 54 = .ok (.putfield 31, 3) := by decide +kernel
theorem dX2_init_57 : decode cX2_init 57 = .ok (.aload_n 0, 1) := by decide +kernel
theorem dX2_init_58 : decode cX2_init 58 = .ok (.bipush 6, 2) := by decide +kernel
theorem dX2_init_60 : decode cX2_init 60 = .ok (.newarray .int, 2) := by decide +kernel
theorem dX2_init_62 : decode cX2_init 62 = .ok (.putfield 34, 3) := by decide +kernel
theorem dX2_init_65 : decode cX2_init 65 = .ok (.aload_n 0, 1) := by decide +kernel
theorem dX2_init_66 : decode cX2_init 66 = .ok (.bipush 6, 2) := by decide +kernel
theorem dX2_init_68 : decode cX2_init 68 = .ok (.newarray .int, 2) := by decide +kernel
theorem dX2_init_70 : decode cX2_init 70 = .ok (.putfield 37, 3) := by decide +kernel
theorem dX2_init_73 : decode cX2_init 73 = .ok (.return_, 1) := by decide +kernel
theorem dX2_clear_0 : decode cX2_clear 0 = .ok (.aload_n 0, 1) := by decide +kernel
theorem dX2_clear_1 : decode cX2_clear 1 = .ok (.iconst 0, 1) := by decide +kernel
theorem dX2_clear_2 : decode cX2_clear 2 = .ok (.putfield 40, 3) := by decide +kernel
theorem dX2_clear_5 : decode cX2_clear 5 = .ok (.aload_n 0, 1) := by decide +kernel
theorem dX2_clear_6 : decode cX2_clear 6 = .ok (.iconst 0, 1) := by decide +kernel
theorem dX2_clear_7 : decode cX2_clear 7 = .ok (.putfield 43, 3) := by decide +kernel
theorem dX2_clear_10 : decode cX2_clear 10 = .ok (.aload_n 0, 1) := by decide +kernel
theorem dX2_clear_11 : decode cX2_clear 11 = .ok (.iconst (-1), 1) := by decide +kernel
theorem dX2_clear_12 : decode cX2_clear 12 = .ok (.putfield 9, 3) := by decide +kernel
theorem dX2_clear_15 : decode cX2_clear 15 = .ok (.aload_n 0, 1) := by decide +kernel
theorem dX2_clear_16 : decode cX2_clear 16 = .ok (.iconst 0, 1) := by decide +kernel
theorem dX2_clear_17 : decode cX2_clear 17 = .ok (.putfield 46, 3) := by decide +kernel
theorem dX2_clear_20 : decode cX2_clear 20 = .ok (.aload_n 0, 1) := by decide +kernel
theorem dX2_clear_21 : decode cX2_clear 21 = .ok (.iconst 0, 1) := by decide +kernel
theorem dX2_clear_22 : decode cX2_clear 22 = .ok (.putfield 49, 3) := by decide +kernel
theorem dX2_clear_25 : decode cX2_clear 25 = .ok (.aload_n 0, 1) := by decide +kernel
theorem dX2_clear_26 : decode cX2_clear 26 = .ok (.iconst 0, 1) := by decide +kernel
theorem dX2_clear_27 : decode cX2_clear 27 = .ok (.putfield 52, 3) := by decide +kernel
theorem dX2_clear_30 : decode cX2_clear 30 = .ok (.aload_n 0, 1) := by decide +kernel
theorem dX2_clear_31 : decode cX2_clear 31 = .ok (.getfield 28, 3) := by decide +kernel
theorem dX2_clear_34 : decode cX2_clear 34 = .ok (.iconst 0, 1) := by decide +kernel
theorem dX2_clear_35 : decode cX2_clear 35 = .ok (.invokestatic 55, 3) := by decide +kernel
theorem dX2_clear_38 : decode cX2_clear 38 = .ok (.return_, 1) := by decide +kernel
theorem dX2_copyFrom_0 : decode cX2_copyFrom 0 = .ok (.aload_n 0, 1) := by decide +kernel
theorem dX2_copyFrom_1 : decode cX2_copyFrom 1 = .ok (.aload_n 1, 1) := by decide +kernel
theorem dX2_copyFrom_2 : decode cX2_copyFrom 2 = .ok (.getfield 40, 3) := by decide +kernel
theorem dX2_copyFrom_5 : decode cX2_copyFrom 5 = .ok (.putfield 40, 3) := by decide +kernel
theorem dX2_copyFrom_8 : decode cX2_copyFrom 8 = .ok (.aload_n 0, 1) := by decide +kernel
theorem dX2_copyFrom_9 : decode cX2_copyFrom 9 = .ok (.aload_n 1, 1) := by decide +kernel
theorem dX2_copyFrom_10 : decode cX2_copyFrom 10 = .ok (.getfield 43, 3) := by decide +kernel
theorem dX2_copyFrom_13 : decode cX2_copyFrom 13 = .ok (.putfield 43, 3) := by decide +kernel
theorem dX2_copyFrom_16 : decode cX2_copyFrom 16 = .ok (.aload_n 0, 1) := by decide +kernel
theorem dX2_copyFrom_17 : decode cX2_copyFrom 17 = .ok (.aload_n 1, 1) := by decide +kernel
theorem dX2_copyFrom_18 : decode cX2_copyFrom 18 = .ok (.getfield 9, 3) := by decide +kernel
theorem dX2_copyFrom_21 : decode cX2_copyFrom 21 = .ok (.putfield 9, 3) := by decide +kernel
theorem dX2_copyFrom_24 : decode cX2_copyFrom 24 = .ok (.aload_n 0, 1) := by decide +kernel
theorem dX2_copyFrom_25 : decode cX2_copyFrom 25 = .ok (.aload_n 1, 1) := by decide +kernel
theorem dX2_copyFrom_26 : decode cX2_copyFrom 26 = .ok (.getfield 46, 3) := by decide +kernel
theorem dX2_copyFrom_29 : decode cX2_copyFrom 29 = .ok (.putfield 46, 3) := by decide +kernel
theorem dX2_copyFrom_32 : decode cX2_copyFrom 32 = .ok (.aload_n 0, 1) := by decide +kernel
theorem dX2_copyFrom_33 : decode cX2_copyFrom 33 = .ok (.aload_n 1, 1) := by decide +kernel
theorem dX2_copyFrom_34 : decode cX2_copyFrom 34 = .ok (.getfield 49, 3) := by decide +kernel
theorem dX2_copyFrom_37 : decode cX2_copyFrom 37 = .ok (.putfield 49, 3) := by decide +kernel
theorem dX2_copyFrom_40 : decode cX2_copyFrom 40 = .ok (.aload_n 0, 1) := by decide +kernel
theorem dX2_copyFrom_41 : decode cX2_copyFrom 41 = .ok (.aload_n 1, 1) := by decide +kernel
theorem dX2_copyFrom_42 : decode cX2_copyFrom 42 = .ok (.getfield 52, 3) := by decide +kernel
theorem dX2_copyFrom_45 : decode cX2_copyFrom 45 = .ok (.putfield 52, 3) := by decide +kernel
theorem dX2_copyFrom_48 : decode cX2_copyFrom 48 = .ok (.aload_n 1, 1) := by decide +kernel
theorem dX2_copyFrom_49 : decode cX2_copyFrom 49 = .ok (.getfield 15, 3) := by decide +kernel
theorem dX2_copyFrom_52 : decode cX2_copyFrom 52 = .ok (.iconst 0, 1) := by decide +kernel
theorem dX2_copyFrom_53 : decode cX2_copyFrom 53 = .ok (.aload_n 0, 1) := by decide +kernel
theorem dX2_copyFrom_54 : decode cX2_copyFrom 54 = .ok (.getfield 15, 3) := by decide +kernel
theorem dX2_copyFrom_57 : decode cX2_copyFrom 57 = .ok (.iconst 0, 1) := by decide +kernel
theorem dX2_copyFrom_58 : decode cX2_copyFrom 58 = .ok (.bipush 6, 2) := by decide +kernel
theorem dX2_copyFrom_60 : decode cX2_copyFrom 60 = .ok (.invokestatic 61, 3) := by decide +kernel
theorem dX2_copyFrom_63 : decode cX2_copyFrom 63 = .ok (.aload_n 1, 1) := by decide +kernel
theorem dX2_copyFrom_64 : decode cX2_copyFrom 64 = .ok (.getfield 19, 3) := by decide +kernel
theorem dX2_copyFrom_67 : decode cX2_copyFrom 67 = .ok (.iconst 0, 1) := by decide +kernel
theorem dX2_copyFrom_68 : decode cX2_copyFrom 68 = .ok (.aload_n 0, 1) := by decide +kernel
theorem dX2_copyFrom_69 : decode cX2_copyFrom 69 = .ok (.getfield 19, 3) := by decide +kernel
theorem dX2_copyFrom_72 : decode cX2_copyFrom 72 = .ok (.iconst 0, 1) := by decide +kernel
theorem dX2_copyFrom_73 : decode cX2_copyFrom 73 = .ok (.bipush 6, 2) := by decide +kernel
theorem dX2_copyFrom_75 : decode cX2_copyFrom 75 = .ok (.invokestatic 61, 3) := by decide +kernel
theorem dX2_copyFrom_78 : decode cX2_copyFrom 78 = .ok (.aload_n 1, 1) := by decide +kernel
theorem dX2_copyFrom_79 : decode cX2_copyFrom 79 = .ok (.getfield 22, 3) := by decide +kernel
theorem dX2_copyFrom_82 : decode cX2_copyFrom 82 = .ok (.iconst 0, 1) := by decide +kernel
theorem dX2_copyFrom_83 : decode cX2_copyFrom 83 = .ok (.aload_n 0, 1) := by decide +kernel
theorem dX2_copyFrom_84 : decode cX2_copyFrom 84 = .ok (.getfield 22, 3) := by decide +kernel
theorem dX2_copyFrom_87 : decode cX2_copyFrom 87 = .ok (.iconst 0, 1) := by decide +kernel
theorem dX2_copyFrom_88 : decode cX2_copyFrom 88 = .ok (.bipush 6, 2) := by decide +kernel
theorem dX2_copyFrom_90 : decode cX2_copyFrom 90 = .ok (.invokestatic 61, 3) := by decide +kernel
theorem dX2_copyFrom_93 : decode cX2_copyFrom 93 = .ok (.aload_n 1, 1) := by decide +kernel
theorem dX2_copyFrom_94 : decode cX2_copyFrom 94 = .ok (.getfield 25, 3) := by decide +kernel
theorem dX2_copyFrom_97 : decode cX2_copyFrom 97 = .ok (.iconst 0, 1) := by decide +kernel
theorem dX2_copyFrom_98 : decode cX2_copyFrom 98 = .ok (.aload_n 0, 1) := by decide +kernel
theorem dX2_copyFrom_99 : decode cX2_copyFrom 99 = .ok (.getfield 25, 3) := by decide +kernel
theorem dX2_copyFrom_102 : decode cX2_copyFrom 102 = .ok (.iconst 0, 1) := by decide +kernel
theorem dX2_copyFrom_103 : decode cX2_copyFrom 103 = .ok (.bipush 6, 2) := by decide +kernel
theorem dX2_copyFrom_105 : decode cX2_copyFrom 105 = .ok (.invokestatic 61, 3) := by decide +kernel
theorem dX2_copyFrom_108 : decode cX2_copyFrom 108 = .ok (.aload_n 1, 1) := by decide +kernel
theorem dX2_copyFrom_109 : decode cX2_copyFrom 109 = .ok (.getfield 28, 3) := by decide +kernel
theorem dX2_copyFrom_112 : decode cX2_copyFrom 112 = .ok (.iconst 0, 1) := by decide +kernel
theorem dX2_copyFrom_113 : decode cX2_copyFrom 113 = .ok (.aload_n 0, 1) := by decide +kernel
theorem dX2_copyFrom_114 : decode cX2_copyFrom 114 = .ok (.getfield 28, 3) := by decide +kernel
theorem dX2_copyFrom_117 : decode cX2_copyFrom 117 = .ok (.iconst 0, 1) := by decide +kernel
theorem dX2_copyFrom_118 : decode cX2_copyFrom 118 = .ok (.bipush 72, 2) := by decide +kernel
theorem dX2_copyFrom_120 : decode cX2_copyFrom 120 = .ok (.invokestatic 61, 3) := by decide +kernel
theorem dX2_copyFrom_123 : decode cX2_copyFrom 123 = .ok (.aload_n 1, 1) := by decide +kernel
theorem dX2_copyFrom_124 : decode cX2_copyFrom 124 = .ok (.getfield 31, 3) := by decide +kernel
theorem dX2_copyFrom_127 : decode cX2_copyFrom 127 = .ok (.iconst 0, 1) := by decide +kernel
theorem dX2_copyFrom_128 : decode cX2_copyFrom 128 = .ok (.aload_n 0, 1) := by decide +kernel
theorem dX2_copyFrom_129 : decode cX2_copyFrom 129 = .ok (.getfield 31, 3) := by decide +kernel
theorem dX2_copyFrom_132 : decode cX2_copyFrom 132 = .ok (.iconst 0, 1) := by decide +kernel
theorem dX2_copyFrom_133 : decode cX2_copyFrom 133 = .ok (.bipush 6, 2) := by decide +kernel
theorem dX2_copyFrom_135 : decode cX2_copyFrom 135 = .ok (.invokestatic 61, 3) := by decide +kernel
theorem dX2_copyFrom_138 : decode cX2_copyFrom 138 = .ok (.aload_n 1, 1) := by decide +kernel
theorem dX2_copyFrom_139 : decode cX2_copyFrom 139 = .ok (.getfield 34, 3) := by decide +kernel
theorem dX2_copyFrom_142 : decode cX2_copyFrom 142 = .ok (.iconst 0, 1) := by decide +kernel
theorem dX2_copyFrom_143 : decode cX2_copyFrom 143 = .ok (.aload_n 0, 1) := by decide +kernel
theorem dX2_copyFrom_144 : decode cX2_copyFrom 144 = .ok (.getfield 34, 3) := by decide +kernel
theorem dX2_copyFrom_147 : decode cX2_copyFrom 147 = .ok (.iconst 0, 1) := by decide +kernel
theorem dX2_copyFrom_148 : decode cX2_copyFrom 148 = .ok (.bipush 6, 2) := by decide +kernel
theorem dX2_copyFrom_150 : decode cX2_copyFrom 150 = .ok (.invokestatic 61, 3) := by decide +kernel
theorem dX2_copyFrom_153 : decode cX2_copyFrom 153 = .ok (.aload_n 1, 1) := by decide +kernel
theorem dX2_copyFrom_154 : decode cX2_copyFrom 154 = .ok (.getfield 37, 3) := by decide +kernel
theorem dX2_copyFrom_157 : decode cX2_copyFrom 157 = .ok (.iconst 0, 1) := by decide +kernel
theorem dX2_copyFrom_158 : decode cX2_copyFrom 158 = .ok (.aload_n 0, 1) := by decide +kernel
theorem dX2_copyFrom_159 : decode cX2_copyFrom 159 = .ok (.getfield 37, 3) := by decide +kernel
theorem dX2_copyFrom_162 : decode cX2_copyFrom 162 = .ok (.iconst 0, 1) := by decide +kernel
theorem dX2_copyFrom_163 : decode cX2_copyFrom 163 = .ok (.bipush 6, 2) := by decide +kernel
theorem dX2_copyFrom_165 : decode cX2_copyFrom 165 = .ok (.invokestatic 61, 3) := by decide +kernel
theorem dX2_copyFrom_168 : decode cX2_copyFrom 168 = .ok (.return_, 1) := by decide +kernel
theorem dX2_hasMotion_0 : decode cX2_hasMotion 0 = .ok (.iload_n 1, 1) := by decide +kernel
theorem dX2_hasMotion_1 : decode cX2_hasMotion 1 = .ok (.ifCond .lt 15, 3) := by decide +kernel
theorem dX2_hasMotion_4 : decode cX2_hasMotion 4 = .ok (.iload_n 1, 1) := by decide +kernel
theorem dX2_hasMotion_5 : decode cX2_hasMotion 5 = .ok (.aload_n 0, 1) := by decide +kernel
theorem dX2_hasMotion_6 : decode cX2_hasMotion 6 = .ok (.getfield 46, 3) := by decide +kernel
theorem dX2_hasMotion_9 : decode cX2_hasMotion 9 = .ok (.if_icmp .ge 7, 3) := by decide +kernel
theorem dX2_hasMotion_12 : decode cX2_hasMotion 12 = .ok (.iconst 1, 1) := by decide +kernel
theorem dX2_hasMotion_13 : decode cX2_hasMotion 13 = .ok (.goto 4, 3) := by decide +kernel
theorem dX2_hasMotion_16 : decode cX2_hasMotion 16 = .ok (.iconst 0, 1) := by decide +kernel
theorem dX2_hasMotion_17 : decode cX2_hasMotion 17 = .ok (.ireturn, 1) := by decide +kernel
theorem dX2_hasVoter_0 : decode cX2_hasVoter 0 = .ok (.iload_n 1, 1) := by decide +kernel
theorem dX2_hasVoter_1 : decode cX2_hasVoter 1 = .ok (.ifCond .lt 15, 3) := by decide +kernel
theorem dX2_hasVoter_4 : decode cX2_hasVoter 4 = .ok (.iload_n 1, 1) := by decide +kernel
theorem dX2_hasVoter_5 : decode cX2_hasVoter 5 = .ok (.aload_n 0, 1) := by decide +kernel
theorem dX2_hasVoter_6 : decode cX2_hasVoter 6 = .ok (.getfield 49, 3) := by decide +kernel
theorem dX2_hasVoter_9 : decode cX2_hasVoter 9 = .ok (.if_icmp .ge 7, 3) := by decide +kernel
theorem dX2_hasVoter_12 : decode cX2_hasVoter 12 = .ok (.iconst 1, 1) := by decide +kernel
theorem dX2_hasVoter_13 : decode cX2_hasVoter 13 = .ok (.goto 4, 3) := by decide +kernel
theorem dX2_hasVoter_16 : decode cX2_hasVoter 16 = .ok (.iconst 0, 1) := by decide +kernel
theorem dX2_hasVoter_17 : decode cX2_hasVoter 17 = .ok (.ireturn, 1) := by decide +kernel
theorem dX2_quotaInForce_0 : decode cX2_quotaInForce 0 = .ok (.aload_n 0, 1) := by decide +kernel
theorem dX2_quotaInForce_1 : decode cX2_quotaInForce 1 = .ok (.getfield 43, 3) := by decide +kernel
theorem dX2_quotaInForce_4 : decode cX2_quotaInForce 4 = .ok (.ifCond .le 10, 3) := by decide +kernel
theorem dX2_quotaInForce_7 : decode cX2_quotaInForce 7 = .ok (.aload_n 0, 1) := by decide +kernel
theorem dX2_quotaInForce_8 : decode cX2_quotaInForce 8 = .ok (.getfield 43, 3) := by decide +kernel
theorem dX2_quotaInForce_11 : decode cX2_quotaInForce 11 = .ok (.goto 11, 3) := by decide +kernel
theorem dX2_quotaInForce_14 : decode cX2_quotaInForce 14 = .ok (.aload_n 0, 1) := by decide +kernel
theorem dX2_quotaInForce_15 : decode cX2_quotaInForce 15 = .ok (.getfield 49, 3) := by decide +kernel
theorem dX2_quotaInForce_18 : decode cX2_quotaInForce 18 = .ok (.iconst 2, 1) := by decide +kernel
theorem dX2_quotaInForce_19 : decode cX2_quotaInForce 19 = .ok (.idiv, 1) := by decide +kernel
theorem dX2_quotaInForce_20 : decode cX2_quotaInForce 20 = .ok (.iconst 1, 1) := by decide +kernel
theorem dX2_quotaInForce_21 : decode cX2_quotaInForce 21 = .ok (.iadd, 1) := by decide +kernel
theorem dX2_quotaInForce_22 : decode cX2_quotaInForce 22 = .ok (.ireturn, 1) := by decide +kernel
theorem dX2_addMotion_0 : decode cX2_addMotion 0 = .ok (.aload_n 0, 1) := by decide +kernel
theorem dX2_addMotion_1 : decode cX2_addMotion 1 = .ok (.getfield 46, 3) := by decide +kernel
theorem dX2_addMotion_4 : decode cX2_addMotion 4 = .ok (.bipush 6, 2) := by decide +kernel
theorem dX2_addMotion_6 : decode cX2_addMotion 6 = .ok (.if_icmp .ge 54, 3) := by decide +kernel
theorem dX2_addMotion_9 : decode cX2_addMotion 9 = .ok (.aload_n 0, 1) := by decide +kernel
theorem dX2_addMotion_10 : decode cX2_addMotion 10 = .ok (.getfield 15, 3) := by decide +kernel
theorem dX2_addMotion_13 : decode cX2_addMotion 13 = .ok (.aload_n 0, 1) := by decide +kernel
theorem dX2_addMotion_14 : decode cX2_addMotion 14 = .ok (.getfield 46, 3) := by decide +kernel
theorem dX2_addMotion_17 : decode cX2_addMotion 17 = .ok (.iload_n 1, 1) := by decide +kernel
theorem dX2_addMotion_18 : decode cX2_addMotion 18 = .ok (.iastore, 1) := by decide +kernel
theorem dX2_addMotion_19 : decode cX2_addMotion 19 = .ok (.aload_n 0, 1) := by decide +kernel
theorem dX2_addMotion_20 : decode cX2_addMotion 20 = .ok (.getfield 19, 3) := by decide +kernel
theorem dX2_addMotion_23 : decode cX2_addMotion 23 = .ok (.aload_n 0, 1) := by decide +kernel
theorem dX2_addMotion_24 : decode cX2_addMotion 24 = .ok (.getfield 46, 3) := by decide +kernel
theorem dX2_addMotion_27 : decode cX2_addMotion 27 = .ok (.iload_n 2, 1) := by decide +kernel
theorem dX2_addMotion_28 : decode cX2_addMotion 28 = .ok (.iastore, 1) := by decide +kernel
theorem dX2_addMotion_29 : decode cX2_addMotion 29 = .ok (.aload_n 0, 1) := by decide +kernel
theorem dX2_addMotion_30 : decode cX2_addMotion 30 = .ok (.getfield 22, 3) := by decide +kernel
theorem dX2_addMotion_33 : decode cX2_addMotion 33 = .ok (.aload_n 0, 1) := by decide +kernel
theorem dX2_addMotion_34 : decode cX2_addMotion 34 = .ok (.getfield 46, 3) := by decide +kernel
theorem dX2_addMotion_37 : decode cX2_addMotion 37 = .ok (.iload_n 3, 1) := by decide +kernel
theorem dX2_addMotion_38 : decode cX2_addMotion 38 = .ok (.iastore, 1) := by decide +kernel
theorem dX2_addMotion_39 : decode cX2_addMotion 39 = .ok (.aload_n 0, 1) := by decide +kernel
theorem dX2_addMotion_40 : decode cX2_addMotion 40 = .ok (.getfield 25, 3) := by decide +kernel
theorem dX2_addMotion_43 : decode cX2_addMotion 43 = .ok (.aload_n 0, 1) := by decide +kernel
theorem dX2_addMotion_44 : decode cX2_addMotion 44 = .ok (.getfield 46, 3) := by decide +kernel
theorem dX2_addMotion_47 : decode cX2_addMotion 47 = .ok (.iload 4, 2) := by decide +kernel
theorem dX2_addMotion_49 : decode cX2_addMotion 49 = .ok (.iastore, 1) := by decide +kernel
theorem dX2_addMotion_50 : decode cX2_addMotion 50 = .ok (.aload_n 0, 1) := by decide +kernel
theorem dX2_addMotion_51 : decode cX2_addMotion 51 = .ok (.dup, 1) := by decide +kernel
theorem dX2_addMotion_52 : decode cX2_addMotion 52 = .ok (.getfield 46, 3) := by decide +kernel
theorem dX2_addMotion_55 : decode cX2_addMotion 55 = .ok (.iconst 1, 1) := by decide +kernel
theorem dX2_addMotion_56 : decode cX2_addMotion 56 = .ok (.iadd, 1) := by decide +kernel
theorem dX2_addMotion_57 : decode cX2_addMotion 57 = .ok (.putfield 46, 3) := by decide +kernel
theorem dX2_addMotion_60 : decode cX2_addMotion 60 = .ok (.return_, 1) := by decide +kernel
theorem dX2_addJoint_0 : decode cX2_addJoint 0 = .ok (.aload_n 0, 1) := by decide +kernel
theorem dX2_addJoint_1 : decode cX2_addJoint 1 = .ok (.getfield 52, 3) := by decide +kernel
theorem dX2_addJoint_4 : decode cX2_addJoint 4 = .ok (.bipush 6, 2) := by decide +kernel
theorem dX2_addJoint_6 : decode cX2_addJoint 6 = .ok (.if_icmp .ge 43, 3) := by decide +kernel
theorem dX2_addJoint_9 : decode cX2_addJoint 9 = .ok (.aload_n 0, 1) := by decide +kernel
theorem dX2_addJoint_10 : decode cX2_addJoint 10 = .ok (.getfield 31, 3) := by decide +kernel
theorem dX2_addJoint_13 : decode cX2_addJoint 13 = .ok (.aload_n 0, 1) := by decide +kernel
theorem dX2_addJoint_14 : decode cX2_addJoint 14 = .ok (.getfield 52, 3) := by decide +kernel
theorem dX2_addJoint_17 : decode cX2_addJoint 17 = .ok (.iload_n 1, 1) := by decide +kernel
theorem dX2_addJoint_18 : decode cX2_addJoint 18 = .ok (.iastore, 1) := by decide +kernel
theorem dX2_addJoint_19 : decode cX2_addJoint 19 = .ok (.aload_n 0, 1) := by decide +kernel
theorem dX2_addJoint_20 : decode cX2_addJoint 20 = .ok (.getfield 34, 3) := by decide +kernel
theorem dX2_addJoint_23 : decode cX2_addJoint 23 = .ok (.aload_n 0, 1) := by decide +kernel
theorem dX2_addJoint_24 : decode cX2_addJoint 24 = .ok (.getfield 52, 3) := by decide +kernel
theorem dX2_addJoint_27 : decode cX2_addJoint 27 = .ok (.iload_n 2, 1) := by decide +kernel
theorem dX2_addJoint_28 : decode cX2_addJoint 28 = .ok (.iastore, 1) := by decide +kernel
theorem dX2_addJoint_29 : decode cX2_addJoint 29 = .ok (.aload_n 0, 1) := by decide +kernel
theorem dX2_addJoint_30 : decode cX2_addJoint 30 = .ok (.getfield 37, 3) := by decide +kernel
theorem dX2_addJoint_33 : decode cX2_addJoint 33 = .ok (.aload_n 0, 1) := by decide +kernel
theorem dX2_addJoint_34 : decode cX2_addJoint 34 = .ok (.getfield 52, 3) := by decide +kernel
theorem dX2_addJoint_37 : decode cX2_addJoint 37 = .ok (.iload_n 3, 1) := by decide +kernel
theorem dX2_addJoint_38 : decode cX2_addJoint 38 = .ok (.iastore, 1) := by decide +kernel
theorem dX2_addJoint_39 : decode cX2_addJoint 39 = .ok (.aload_n 0, 1) := by decide +kernel
theorem dX2_addJoint_40 : decode cX2_addJoint 40 = .ok (.dup, 1) := by decide +kernel
theorem dX2_addJoint_41 : decode cX2_addJoint 41 = .ok (.getfield 52, 3) := by decide +kernel
theorem dX2_addJoint_44 : decode cX2_addJoint 44 = .ok (.iconst 1, 1) := by decide +kernel
theorem dX2_addJoint_45 : decode cX2_addJoint 45 = .ok (.iadd, 1) := by decide +kernel
theorem dX2_addJoint_46 : decode cX2_addJoint 46 = .ok (.putfield 52, 3) := by decide +kernel
theorem dX2_addJoint_49 : decode cX2_addJoint 49 = .ok (.return_, 1) := by decide +kernel
theorem dX2_formOf_0 : decode cX2_formOf 0 = .ok (.aload_n 0, 1) := by decide +kernel
theorem dX2_formOf_1 : decode cX2_formOf 1 = .ok (.getfield 9, 3) := by decide +kernel
theorem dX2_formOf_4 : decode cX2_formOf 4 = .ok (.ifCond .lt 29, 3) := by decide +kernel
theorem dX2_formOf_7 : decode cX2_formOf 7 = .ok (.aload_n 0, 1) := by decide +kernel
theorem dX2_formOf_8 : decode cX2_formOf 8 = .ok (.getfield 9, 3) := by decide +kernel
theorem dX2_formOf_11 : decode cX2_formOf 11 = .ok (.aload_n 0, 1) := by decide +kernel
theorem dX2_formOf_12 : decode cX2_formOf 12 = .ok (.getfield 46, 3) := by decide +kernel
theorem dX2_formOf_15 : decode cX2_formOf 15 = .ok (.if_icmp .ge 18, 3) := by decide +kernel
theorem dX2_formOf_18 : decode cX2_formOf 18 = .ok (.aload_n 0, 1) := by decide +kernel
theorem dX2_formOf_19 : decode cX2_formOf 19 = .ok (.getfield 9, 3) := by decide +kernel
theorem dX2_formOf_22 : decode cX2_formOf 22 = .ok (.iload_n 1, 1) := by decide +kernel
theorem dX2_formOf_23 : decode cX2_formOf 23 = .ok (.invokestatic 67, 3) := by decide +kernel
theorem dX2_formOf_26 : decode cX2_formOf 26 = .ok (.ifCond .eq 7, 3) := by decide +kernel
theorem dX2_formOf_29 : decode cX2_formOf 29 = .ok (.iconst 1, 1) := by decide +kernel
theorem dX2_formOf_30 : decode cX2_formOf 30 = .ok (.goto 4, 3) := by decide +kernel
theorem dX2_formOf_33 : decode cX2_formOf 33 = .ok (.iconst 0, 1) := by decide +kernel
theorem dX2_formOf_34 : decode cX2_formOf 34 = .ok (.istore_n 2, 1) := by decide +kernel
theorem dX2_formOf_35 : decode cX2_formOf 35 = .ok (.iload_n 2, 1) := by decide +kernel
theorem dX2_formOf_36 : decode cX2_formOf 36 = .ok (.ifCond .eq 15, 3) := by decide +kernel
theorem dX2_formOf_39 : decode cX2_formOf 39 = .ok (.aload_n 0, 1) := by decide +kernel
theorem dX2_formOf_40 : decode cX2_formOf 40 = .ok (.getfield 22, 3) := by decide +kernel
theorem dX2_formOf_43 : decode cX2_formOf 43 = .ok (.aload_n 0, 1) := by decide +kernel
theorem dX2_formOf_44 : decode cX2_formOf 44 = .ok (.getfield 9, 3) := by decide +kernel
theorem dX2_formOf_47 : decode cX2_formOf 47 = .ok (.iaload, 1) := by decide +kernel
end
section
theorem dX2_formOf_48 : decode cX2_formOf 48 = .ok (.goto 7, 3) := by decide +kernel
theorem dX2_formOf_51 : decode cX2_formOf 51 = .ok (.aload_n 0, 1) := by decide +kernel
theorem dX2_formOf_52 : decode cX2_formOf 52 = .ok (.getfield 40, 3) := by decide +kernel
theorem dX2_formOf_55 : decode cX2_formOf 55 = .ok (.istore_n 3, 1) := by decide +kernel
theorem dX2_formOf_56 : decode cX2_formOf 56 = .ok (.iload_n 2, 1) := by decide +kernel
theorem dX2_formOf_57 : decode cX2_formOf 57 = .ok (.ifCond .eq 7, 3) := by decide +kernel
theorem dX2_formOf_60 : decode cX2_formOf 60 = .ok (.iconst 2, 1) := by decide +kernel
theorem dX2_formOf_61 : decode cX2_formOf 61 = .ok (.goto 4, 3) := by decide +kernel
theorem dX2_formOf_64 : decode cX2_formOf 64 = .ok (.iconst 0, 1) := by decide +kernel
theorem dX2_formOf_65 : decode cX2_formOf 65 = .ok (.istore 4, 2) := by decide +kernel
theorem dX2_formOf_67 : decode cX2_formOf 67 = .ok (.iconst 0, 1) := by decide +kernel
theorem dX2_formOf_68 : decode cX2_formOf 68 = .ok (.istore 5, 2) := by decide +kernel
theorem dX2_formOf_70 : decode cX2_formOf 70 = .ok (.iload 5, 2) := by decide +kernel
theorem dX2_formOf_72 : decode cX2_formOf 72 = .ok (.aload_n 0, 1) := by decide +kernel
theorem dX2_formOf_73 : decode cX2_formOf 73 = .ok (.getfield 46, 3) := by decide +kernel
theorem dX2_formOf_76 : decode cX2_formOf 76 = .ok (.if_icmp .ge 50, 3) := by decide +kernel
theorem dX2_formOf_79 : decode cX2_formOf 79 = .ok (.aload_n 0, 1) := by decide +kernel
theorem dX2_formOf_80 : decode cX2_formOf 80 = .ok (.getfield 15, 3) := by decide +kernel
theorem dX2_formOf_83 : decode cX2_formOf 83 = .ok (.iload 5, 2) := by decide +kernel
theorem dX2_formOf_85 : decode cX2_formOf 85 = .ok (.iaload, 1) := by decide +kernel
theorem dX2_formOf_86 : decode cX2_formOf 86 = .ok (.iload 4, 2) := by decide +kernel
theorem dX2_formOf_88 : decode cX2_formOf 88 = .ok (.if_icmp .ne 32, 3) := by decide +kernel
theorem dX2_formOf_91 : decode cX2_formOf 91 = .ok (.iload 5, 2) := by decide +kernel
theorem dX2_formOf_93 : decode cX2_formOf 93 = .ok (.iload_n 1, 1) := by decide +kernel
theorem dX2_formOf_94 : decode cX2_formOf 94 = .ok (.invokestatic 67, 3) := by decide +kernel
theorem dX2_formOf_97 : decode cX2_formOf 97 = .ok (.ifCond .eq 23, 3) := by decide +kernel
theorem dX2_formOf_100 : decode cX2_formOf 100 = .ok (.iload_n 3, 1) := by decide +kernel
theorem dX2_formOf_101 : decode cX2_formOf 101 = .ok (.aload_n 0, 1) := by decide +kernel
theorem dX2_formOf_102 : decode cX2_formOf 102 = .ok (.getfield 25, 3) := by decide +kernel
theorem dX2_formOf_105 : decode cX2_formOf 105 = .ok (.iload 5, 2) := by decide +kernel
theorem dX2_formOf_107 : decode cX2_formOf 107 = .ok (.iaload, 1) := by decide +kernel
theorem dX2_formOf_108 : decode cX2_formOf 108 = .ok (.iconst (-1), 1) := by decide +kernel
theorem dX2_formOf_109 : decode cX2_formOf 109 = .ok (.ixor, 1) := by decide +kernel
theorem dX2_formOf_110 : decode cX2_formOf 110 = .ok (.iand, 1) := by decide +kernel
theorem dX2_formOf_111 : decode cX2_formOf 111 = .ok (.aload_n 0, 1) := by decide +kernel
theorem dX2_formOf_112 : decode cX2_formOf 112 = .ok (.iload 5, 2) := by decide +kernel
theorem dX2_formOf_114 : decode cX2_formOf 114 = .ok (.iload_n 1, 1) := by decide +kernel
theorem dX2_formOf_115 : decode cX2_formOf 115 = .ok (.invokevirtual 71, 3) := by decide +kernel
theorem dX2_formOf_118 : decode cX2_formOf 118 = .ok (.ior, 1) := by decide +kernel
theorem dX2_formOf_119 : decode cX2_formOf 119 = .ok (.istore_n 3, 1) := by decide +kernel
theorem dX2_formOf_120 : decode cX2_formOf 120 = .ok (.iinc 5 1, 3) := by decide +kernel
theorem dX2_formOf_123 : decode cX2_formOf 123 = .ok (.goto (-53), 3) := by decide +kernel
theorem dX2_formOf_126 : decode cX2_formOf 126 = .ok (.iload_n 3, 1) := by decide +kernel
theorem dX2_formOf_127 : decode cX2_formOf 127 = .ok (.ireturn, 1) := by decide +kernel
theorem dX2_plusOf_0 : decode cX2_plusOf 0 = .ok (.aload_n 0, 1) := by decide +kernel
theorem dX2_plusOf_1 : decode cX2_plusOf 1 = .ok (.getfield 22, 3) := by decide +kernel
theorem dX2_plusOf_4 : decode cX2_plusOf 4 = .ok (.iload_n 1, 1) := by decide +kernel
theorem dX2_plusOf_5 : decode cX2_plusOf 5 = .ok (.iaload, 1) := by decide +kernel
theorem dX2_plusOf_6 : decode cX2_plusOf 6 = .ok (.istore_n 3, 1) := by decide +kernel
theorem dX2_plusOf_7 : decode cX2_plusOf 7 = .ok (.iconst 0, 1) := by decide +kernel
theorem dX2_plusOf_8 : decode cX2_plusOf 8 = .ok (.istore 4, 2) := by decide +kernel
theorem dX2_plusOf_10 : decode cX2_plusOf 10 = .ok (.iload 4, 2) := by decide +kernel
theorem dX2_plusOf_12 : decode cX2_plusOf 12 = .ok (.aload_n 0, 1) := by decide +kernel
theorem dX2_plusOf_13 : decode cX2_plusOf 13 = .ok (.getfield 46, 3) := by decide +kernel
theorem dX2_plusOf_16 : decode cX2_plusOf 16 = .ok (.if_icmp .ge 60, 3) := by decide +kernel
theorem dX2_plusOf_19 : decode cX2_plusOf 19 = .ok (.aload_n 0, 1) := by decide +kernel
theorem dX2_plusOf_20 : decode cX2_plusOf 20 = .ok (.getfield 15, 3) := by decide +kernel
theorem dX2_plusOf_23 : decode cX2_plusOf 23 = .ok (.iload 4, 2) := by decide +kernel
theorem dX2_plusOf_25 : decode cX2_plusOf 25 = .ok (.iaload, 1) := by decide +kernel
theorem dX2_plusOf_26 : decode cX2_plusOf 26 = .ok (.iconst 3, 1) := by decide +kernel
theorem dX2_plusOf_27 : decode cX2_plusOf 27 = .ok (.if_icmp .ne 43, 3) := by decide +kernel
theorem dX2_plusOf_30 : decode cX2_plusOf 30 = .ok (.aload_n 0, 1) := by decide +kernel
theorem dX2_plusOf_31 : decode cX2_plusOf 31 = .ok (.getfield 19, 3) := by decide +kernel
theorem dX2_plusOf_34 : decode cX2_plusOf 34 = .ok (.iload 4, 2) := by decide +kernel
theorem dX2_plusOf_36 : decode cX2_plusOf 36 = .ok (.iaload, 1) := by decide +kernel
theorem dX2_plusOf_37 : decode cX2_plusOf 37 = .ok (.iload_n 1, 1) := by decide +kernel
theorem dX2_plusOf_38 : decode cX2_plusOf 38 = .ok (.if_icmp .ne 32, 3) := by decide +kernel
theorem dX2_plusOf_41 : decode cX2_plusOf 41 = .ok (.iload 4, 2) := by decide +kernel
theorem dX2_plusOf_43 : decode cX2_plusOf 43 = .ok (.iload_n 2, 1) := by decide +kernel
theorem dX2_plusOf_44 : decode cX2_plusOf 44 = .ok (.invokestatic 67, 3) := by decide +kernel
theorem dX2_plusOf_47 : decode cX2_plusOf 47 = .ok (.ifCond .eq 23, 3) := by decide +kernel
theorem dX2_plusOf_50 : decode cX2_plusOf 50 = .ok (.iload_n 3, 1) := by decide +kernel
theorem dX2_plusOf_51 : decode cX2_plusOf 51 = .ok (.aload_n 0, 1) := by decide +kernel
theorem dX2_plusOf_52 : decode cX2_plusOf 52 = .ok (.getfield 25, 3) := by decide +kernel
theorem dX2_plusOf_55 : decode cX2_plusOf 55 = .ok (.iload 4, 2) := by decide +kernel
theorem dX2_plusOf_57 : decode cX2_plusOf 57 = .ok (.iaload, 1) := by decide +kernel
theorem dX2_plusOf_58 : decode cX2_plusOf 58 = .ok (.iconst (-1), 1) := by decide +kernel
theorem dX2_plusOf_59 : decode cX2_plusOf 59 = .ok (.ixor, 1) := by decide +kernel
theorem dX2_plusOf_60 : decode cX2_plusOf 60 = .ok (.iand, 1) := by decide +kernel
theorem dX2_plusOf_61 : decode cX2_plusOf 61 = .ok (.aload_n 0, 1) := by decide +kernel
theorem dX2_plusOf_62 : decode cX2_plusOf 62 = .ok (.getfield 22, 3) := by decide +kernel
theorem dX2_plusOf_65 : decode cX2_plusOf 65 = .ok (.iload 4, 2) := by decide +kernel
theorem dX2_plusOf_67 : decode cX2_plusOf 67 = .ok (.iaload, 1) := by decide +kernel
theorem dX2_plusOf_68 : decode cX2_plusOf 68 = .ok (.ior, 1) := by decide +kernel
theorem dX2_plusOf_69 : decode cX2_plusOf 69 = .ok (.istore_n 3, 1) := by decide +kernel
theorem dX2_plusOf_70 : decode cX2_plusOf 70 = .ok (.iinc 4 1, 3) := by decide +kernel
theorem dX2_plusOf_73 : decode cX2_plusOf 73 = .ok (.goto (-63), 3) := by decide +kernel
theorem dX2_plusOf_76 : decode cX2_plusOf 76 = .ok (.iload_n 3, 1) := by decide +kernel
theorem dX2_plusOf_77 : decode cX2_plusOf 77 = .ok (.ireturn, 1) := by decide +kernel
theorem dX2_goneWith_0 : decode cX2_goneWith 0 = .ok (.iconst 1, 1) := by decide +kernel
theorem dX2_goneWith_1 : decode cX2_goneWith 1 = .ok (.iload_n 1, 1) := by decide +kernel
theorem dX2_goneWith_2 : decode cX2_goneWith 2 = .ok (.ishl, 1) := by decide +kernel
theorem dX2_goneWith_3 : decode cX2_goneWith 3 = .ok (.istore_n 2, 1) := by decide +kernel
theorem dX2_goneWith_4 : decode cX2_goneWith 4 = .ok (.iload_n 1, 1) := by decide +kernel
theorem dX2_goneWith_5 : decode cX2_goneWith 5 = .ok (.iconst 1, 1) := by decide +kernel
theorem dX2_goneWith_6 : decode cX2_goneWith 6 = .ok (.iadd, 1) := by decide +kernel
theorem dX2_goneWith_7 : decode cX2_goneWith 7 = .ok (.istore_n 3, 1) := by decide +kernel
theorem dX2_goneWith_8 : decode cX2_goneWith 8 = .ok (.iload_n 3, 1) := by decide +kernel
theorem dX2_goneWith_9 : decode cX2_goneWith 9 = .ok (.aload_n 0, 1) := by decide +kernel
theorem dX2_goneWith_10 : decode cX2_goneWith 10 = .ok (.getfield 46, 3) := by decide +kernel
theorem dX2_goneWith_13 : decode cX2_goneWith 13 = .ok (.if_icmp .ge 38, 3) := by decide +kernel
theorem dX2_goneWith_16 : decode cX2_goneWith 16 = .ok (.aload_n 0, 1) := by decide +kernel
theorem dX2_goneWith_17 : decode cX2_goneWith 17 = .ok (.getfield 19, 3) := by decide +kernel
theorem dX2_goneWith_20 : decode cX2_goneWith 20 = .ok (.iload_n 3, 1) := by decide +kernel
theorem dX2_goneWith_21 : decode cX2_goneWith 21 = .ok (.iaload, 1) := by decide +kernel
theorem dX2_goneWith_22 : decode cX2_goneWith 22 = .ok (.iconst (-1), 1) := by decide +kernel
theorem dX2_goneWith_23 : decode cX2_goneWith 23 = .ok (.if_icmp .eq 22, 3) := by decide +kernel
theorem dX2_goneWith_26 : decode cX2_goneWith 26 = .ok (.aload_n 0, 1) := by decide +kernel
theorem dX2_goneWith_27 : decode cX2_goneWith 27 = .ok (.getfield 19, 3) := by decide +kernel
theorem dX2_goneWith_30 : decode cX2_goneWith 30 = .ok (.iload_n 3, 1) := by decide +kernel
theorem dX2_goneWith_31 : decode cX2_goneWith 31 = .ok (.iaload, 1) := by decide +kernel
theorem dX2_goneWith_32 : decode cX2_goneWith 32 = .ok (.iload_n 2, 1) := by decide +kernel
theorem dX2_goneWith_33 : decode cX2_goneWith 33 = .ok (.invokestatic 67, 3) := by decide +kernel
theorem dX2_goneWith_36 : decode cX2_goneWith 36 = .ok (.ifCond .eq 9, 3) := by decide +kernel
theorem dX2_goneWith_39 : decode cX2_goneWith 39 = .ok (.iload_n 2, 1) := by decide +kernel
theorem dX2_goneWith_40 : decode cX2_goneWith 40 = .ok (.iconst 1, 1) := by decide +kernel
theorem dX2_goneWith_41 : decode cX2_goneWith 41 = .ok (.iload_n 3, 1) := by decide +kernel
theorem dX2_goneWith_42 : decode cX2_goneWith 42 = .ok (.ishl, 1) := by decide +kernel
theorem dX2_goneWith_43 : decode cX2_goneWith 43 = .ok (.ior, 1) := by decide +kernel
theorem dX2_goneWith_44 : decode cX2_goneWith 44 = .ok (.istore_n 2, 1) := by decide +kernel
theorem dX2_goneWith_45 : decode cX2_goneWith 45 = .ok (.iinc 3 1, 3) := by decide +kernel
theorem dX2_goneWith_48 : decode cX2_goneWith 48 = .ok (.goto (-40), 3) := by decide +kernel
theorem dX2_goneWith_51 : decode cX2_goneWith 51 = .ok (.iload_n 2, 1) := by decide +kernel
theorem dX2_goneWith_52 : decode cX2_goneWith 52 = .ok (.ireturn, 1) := by decide +kernel
theorem dX4_init_0 : decode cX4_init 0 = .ok (.aload_n 0, 1) := by decide +kernel
theorem dX4_init_1 : decode cX4_init 1 = .ok (.invokespecial 3, 3) := by decide +kernel
theorem dX4_init_4 : decode cX4_init 4 = .ok (.aload_n 0, 1) := by decide +kernel
theorem dX4_init_5 : decode cX4_init 5 = .ok (.aload_n 1, 1) := by decide +kernel
theorem dX4_init_6 : decode cX4_init 6 = .ok (.putfield 9, 3) := by decide +kernel
theorem dX4_init_9 : decode cX4_init 9 = .ok (.aload_n 0, 1) := by decide +kernel
theorem dX4_init_10 : decode cX4_init 10 = .ok (.aload_n 2, 1) := by decide +kernel
theorem dX4_init_11 : decode cX4_init 11 = .ok (.putfield 15, 3) := by decide +kernel
theorem dX4_init_14 : decode cX4_init 14 = .ok (.aload_n 0, 1) := by decide +kernel
theorem dX4_init_15 : decode cX4_init 15 = .ok (.aload_n 3, 1) := by decide +kernel
theorem dX4_init_16 : decode cX4_init 16 = .ok (.putfield 19, 3) := by decide +kernel
theorem dX4_init_19 : decode cX4_init 19 = .ok (.aload_n 0, 1) := by decide +kernel
theorem dX4_init_20 : decode cX4_init 20 = .ok (.aload_n 3, 1) := by decide +kernel
theorem dX4_init_21 : decode cX4_init 21 = .ok (.getfield 23, 3) := by decide +kernel
theorem dX4_init_24 : decode cX4_init 24 = .ok (.putfield 29, 3) := by decide +kernel
theorem dX4_init_27 : decode cX4_init 27 = .ok (.return_, 1) := by decide +kernel
theorem dX4_tryAll_0 : decode cX4_tryAll 0 = .ok (.aload_n 0, 1) := by decide +kernel
theorem dX4_tryAll_1 : decode cX4_tryAll 1 = .ok (.iload_n 1, 1) := by decide +kernel
theorem dX4_tryAll_2 : decode cX4_tryAll 2 = .ok (.putfield 30, 3) := by decide +kernel
theorem dX4_tryAll_5 : decode cX4_tryAll 5 = .ok (.aload_n 0, 1) := by decide +kernel
theorem dX4_tryAll_6 : decode cX4_tryAll 6 = .ok (.iconst 0, 1) := by decide +kernel
theorem dX4_tryAll_7 : decode cX4_tryAll 7 = .ok (.putfield 34, 3) := by decide +kernel
theorem dX4_tryAll_10 : decode cX4_tryAll 10 = .ok (.aload_n 0, 1) := by decide +kernel
theorem dX4_tryAll_11 : decode cX4_tryAll 11 = .ok (.iconst 0, 1) := by decide +kernel
theorem dX4_tryAll_12 : decode cX4_tryAll 12 = .ok (.putfield 37, 3) := by decide +kernel
theorem dX4_tryAll_15 : decode cX4_tryAll 15 = .ok (.aload_n 0, 1) := by decide +kernel
theorem dX4_tryAll_16 : decode cX4_tryAll 16 = .ok (.iconst 0, 1) := by decide +kernel
theorem dX4_tryAll_17 : decode cX4_tryAll 17 = .ok (.putfield 40, 3) := by decide +kernel
theorem dX4_tryAll_20 : decode cX4_tryAll 20 = .ok (.iconst 1, 1) := by decide +kernel
theorem dX4_tryAll_21 : decode cX4_tryAll 21 = .ok (.aload_n 0, 1) := by decide +kernel
theorem dX4_tryAll_22 : decode cX4_tryAll 22 = .ok (.getfield 9, 3) := by decide +kernel
theorem dX4_tryAll_25 : decode cX4_tryAll 25 = .ok (.getfield 43, 3) := by decide +kernel
theorem dX4_tryAll_28 : decode cX4_tryAll 28 = .ok (.ishl, 1) := by decide +kernel
theorem dX4_tryAll_29 : decode cX4_tryAll 29 = .ok (.iconst 1, 1) := by decide +kernel
theorem dX4_tryAll_30 : decode cX4_tryAll 30 = .ok (.isub, 1) := by decide +kernel
theorem dX4_tryAll_31 : decode cX4_tryAll 31 = .ok (.istore_n 3, 1) := by decide +kernel
theorem dX4_tryAll_32 : decode cX4_tryAll 32 = .ok (.aload_n 0, 1) := by decide +kernel
theorem dX4_tryAll_33 : decode cX4_tryAll 33 = .ok (.getfield 19, 3) := by decide +kernel
theorem dX4_tryAll_36 : decode cX4_tryAll 36 = .ok (.iload_n 2, 1) := by decide +kernel
theorem dX4_tryAll_37 : decode cX4_tryAll 37 = .ok (.aload_n 0, 1) := by decide +kernel
theorem dX4_tryAll_38 : decode cX4_tryAll 38 = .ok (.getfield 9, 3) := by decide +kernel
theorem dX4_tryAll_41 : decode cX4_tryAll 41 = .ok (.getfield 43, 3) := by decide +kernel
theorem dX4_tryAll_44 : decode cX4_tryAll 44 = .ok (.iload_n 3, 1) := by decide +kernel
theorem dX4_tryAll_45 : decode cX4_tryAll 45 = .ok (.invokevirtual 48, 3) := by decide +kernel
theorem dX4_tryAll_48 : decode cX4_tryAll 48 = .ok (.aload_n 0, 1) := by decide +kernel
theorem dX4_tryAll_49 : decode cX4_tryAll 49 = .ok (.aload_n 0, 1) := by decide +kernel
theorem dX4_tryAll_50 : decode cX4_tryAll 50 = .ok (.getfield 9, 3) := by decide +kernel
theorem dX4_tryAll_53 : decode cX4_tryAll 53 = .ok (.getfield 43, 3) := by decide +kernel
theorem dX4_tryAll_56 : decode cX4_tryAll 56 = .ok (.iconst 1, 1) := by decide +kernel
theorem dX4_tryAll_57 : decode cX4_tryAll 57 = .ok (.isub, 1) := by decide +kernel
theorem dX4_tryAll_58 : decode cX4_tryAll 58 = .ok (.iload_n 3, 1) := by decide +kernel
theorem dX4_tryAll_59 : decode cX4_tryAll 59 = .ok (.iconst 0, 1) := by decide +kernel
theorem dX4_tryAll_60 : decode cX4_tryAll 60 = .ok (.invokevirtual 52, 3) := by decide +kernel
theorem dX4_tryAll_63 : decode cX4_tryAll 63 = .ok (.return_, 1) := by decide +kernel
theorem dX4_tryLast_0 : decode cX4_tryLast 0 = .ok (.iload_n 1, 1) := by decide +kernel
theorem dX4_tryLast_1 : decode cX4_tryLast 1 = .ok (.ifCond .ge 18, 3) := by decide +kernel
theorem dX4_tryLast_4 : decode cX4_tryLast 4 = .ok (.aload_n 0, 1) := by decide +kernel
theorem dX4_tryLast_5 : decode cX4_tryLast 5 = .ok (.aload_n 0, 1) := by decide +kernel
theorem dX4_tryLast_6 : decode cX4_tryLast 6 = .ok (.getfield 19, 3) := by decide +kernel
theorem dX4_tryLast_9 : decode cX4_tryLast 9 = .ok (.getfield 55, 3) := by decide +kernel
theorem dX4_tryLast_12 : decode cX4_tryLast 12 = .ok (.iconst 0, 1) := by decide +kernel
theorem dX4_tryLast_13 : decode cX4_tryLast 13 = .ok (.iaload, 1) := by decide +kernel
theorem dX4_tryLast_14 : decode cX4_tryLast 14 = .ok (.iload_n 3, 1) := by decide +kernel
theorem dX4_tryLast_15 : decode cX4_tryLast 15 = .ok (.invokevirtual 59, 3) := by decide +kernel
theorem dX4_tryLast_18 : decode cX4_tryLast 18 = .ok (.return_, 1) := by decide +kernel
theorem dX4_tryLast_19 : decode cX4_tryLast 19 = .ok (.iconst 0, 1) := by decide +kernel
theorem dX4_tryLast_20 : decode cX4_tryLast 20 = .ok (.istore 4, 2) := by decide +kernel
theorem dX4_tryLast_22 : decode cX4_tryLast 22 = .ok (.iload 4, 2) := by decide +kernel
theorem dX4_tryLast_24 : decode cX4_tryLast 24 = .ok (.aload_n 0, 1) := by decide +kernel
theorem dX4_tryLast_25 : decode cX4_tryLast 25 = .ok (.getfield 9, 3) := by decide +kernel
theorem dX4_tryLast_28 : decode cX4_tryLast 28 = .ok (.getfield 43, 3) := by decide +kernel
theorem dX4_tryLast_31 : decode cX4_tryLast 31 = .ok (.if_icmp .ge 62, 3) := by decide +kernel
theorem dX4_tryLast_34 : decode cX4_tryLast 34 = .ok (.aload_n 0, 1) := by decide +kernel
theorem dX4_tryLast_35 : decode cX4_tryLast 35 = .ok (.getfield 29, 3) := by decide +kernel
theorem dX4_tryLast_38 : decode cX4_tryLast 38 = .ok (.iload 4, 2) := by decide +kernel
theorem dX4_tryLast_40 : decode cX4_tryLast 40 = .ok (.iload_n 2, 1) := by decide +kernel
theorem dX4_tryLast_41 : decode cX4_tryLast 41 = .ok (.invokevirtual 63, 3) := by decide +kernel
theorem dX4_tryLast_44 : decode cX4_tryLast 44 = .ok (.ifCond .eq 43, 3) := by decide +kernel
theorem dX4_tryLast_47 : decode cX4_tryLast 47 = .ok (.iload_n 2, 1) := by decide +kernel
theorem dX4_tryLast_48 : decode cX4_tryLast 48 = .ok (.iconst 1, 1) := by decide +kernel
theorem dX4_tryLast_49 : decode cX4_tryLast 49 = .ok (.iload 4, 2) := by decide +kernel
theorem dX4_tryLast_51 : decode cX4_tryLast 51 = .ok (.ishl, 1) := by decide +kernel
theorem dX4_tryLast_52 : decode cX4_tryLast 52 = .ok (.iconst (-1), 1) := by decide +kernel
theorem dX4_tryLast_53 : decode cX4_tryLast 53 = .ok (.ixor, 1) := by decide +kernel
theorem dX4_tryLast_54 : decode cX4_tryLast 54 = .ok (.iand, 1) := by decide +kernel
theorem dX4_tryLast_55 : decode cX4_tryLast 55 = .ok (.istore 5, 2) := by decide +kernel
theorem dX4_tryLast_57 : decode cX4_tryLast 57 = .ok (.aload_n 0, 1) := by decide +kernel
theorem dX4_tryLast_58 : decode cX4_tryLast 58 = .ok (.getfield 19, 3) := by decide +kernel
theorem dX4_tryLast_61 : decode cX4_tryLast 61 = .ok (.iload_n 1, 1) := by decide +kernel
theorem dX4_tryLast_62 : decode cX4_tryLast 62 = .ok (.iload 4, 2) := by decide +kernel
theorem dX4_tryLast_64 : decode cX4_tryLast 64 = .ok (.iload 5, 2) := by decide +kernel
theorem dX4_tryLast_66 : decode cX4_tryLast 66 = .ok (.invokevirtual 69, 3) := by decide +kernel
theorem dX4_tryLast_69 : decode cX4_tryLast 69 = .ok (.aload_n 0, 1) := by decide +kernel
theorem dX4_tryLast_70 : decode cX4_tryLast 70 = .ok (.iload_n 1, 1) := by decide +kernel
theorem dX4_tryLast_71 : decode cX4_tryLast 71 = .ok (.iconst 1, 1) := by decide +kernel
theorem dX4_tryLast_72 : decode cX4_tryLast 72 = .ok (.isub, 1) := by decide +kernel
theorem dX4_tryLast_73 : decode cX4_tryLast 73 = .ok (.iload 5, 2) := by decide +kernel
theorem dX4_tryLast_75 : decode cX4_tryLast 75 = .ok (.iload_n 3, 1) := by decide +kernel
theorem dX4_tryLast_76 : decode cX4_tryLast 76 = .ok (.iload 4, 2) := by decide +kernel
theorem dX4_tryLast_78 : decode cX4_tryLast 78 = .ok (.iload_n 1, 1) := by decide +kernel
theorem dX4_tryLast_79 : decode cX4_tryLast 79 = .ok (.invokestatic 72, 3) := by decide +kernel
theorem dX4_tryLast_82 : decode cX4_tryLast 82 = .ok (.ishl, 1) := by decide +kernel
theorem dX4_tryLast_83 : decode cX4_tryLast 83 = .ok (.ior, 1) := by decide +kernel
theorem dX4_tryLast_84 : decode cX4_tryLast 84 = .ok (.invokevirtual 52, 3) := by decide +kernel
theorem dX4_tryLast_87 : decode cX4_tryLast 87 = .ok (.iinc 4 1, 3) := by decide +kernel
theorem dX4_tryLast_90 : decode cX4_tryLast 90 = .ok (.goto (-68), 3) := by decide +kernel
theorem dX4_tryLast_93 : decode cX4_tryLast 93 = .ok (.return_, 1) := by decide +kernel
theorem dX4_judge_0 : decode cX4_judge 0 = .ok (.aload_n 0, 1) := by decide +kernel
theorem dX4_judge_1 : decode cX4_judge 1 = .ok (.getfield 15, 3) := by decide +kernel
theorem dX4_judge_4 : decode cX4_judge 4 = .ok (.aload_n 0, 1) := by decide +kernel
theorem dX4_judge_5 : decode cX4_judge 5 = .ok (.getfield 30, 3) := by decide +kernel
theorem dX4_judge_8 : decode cX4_judge 8 = .ok (.iload_n 1, 1) := by decide +kernel
theorem dX4_judge_9 : decode cX4_judge 9 = .ok (.invokevirtual 76, 3) := by decide +kernel
theorem dX4_judge_12 : decode cX4_judge 12 = .ok (.aload_n 0, 1) := by decide +kernel
theorem dX4_judge_13 : decode cX4_judge 13 = .ok (.getfield 15, 3) := by decide +kernel
theorem dX4_judge_16 : decode cX4_judge 16 = .ok (.aload_n 0, 1) := by decide +kernel
theorem dX4_judge_17 : decode cX4_judge 17 = .ok (.getfield 30, 3) := by decide +kernel
theorem dX4_judge_20 : decode cX4_judge 20 = .ok (.aload_n 0, 1) := by decide +kernel
theorem dX4_judge_21 : decode cX4_judge 21 = .ok (.getfield 34, 3) := by decide +kernel
theorem dX4_judge_24 : decode cX4_judge 24 = .ok (.invokevirtual 76, 3) := by decide +kernel
theorem dX4_judge_27 : decode cX4_judge 27 = .ok (.isub, 1) := by decide +kernel
theorem dX4_judge_28 : decode cX4_judge 28 = .ok (.istore_n 3, 1) := by decide +kernel
theorem dX4_judge_29 : decode cX4_judge 29 = .ok (.aload_n 0, 1) := by decide +kernel
theorem dX4_judge_30 : decode cX4_judge 30 = .ok (.getfield 37, 3) := by decide +kernel
theorem dX4_judge_33 : decode cX4_judge 33 = .ok (.ifCond .eq 7, 3) := by decide +kernel
theorem dX4_judge_36 : decode cX4_judge 36 = .ok (.iload_n 3, 1) := by decide +kernel
theorem dX4_judge_37 : decode cX4_judge 37 = .ok (.ifCond .le 11, 3) := by decide +kernel
theorem dX4_judge_40 : decode cX4_judge 40 = .ok (.aload_n 0, 1) := by decide +kernel
theorem dX4_judge_41 : decode cX4_judge 41 = .ok (.iconst 0, 1) := by decide +kernel
theorem dX4_judge_42 : decode cX4_judge 42 = .ok (.putfield 37, 3) := by decide +kernel
theorem dX4_judge_45 : decode cX4_judge 45 = .ok (.goto 8, 3) := by decide +kernel
theorem dX4_judge_48 : decode cX4_judge 48 = .ok (.iload_n 3, 1) := by decide +kernel
theorem dX4_judge_49 : decode cX4_judge 49 = .ok (.ifCond .ge 4, 3) := by decide +kernel
theorem dX4_judge_52 : decode cX4_judge 52 = .ok (.return_, 1) := by decide +kernel
theorem dX4_judge_53 : decode cX4_judge 53 = .ok (.aload_n 0, 1) := by decide +kernel
theorem dX4_judge_54 : decode cX4_judge 54 = .ok (.getfield 37, 3) := by decide +kernel
theorem dX4_judge_57 : decode cX4_judge 57 = .ok (.ifCond .eq 11, 3) := by decide +kernel
theorem dX4_judge_60 : decode cX4_judge 60 = .ok (.iload_n 2, 1) := by decide +kernel
theorem dX4_judge_61 : decode cX4_judge 61 = .ok (.aload_n 0, 1) := by decide +kernel
theorem dX4_judge_62 : decode cX4_judge 62 = .ok (.getfield 40, 3) := by decide +kernel
theorem dX4_judge_65 : decode cX4_judge 65 = .ok (.if_icmp .ge 13, 3) := by decide +kernel
theorem dX4_judge_68 : decode cX4_judge 68 = .ok (.aload_n 0, 1) := by decide +kernel
theorem dX4_judge_69 : decode cX4_judge 69 = .ok (.iload_n 1, 1) := by decide +kernel
theorem dX4_judge_70 : decode cX4_judge 70 = .ok (.putfield 34, 3) := by decide +kernel
theorem dX4_judge_73 : decode cX4_judge 73 = .ok (.aload_n 0, 1) := by decide +kernel
theorem dX4_judge_74 : decode cX4_judge 74 = .ok (.iload_n 2, 1) := by decide +kernel
theorem dX4_judge_75 : decode cX4_judge 75 = .ok (.putfield 40, 3) := by decide +kernel
theorem dX4_judge_78 : decode cX4_judge 78 = .ok (.aload_n 0, 1) := by decide +kernel
theorem dX4_judge_79 : decode cX4_judge 79 = .ok (.dup, 1) := by decide +kernel
theorem dX4_judge_80 : decode cX4_judge 80 = .ok (.getfield 37, 3) := by decide +kernel
theorem dX4_judge_83 : decode cX4_judge 83 = .ok (.iconst 1, 1) := by decide +kernel
theorem dX4_judge_84 : decode cX4_judge 84 = .ok (.iadd, 1) := by decide +kernel
theorem dX4_judge_85 : decode cX4_judge 85 = .ok (.putfield 37, 3) := by decide +kernel
theorem dX4_judge_88 : decode cX4_judge 88 = .ok (.return_, 1) := by decide +kernel
theorem dX4_bestRow_0 : decode cX4_bestRow 0 = .ok (.iconst 0, 1) := by decide +kernel
theorem dX4_bestRow_1 : decode cX4_bestRow 1 = .ok (.istore_n 1, 1) := by decide +kernel
theorem dX4_bestRow_2 : decode cX4_bestRow 2 = .ok (.iconst 0, 1) := by decide +kernel
theorem dX4_bestRow_3 : decode cX4_bestRow 3 = .ok (.istore_n 2, 1) := by decide +kernel
theorem dX4_bestRow_4 : decode cX4_bestRow 4 = .ok (.iload_n 2, 1) := by decide +kernel
theorem dX4_bestRow_5 : decode cX4_bestRow 5 = .ok (.aload_n 0, 1) := by decide +kernel
theorem dX4_bestRow_6 : decode cX4_bestRow 6 = .ok (.getfield 9, 3) := by decide +kernel
theorem dX4_bestRow_9 : decode cX4_bestRow 9 = .ok (.getfield 43, 3) := by decide +kernel
theorem dX4_bestRow_12 : decode cX4_bestRow 12 = .ok (.if_icmp .ge 28, 3) := by decide +kernel
theorem dX4_bestRow_15 : decode cX4_bestRow 15 = .ok (.iload_n 1, 1) := by decide +kernel
theorem dX4_bestRow_16 : decode cX4_bestRow 16 = .ok (.aload_n 0, 1) := by decide +kernel
theorem dX4_bestRow_17 : decode cX4_bestRow 17 = .ok (.getfield 40, 3) := by decide +kernel
theorem dX4_bestRow_20 : decode cX4_bestRow 20 = .ok (.iload_n 2, 1) := by decide +kernel
theorem dX4_bestRow_21 : decode cX4_bestRow 21 = .ok (.invokestatic 72, 3) := by decide +kernel
theorem dX4_bestRow_24 : decode cX4_bestRow 24 = .ok (.ishr, 1) := by decide +kernel
theorem dX4_bestRow_25 : decode cX4_bestRow 25 = .ok (.bipush 15, 2) := by decide +kernel
theorem dX4_bestRow_27 : decode cX4_bestRow 27 = .ok (.iand, 1) := by decide +kernel
theorem dX4_bestRow_28 : decode cX4_bestRow 28 = .ok (.iconst 4, 1) := by decide +kernel
theorem dX4_bestRow_29 : decode cX4_bestRow 29 = .ok (.iload_n 2, 1) := by decide +kernel
theorem dX4_bestRow_30 : decode cX4_bestRow 30 = .ok (.imul, 1) := by decide +kernel
theorem dX4_bestRow_31 : decode cX4_bestRow 31 = .ok (.ishl, 1) := by decide +kernel
theorem dX4_bestRow_32 : decode cX4_bestRow 32 = .ok (.ior, 1) := by decide +kernel
theorem dX4_bestRow_33 : decode cX4_bestRow 33 = .ok (.istore_n 1, 1) := by decide +kernel
theorem dX4_bestRow_34 : decode cX4_bestRow 34 = .ok (.iinc 2 1, 3) := by decide +kernel
theorem dX4_bestRow_37 : decode cX4_bestRow 37 = .ok (.goto (-33), 3) := by decide +kernel
theorem dX4_bestRow_40 : decode cX4_bestRow 40 = .ok (.iload_n 1, 1) := by decide +kernel
theorem dX4_bestRow_41 : decode cX4_bestRow 41 = .ok (.ireturn, 1) := by decide +kernel
theorem dX4_shiftOf_0 : decode cX4_shiftOf 0 = .ok (.iconst 4, 1) := by decide +kernel
theorem dX4_shiftOf_1 : decode cX4_shiftOf 1 = .ok (.iconst 5, 1) := by decide +kernel
theorem dX4_shiftOf_2 : decode cX4_shiftOf 2 = .ok (.iload_n 0, 1) := by decide +kernel
theorem dX4_shiftOf_3 : decode cX4_shiftOf 3 = .ok (.isub, 1) := by decide +kernel
theorem dX4_shiftOf_4 : decode cX4_shiftOf 4 = .ok (.imul, 1) := by decide +kernel
theorem dX4_shiftOf_5 : decode cX4_shiftOf 5 = .ok (.ireturn, 1) := by decide +kernel
theorem dX5_init_0 : decode cX5_init 0 = .ok (.aload_n 0, 1) := by decide +kernel
theorem dX5_init_1 : decode cX5_init 1 = .ok (.invokespecial 3, 3) := by decide +kernel
theorem dX5_init_4 : decode cX5_init 4 = .ok (.aload_n 0, 1) := by decide +kernel
theorem dX5_init_5 : decode cX5_init 5 = .ok (.sipush 2304, 3) := by decide +kernel
theorem dX5_init_8 : decode cX5_init 8 = .ok (.newarray .int, 2) := by decide +kernel
theorem dX5_init_10 : decode cX5_init 10 = .ok (.putfield 9, 3) := by decide +kernel
theorem dX5_init_13 : decode cX5_init 13 = .ok (.aload_n 0, 1) := by decide +kernel
theorem dX5_init_14 : decode cX5_init 14 = .ok (.aload_n 1, 1) := by decide +kernel
theorem dX5_init_15 : decode cX5_init 15 = .ok (.putfield 15, 3) := by decide +kernel
theorem dX5_init_18 : decode cX5_init 18 = .ok (.return_, 1) := by decide +kernel
theorem dX5_takeAll_0 : decode cX5_takeAll 0 = .ok (.iconst 0, 1) := by decide +kernel
theorem dX5_takeAll_1 : decode cX5_takeAll 1 = .ok (.istore_n 1, 1) := by decide +kernel
theorem dX5_takeAll_2 : decode cX5_takeAll 2 = .ok (.iload_n 1, 1) := by decide +kernel
theorem dX5_takeAll_3 : decode cX5_takeAll 3 = .ok (.aload_n 0, 1) := by decide +kernel
theorem dX5_takeAll_4 : decode cX5_takeAll 4 = .ok (.getfield 15, 3) := by decide +kernel
theorem dX5_takeAll_7 : decode cX5_takeAll 7 = .ok (.getfield 19, 3) := by decide +kernel
theorem dX5_takeAll_10 : decode cX5_takeAll 10 = .ok (.if_icmp .ge 14, 3) := by decide +kernel
theorem dX5_takeAll_13 : decode cX5_takeAll 13 = .ok (.aload_n 0, 1) := by decide +kernel
theorem dX5_takeAll_14 : decode cX5_takeAll 14 = .ok (.iload_n 1, 1) := by decide +kernel
theorem dX5_takeAll_15 : decode cX5_takeAll 15 = .ok (.invokevirtual 25, 3) := by decide +kernel
theorem dX5_takeAll_18 : decode cX5_takeAll 18 = .ok (.iinc 1 1, 3) := by decide +kernel
theorem dX5_takeAll_21 : decode cX5_takeAll 21 = .ok (.goto (-19), 3) := by decide +kernel
theorem dX5_takeAll_24 : decode cX5_takeAll 24 = .ok (.return_, 1) := by decide +kernel
theorem dX5_takeVoter_0 : decode cX5_takeVoter 0 = .ok (.iload_n 1, 1) := by decide +kernel
theorem dX5_takeVoter_1 : decode cX5_takeVoter 1 = .ok (.sipush 256, 3) := by decide +kernel
theorem dX5_takeVoter_4 : decode cX5_takeVoter 4 = .ok (.imul, 1) := by decide +kernel
theorem dX5_takeVoter_5 : decode cX5_takeVoter 5 = .ok (.istore_n 2, 1) := by decide +kernel
theorem dX5_takeVoter_6 : decode cX5_takeVoter 6 = .ok (.aload_n 0, 1) := by decide +kernel
theorem dX5_takeVoter_7 : decode cX5_takeVoter 7 = .ok (.getfield 9, 3) := by decide +kernel
theorem dX5_takeVoter_10 : decode cX5_takeVoter 10 = .ok (.iload_n 2, 1) := by decide +kernel
theorem dX5_takeVoter_11 : decode cX5_takeVoter 11 = .ok (.iconst 0, 1) := by decide +kernel
theorem dX5_takeVoter_12 : decode cX5_takeVoter 12 = .ok (.iastore, 1) := by decide +kernel
theorem dX5_takeVoter_13 : decode cX5_takeVoter 13 = .ok (.iconst 0, 1) := by decide +kernel
theorem dX5_takeVoter_14 : decode cX5_takeVoter 14 = .ok (.istore_n 3, 1) := by decide +kernel
theorem dX5_takeVoter_15 : decode cX5_takeVoter 15 = .ok (.iload_n 3, 1) := by decide +kernel
theorem dX5_takeVoter_16 : decode cX5_takeVoter 16 = .ok (.bipush 8, 2) := by decide +kernel
theorem dX5_takeVoter_18 : decode cX5_takeVoter 18 = .ok (.if_icmp .ge 70, 3) := by decide +kernel
theorem dX5_takeVoter_21 : decode cX5_takeVoter 21 = .ok (.iconst 1, 1) := by decide +kernel
theorem dX5_takeVoter_22 : decode cX5_takeVoter 22 = .ok (.iload_n 3, 1) := by decide +kernel
theorem dX5_takeVoter_23 : decode cX5_takeVoter 23 = .ok (.ishl, 1) := by decide +kernel
theorem dX5_takeVoter_24 : decode cX5_takeVoter 24 = .ok (.istore 4, 2) := by decide +kernel
theorem dX5_takeVoter_26 : decode cX5_takeVoter 26 = .ok (.aload_n 0, 1) := by decide +kernel
theorem dX5_takeVoter_27 : decode cX5_takeVoter 27 = .ok (.getfield 15, 3) := by decide +kernel
theorem dX5_takeVoter_30 : decode cX5_takeVoter 30 = .ok (.getfield 29, 3) := by decide +kernel
theorem dX5_takeVoter_33 : decode cX5_takeVoter 33 = .ok (.iload_n 1, 1) := by decide +kernel
theorem dX5_takeVoter_34 : decode cX5_takeVoter 34 = .ok (.bipush 8, 2) := by decide +kernel
theorem dX5_takeVoter_36 : decode cX5_takeVoter 36 = .ok (.imul, 1) := by decide +kernel
theorem dX5_takeVoter_37 : decode cX5_takeVoter 37 = .ok (.iload_n 3, 1) := by decide +kernel
theorem dX5_takeVoter_38 : decode cX5_takeVoter 38 = .ok (.iadd, 1) := by decide +kernel
theorem dX5_takeVoter_39 : decode cX5_takeVoter 39 = .ok (.iaload, 1) := by decide +kernel
theorem dX5_takeVoter_40 : decode cX5_takeVoter 40 = .ok (.istore 5, 2) := by decide +kernel
theorem dX5_takeVoter_42 : decode cX5_takeVoter 42 = .ok (.iconst 0, 1) := by decide +kernel
theorem dX5_takeVoter_43 : decode cX5_takeVoter 43 = .ok (.istore 6, 2) := by decide +kernel
theorem dX5_takeVoter_45 : decode cX5_takeVoter 45 = .ok (.iload 6, 2) := by decide +kernel
theorem dX5_takeVoter_47 : decode cX5_takeVoter 47 = .ok (.iload 4, 2) := by decide +kernel
theorem dX5_takeVoter_49 : decode cX5_takeVoter 49 = .ok (.if_icmp .ge 33, 3) := by decide +kernel
theorem dX5_takeVoter_52 : decode cX5_takeVoter 52 = .ok (.aload_n 0, 1) := by decide +kernel
theorem dX5_takeVoter_53 : decode cX5_takeVoter 53 = .ok (.getfield 9, 3) := by decide +kernel
theorem dX5_takeVoter_56 : decode cX5_takeVoter 56 = .ok (.iload_n 2, 1) := by decide +kernel
theorem dX5_takeVoter_57 : decode cX5_takeVoter 57 = .ok (.iload 4, 2) := by decide +kernel
theorem dX5_takeVoter_59 : decode cX5_takeVoter 59 = .ok (.iadd, 1) := by decide +kernel
theorem dX5_takeVoter_60 : decode cX5_takeVoter 60 = .ok (.iload 6, 2) := by decide +kernel
theorem dX5_takeVoter_62 : decode cX5_takeVoter 62 = .ok (.iadd, 1) := by decide +kernel
theorem dX5_takeVoter_63 : decode cX5_takeVoter 63 = .ok (.aload_n 0, 1) := by decide +kernel
theorem dX5_takeVoter_64 : decode cX5_takeVoter 64 = .ok (.getfield 9, 3) := by decide +kernel
theorem dX5_takeVoter_67 : decode cX5_takeVoter 67 = .ok (.iload_n 2, 1) := by decide +kernel
theorem dX5_takeVoter_68 : decode cX5_takeVoter 68 = .ok (.iload 6, 2) := by decide +kernel
theorem dX5_takeVoter_70 : decode cX5_takeVoter 70 = .ok (.iadd, 1) := by decide +kernel
theorem dX5_takeVoter_71 : decode cX5_takeVoter 71 = .ok (.iaload, 1) := by decide +kernel
theorem dX5_takeVoter_72 : decode cX5_takeVoter 72 = .ok (.iload 5, 2) := by decide +kernel
theorem dX5_takeVoter_74 : decode cX5_takeVoter 74 = .ok (.iadd, 1) := by decide +kernel
theorem dX5_takeVoter_75 : decode cX5_takeVoter 75 = .ok (.iastore, 1) := by decide +kernel
theorem dX5_takeVoter_76 : decode cX5_takeVoter 76 = .ok (.iinc 6 1, 3) := by decide +kernel
theorem dX5_takeVoter_79 : decode cX5_takeVoter 79 = .ok (.goto (-34), 3) := by decide +kernel
theorem dX5_takeVoter_82 : decode cX5_takeVoter 82 = .ok (.iinc 3 1, 3) := by decide +kernel
theorem dX5_takeVoter_85 : decode cX5_takeVoter 85 = .ok (.goto (-70), 3) := by decide +kernel
theorem dX5_takeVoter_88 : decode cX5_takeVoter 88 = .ok (.iconst 0, 1) := by decide +kernel
theorem dX5_takeVoter_89 : decode cX5_takeVoter 89 = .ok (.istore_n 3, 1) := by decide +kernel
theorem dX5_takeVoter_90 : decode cX5_takeVoter 90 = .ok (.iload_n 3, 1) := by decide +kernel
theorem dX5_takeVoter_91 : decode cX5_takeVoter 91 = .ok (.aload_n 0, 1) := by decide +kernel
theorem dX5_takeVoter_92 : decode cX5_takeVoter 92 = .ok (.getfield 15, 3) := by decide +kernel
theorem dX5_takeVoter_95 : decode cX5_takeVoter 95 = .ok (.getfield 32, 3) := by decide +kernel
theorem dX5_takeVoter_98 : decode cX5_takeVoter 98 = .ok (.if_icmp .ge 45, 3) := by decide +kernel
theorem dX5_takeVoter_101 : decode cX5_takeVoter 101 = .ok (.aload_n 0, 1) := by decide +kernel
theorem dX5_takeVoter_102 : decode cX5_takeVoter 102 = .ok (.getfield 15, 3) := by decide +kernel
theorem dX5_takeVoter_105 : decode cX5_takeVoter 105 = .ok (.getfield 35, 3) := by decide +kernel
theorem dX5_takeVoter_108 : decode cX5_takeVoter 108 = .ok (.iload_n 3, 1) := by decide +kernel
theorem dX5_takeVoter_109 : decode cX5_takeVoter 109 = .ok (.iaload, 1) := by decide +kernel
theorem dX5_takeVoter_110 : decode cX5_takeVoter 110 = .ok (.iload_n 1, 1) := by decide +kernel
theorem dX5_takeVoter_111 : decode cX5_takeVoter 111 = .ok (.if_icmp .ne 26, 3) := by decide +kernel
theorem dX5_takeVoter_114 : decode cX5_takeVoter 114 = .ok (.aload_n 0, 1) := by decide +kernel
theorem dX5_takeVoter_115 : decode cX5_takeVoter 115 = .ok (.iload_n 2, 1) := by decide +kernel
theorem dX5_takeVoter_116 : decode cX5_takeVoter 116 = .ok (.aload_n 0, 1) := by decide +kernel
theorem dX5_takeVoter_117 : decode cX5_takeVoter 117 = .ok (.getfield 15, 3) := by decide +kernel
theorem dX5_takeVoter_120 : decode cX5_takeVoter 120 = .ok (.getfield 38, 3) := by decide +kernel
theorem dX5_takeVoter_123 : decode cX5_takeVoter 123 = .ok (.iload_n 3, 1) := by decide +kernel
theorem dX5_takeVoter_124 : decode cX5_takeVoter 124 = .ok (.iaload, 1) := by decide +kernel
theorem dX5_takeVoter_125 : decode cX5_takeVoter 125 = .ok (.aload_n 0, 1) := by decide +kernel
theorem dX5_takeVoter_126 : decode cX5_takeVoter 126 = .ok (.getfield 15, 3) := by decide +kernel
theorem dX5_takeVoter_129 : decode cX5_takeVoter 129 = .ok (.getfield 41, 3) := by decide +kernel
theorem dX5_takeVoter_132 : decode cX5_takeVoter 132 = .ok (.iload_n 3, 1) := by decide +kernel
theorem dX5_takeVoter_133 : decode cX5_takeVoter 133 = .ok (.iaload, 1) := by decide +kernel
theorem dX5_takeVoter_134 : decode cX5_takeVoter 134 = .ok (.invokevirtual 44, 3) := by decide +kernel
theorem dX5_takeVoter_137 : decode cX5_takeVoter 137 = .ok (.iinc 3 1, 3) := by decide +kernel
theorem dX5_takeVoter_140 : decode cX5_takeVoter 140 = .ok (.goto (-50), 3) := by decide +kernel
theorem dX5_takeVoter_143 : decode cX5_takeVoter 143 = .ok (.return_, 1) := by decide +kernel
theorem dX5_takeJoint_0 : decode cX5_takeJoint 0 = .ok (.iload_n 2, 1) := by decide +kernel
theorem dX5_takeJoint_1 : decode cX5_takeJoint 1 = .ok (.istore 4, 2) := by decide +kernel
theorem dX5_takeJoint_3 : decode cX5_takeJoint 3 = .ok (.iload 4, 2) := by decide +kernel
theorem dX5_takeJoint_5 : decode cX5_takeJoint 5 = .ok (.sipush 256, 3) := by decide +kernel
theorem dX5_takeJoint_8 : decode cX5_takeJoint 8 = .ok (.if_icmp .ge 30, 3) := by decide +kernel
theorem dX5_takeJoint_11 : decode cX5_takeJoint 11 = .ok (.iload 4, 2) := by decide +kernel
theorem dX5_takeJoint_13 : decode cX5_takeJoint 13 = .ok (.iload_n 2, 1) := by decide +kernel
theorem dX5_takeJoint_14 : decode cX5_takeJoint 14 = .ok (.iand, 1) := by decide +kernel
theorem dX5_takeJoint_15 : decode cX5_takeJoint 15 = .ok (.iload_n 2, 1) := by decide +kernel
theorem dX5_takeJoint_16 : decode cX5_takeJoint 16 = .ok (.if_icmp .ne 16, 3) := by decide +kernel
theorem dX5_takeJoint_19 : decode cX5_takeJoint 19 = .ok (.aload_n 0, 1) := by decide +kernel
theorem dX5_takeJoint_20 : decode cX5_takeJoint 20 = .ok (.getfield 9, 3) := by decide +kernel
theorem dX5_takeJoint_23 : decode cX5_takeJoint 23 = .ok (.iload_n 1, 1) := by decide +kernel
theorem dX5_takeJoint_24 : decode cX5_takeJoint 24 = .ok (.iload 4, 2) := by decide +kernel
theorem dX5_takeJoint_26 : decode cX5_takeJoint 26 = .ok (.iadd, 1) := by decide +kernel
theorem dX5_takeJoint_27 : decode cX5_takeJoint 27 = .ok (.dup2, 1) := by decide +kernel
theorem dX5_takeJoint_28 : decode cX5_takeJoint 28 = .ok (.iaload, 1) := by decide +kernel
theorem dX5_takeJoint_29 : decode cX5_takeJoint 29 = .ok (.iload_n 3, 1) := by decide +kernel
theorem dX5_takeJoint_30 : decode cX5_takeJoint 30 = .ok (.iadd, 1) := by decide +kernel
theorem dX5_takeJoint_31 : decode cX5_takeJoint 31 = .ok (.iastore, 1) := by decide +kernel
theorem dX5_takeJoint_32 : decode cX5_takeJoint 32 = .ok (.iinc 4 1, 3) := by decide +kernel
theorem dX5_takeJoint_35 : decode cX5_takeJoint 35 = .ok (.goto (-32), 3) := by decide +kernel
theorem dX5_takeJoint_38 : decode cX5_takeJoint 38 = .ok (.return_, 1) := by decide +kernel
theorem dX5_likingOf_0 : decode cX5_likingOf 0 = .ok (.aload_n 0, 1) := by decide +kernel
theorem dX5_likingOf_1 : decode cX5_likingOf 1 = .ok (.getfield 9, 3) := by decide +kernel
theorem dX5_likingOf_4 : decode cX5_likingOf 4 = .ok (.iload_n 1, 1) := by decide +kernel
theorem dX5_likingOf_5 : decode cX5_likingOf 5 = .ok (.sipush 256, 3) := by decide +kernel
theorem dX5_likingOf_8 : decode cX5_likingOf 8 = .ok (.imul, 1) := by decide +kernel
theorem dX5_likingOf_9 : decode cX5_likingOf 9 = .ok (.iload_n 2, 1) := by decide +kernel
theorem dX5_likingOf_10 : decode cX5_likingOf 10 = .ok (.iadd, 1) := by decide +kernel
theorem dX5_likingOf_11 : decode cX5_likingOf 11 = .ok (.iaload, 1) := by decide +kernel
theorem dX5_likingOf_12 : decode cX5_likingOf 12 = .ok (.ireturn, 1) := by decide +kernel
theorem dX5_isPreferred_0 : decode cX5_isPreferred 0 = .ok (.iload_n 1, 1) := by decide +kernel
theorem dX5_isPreferred_1 : decode cX5_isPreferred 1 = .ok (.sipush 256, 3) := by decide +kernel
theorem dX5_isPreferred_4 : decode cX5_isPreferred 4 = .ok (.imul, 1) := by decide +kernel
theorem dX5_isPreferred_5 : decode cX5_isPreferred 5 = .ok (.istore 4, 2) := by decide +kernel
theorem dX5_isPreferred_7 : decode cX5_isPreferred 7 = .ok (.aload_n 0, 1) := by decide +kernel
theorem dX5_isPreferred_8 : decode cX5_isPreferred 8 = .ok (.getfield 9, 3) := by decide +kernel
theorem dX5_isPreferred_11 : decode cX5_isPreferred 11 = .ok (.iload 4, 2) := by decide +kernel
theorem dX5_isPreferred_13 : decode cX5_isPreferred 13 = .ok (.iload_n 2, 1) := by decide +kernel
theorem dX5_isPreferred_14 : decode cX5_isPreferred 14 = .ok (.iadd, 1) := by decide +kernel
theorem dX5_isPreferred_15 : decode cX5_isPreferred 15 = .ok (.iaload, 1) := by decide +kernel
theorem dX5_isPreferred_16 : decode cX5_isPreferred 16 = .ok (.aload_n 0, 1) := by decide +kernel
theorem dX5_isPreferred_17 : decode cX5_isPreferred 17 = .ok (.getfield 9, 3) := by decide +kernel
theorem dX5_isPreferred_20 : decode cX5_isPreferred 20 = .ok (.iload 4, 2) := by decide +kernel
theorem dX5_isPreferred_22 : decode cX5_isPreferred 22 = .ok (.iload_n 3, 1) := by decide +kernel
theorem dX5_isPreferred_23 : decode cX5_isPreferred 23 = .ok (.iadd, 1) := by decide +kernel
theorem dX5_isPreferred_24 : decode cX5_isPreferred 24 = .ok (.iaload, 1) := by decide +kernel
theorem dX5_isPreferred_25 : decode cX5_isPreferred 25 = .ok (.if_icmp .le 7, 3) := by decide +kernel
theorem dX5_isPreferred_28 : decode cX5_isPreferred 28 = .ok (.iconst 1, 1) := by decide +kernel
theorem dX5_isPreferred_29 : decode cX5_isPreferred 29 = .ok (.goto 4, 3) := by decide +kernel
theorem dX5_isPreferred_32 : decode cX5_isPreferred 32 = .ok (.iconst 0, 1) := by decide +kernel
theorem dX5_isPreferred_33 : decode cX5_isPreferred 33 = .ok (.ireturn, 1) := by decide +kernel
theorem dX5_countPreferring_0 : decode cX5_countPreferring 0 = .ok (.iconst 0, 1) := by decide +kernel
theorem dX5_countPreferring_1 : decode cX5_countPreferring 1 = .ok (.istore_n 3, 1) := by decide +kernel
theorem dX5_countPreferring_2 : decode cX5_countPreferring 2 = .ok (.iconst 0, 1) := by decide +kernel
theorem dX5_countPreferring_3 : decode cX5_countPreferring 3 = .ok (.istore 4, 2) := by decide +kernel
theorem dX5_countPreferring_5 : decode cX5_countPreferring 5 = .ok (.iload_n 1, 1) := by decide +kernel
theorem dX5_countPreferring_6 : decode cX5_countPreferring 6 = .ok (.iload_n 2, 1) := by decide +kernel
theorem dX5_countPreferring_7 : decode cX5_countPreferring 7 = .ok (.if_icmp .eq 35, 3) := by decide +kernel
theorem dX5_countPreferring_10 : decode cX5_countPreferring 10 = .ok (.iload 4, 2) := by decide +kernel
theorem dX5_countPreferring_12 : decode cX5_countPreferring 12 = .ok (.aload_n 0, 1) := by decide +kernel
theorem dX5_countPreferring_13 : decode cX5_countPreferring 13 = .ok (.getfield 15, 3) := by decide +kernel
theorem dX5_countPreferring_16 : decode cX5_countPreferring 16 = .ok (.getfield 19, 3) := by decide +kernel
theorem dX5_countPreferring_19 : decode cX5_countPreferring 19 = .ok (.if_icmp .ge 23, 3) := by decide +kernel
theorem dX5_countPreferring_22 : decode cX5_countPreferring 22 = .ok (.aload_n 0, 1) := by decide +kernel
theorem dX5_countPreferring_23 : decode cX5_countPreferring 23 = .ok (.iload 4, 2) := by decide +kernel
theorem dX5_countPreferring_25 : decode cX5_countPreferring 25 = .ok (.iload_n 1, 1) := by decide +kernel
theorem dX5_countPreferring_26 : decode cX5_countPreferring 26 = .ok (.iload_n 2, 1) := by decide +kernel
theorem dX5_countPreferring_27 : decode cX5_countPreferring 27 = .ok (.invokevirtual 48, 3) := by decide +kernel
theorem dX5_countPreferring_30 : decode cX5_countPreferring 30 = .ok (.ifCond .eq 6, 3) := by decide +kernel
theorem dX5_countPreferring_33 : decode cX5_countPreferring 33 = .ok (.iinc 3 1, 3) := by decide +kernel
theorem dX5_countPreferring_36 : decode cX5_countPreferring 36 = .ok (.iinc 4 1, 3) := by decide +kernel
theorem dX5_countPreferring_39 : decode cX5_countPreferring 39 = .ok (.goto (-34), 3) := by decide +kernel
theorem dX5_countPreferring_42 : decode cX5_countPreferring 42 = .ok (.iload_n 3, 1) := by decide +kernel
theorem dX5_countPreferring_43 : decode cX5_countPreferring 43 = .ok (.ireturn, 1) := by decide +kernel
theorem dX6_init_0 : decode cX6_init 0 = .ok (.aload_n 0, 1) := by decide +kernel
theorem dX6_init_1 : decode cX6_init 1 = .ok (.invokespecial 3, 3) := by decide +kernel
theorem dX6_init_4 : decode cX6_init 4 = .ok (.aload_n 0, 1) := by decide +kernel
theorem dX6_init_5 : decode cX6_init 5 = .ok (.bipush 64, 2) := by decide +kernel
theorem dX6_init_7 : decode cX6_init 7 = .ok (.newarray .int, 2) := by decide +kernel
theorem dX6_init_9 : decode cX6_init 9 = .ok (.putfield 9, 3) := by decide +kernel
theorem dX6_init_12 : decode cX6_init 12 = .ok (.aload_n 0, 1) := by decide +kernel
theorem dX6_init_13 : decode cX6_init 13 = .ok (.sipush 448, 3) := by decide +kernel
theorem dX6_init_16 : decode cX6_init 16 = .ok (.newarray .int, 2) := by decide +kernel
theorem dX6_init_18 : decode cX6_init 18 = .ok (.putfield 15, 3) := by decide +kernel
theorem dX6_init_21 : decode cX6_init 21 = .ok (.aload_n 0, 1) := by decide +kernel
theorem dX6_init_22 : decode cX6_init 22 = .ok (.bipush 6, 2) := by decide +kernel
theorem dX6_init_24 : decode cX6_init 24 = .ok (.newarray .int, 2) := by decide +kernel
theorem dX6_init_26 : decode cX6_init 26 = .ok (.putfield 18, 3) := by decide +kernel
theorem dX6_init_29 : decode cX6_init 29 = .ok (.aload_n 0, 1) := by decide +kernel
theorem dX6_init_30 : decode cX6_init 30 = .ok (.bipush 7, 2) := by decide +kernel
theorem dX6_init_32 : decode cX6_init 32 = .ok (.newarray .int, 2) := by decide +kernel
theorem dX6_init_34 : decode cX6_init 34 = .ok (.putfield 21, 3) := by decide +kernel
theorem dX6_init_37 : decode cX6_init 37 = .ok (.aload_n 0, 1) := by decide +kernel
theorem dX6_init_38 : decode cX6_init 38 = .ok (.aload_n 1, 1) := by decide +kernel
theorem dX6_init_39 : decode cX6_init 39 = .ok (.putfield 24, 3) := by decide +kernel
theorem dX6_init_42 : decode cX6_init 42 = .ok (.aload_n 0, 1) := by decide +kernel
theorem dX6_init_43 : decode cX6_init 43 = .ok (.aload_n 2, 1) := by decide +kernel
theorem dX6_init_44 : decode cX6_init 44 = .ok (.putfield 28, 3) := by decide +kernel
theorem dX6_init_47 : decode cX6_init 47 = .ok (.aload_n 0, 1) := by decide +kernel
theorem dX6_init_48 : decode cX6_init 48 = .ok (.aload_n 3, 1) := by decide +kernel
theorem dX6_init_49 : decode cX6_init 49 = .ok (.putfield 32, 3) := by decide +kernel
theorem dX6_init_52 : decode cX6_init 52 = .ok (.return_, 1) := by decide +kernel
theorem dX6_takeForms_0 : decode cX6_takeForms 0 = .ok (.iconst 1, 1) := by decide +kernel
theorem dX6_takeForms_1 : decode cX6_takeForms 1 = .ok (.aload_n 0, 1) := by decide +kernel
theorem dX6_takeForms_2 : decode cX6_takeForms 2 = .ok (.getfield 24, 3) := by decide +kernel
theorem dX6_takeForms_5 : decode cX6_takeForms 5 = .ok (.getfield 36, 3) := by decide +kernel
theorem dX6_takeForms_8 : decode cX6_takeForms 8 = .ok (.ishl, 1) := by decide +kernel
theorem dX6_takeForms_9 : decode cX6_takeForms 9 = .ok (.istore_n 1, 1) := by decide +kernel
theorem dX6_takeForms_10 : decode cX6_takeForms 10 = .ok (.iconst 0, 1) := by decide +kernel
theorem dX6_takeForms_11 : decode cX6_takeForms 11 = .ok (.istore_n 2, 1) := by decide +kernel
theorem dX6_takeForms_12 : decode cX6_takeForms 12 = .ok (.iload_n 2, 1) := by decide +kernel
theorem dX6_takeForms_13 : decode cX6_takeForms 13 = .ok (.iload_n 1, 1) := by decide +kernel
theorem dX6_takeForms_14 : decode cX6_takeForms 14 = .ok (.if_icmp .ge 23, 3) := by decide +kernel
theorem dX6_takeForms_17 : decode cX6_takeForms 17 = .ok (.aload_n 0, 1) := by decide +kernel
theorem dX6_takeForms_18 : decode cX6_takeForms 18 = .ok (.getfield 9, 3) := by decide +kernel
theorem dX6_takeForms_21 : decode cX6_takeForms 21 = .ok (.iload_n 2, 1) := by decide +kernel
theorem dX6_takeForms_22 : decode cX6_takeForms 22 = .ok (.aload_n 0, 1) := by decide +kernel
theorem dX6_takeForms_23 : decode cX6_takeForms 23 = .ok (.getfield 24, 3) := by decide +kernel
theorem dX6_takeForms_26 : decode cX6_takeForms 26 = .ok (.iload_n 2, 1) := by decide +kernel
theorem dX6_takeForms_27 : decode cX6_takeForms 27 = .ok (.invokevirtual 42, 3) := by decide +kernel
theorem dX6_takeForms_30 : decode cX6_takeForms 30 = .ok (.iastore, 1) := by decide +kernel
theorem dX6_takeForms_31 : decode cX6_takeForms 31 = .ok (.iinc 2 1, 3) := by decide +kernel
theorem dX6_takeForms_34 : decode cX6_takeForms 34 = .ok (.goto (-22), 3) := by decide +kernel
theorem dX6_takeForms_37 : decode cX6_takeForms 37 = .ok (.return_, 1) := by decide +kernel
theorem dX6_outcome_0 : decode cX6_outcome 0 = .ok (.iconst 0, 1) := by decide +kernel
theorem dX6_outcome_1 : decode cX6_outcome 1 = .ok (.istore_n 3, 1) := by decide +kernel
theorem dX6_outcome_2 : decode cX6_outcome 2 = .ok (.iconst 0, 1) := by decide +kernel
theorem dX6_outcome_3 : decode cX6_outcome 3 = .ok (.istore 4, 2) := by decide +kernel
theorem dX6_outcome_5 : decode cX6_outcome 5 = .ok (.iconst 0, 1) := by decide +kernel
theorem dX6_outcome_6 : decode cX6_outcome 6 = .ok (.istore 5, 2) := by decide +kernel
theorem dX6_outcome_8 : decode cX6_outcome 8 = .ok (.iload 5, 2) := by decide +kernel
theorem dX6_outcome_10 : decode cX6_outcome 10 = .ok (.aload_n 0, 1) := by decide +kernel
theorem dX6_outcome_11 : decode cX6_outcome 11 = .ok (.getfield 24, 3) := by decide +kernel
theorem dX6_outcome_14 : decode cX6_outcome 14 = .ok (.getfield 36, 3) := by decide +kernel
theorem dX6_outcome_17 : decode cX6_outcome 17 = .ok (.if_icmp .ge 50, 3) := by decide +kernel
theorem dX6_outcome_20 : decode cX6_outcome 20 = .ok (.aload_n 0, 1) := by decide +kernel
theorem dX6_outcome_21 : decode cX6_outcome 21 = .ok (.getfield 28, 3) := by decide +kernel
theorem dX6_outcome_24 : decode cX6_outcome 24 = .ok (.getfield 46, 3) := by decide +kernel
theorem dX6_outcome_27 : decode cX6_outcome 27 = .ok (.iload 5, 2) := by decide +kernel
theorem dX6_outcome_29 : decode cX6_outcome 29 = .ok (.iaload, 1) := by decide +kernel
theorem dX6_outcome_30 : decode cX6_outcome 30 = .ok (.istore 6, 2) := by decide +kernel
theorem dX6_outcome_32 : decode cX6_outcome 32 = .ok (.iload 6, 2) := by decide +kernel
theorem dX6_outcome_34 : decode cX6_outcome 34 = .ok (.iload_n 2, 1) := by decide +kernel
theorem dX6_outcome_35 : decode cX6_outcome 35 = .ok (.invokestatic 51, 3) := by decide +kernel
theorem dX6_outcome_38 : decode cX6_outcome 38 = .ok (.ifCond .ne 23, 3) := by decide +kernel
theorem dX6_outcome_41 : decode cX6_outcome 41 = .ok (.aload_n 0, 1) := by decide +kernel
theorem dX6_outcome_42 : decode cX6_outcome 42 = .ok (.getfield 18, 3) := by decide +kernel
theorem dX6_outcome_45 : decode cX6_outcome 45 = .ok (.iload_n 3, 1) := by decide +kernel
theorem dX6_outcome_46 : decode cX6_outcome 46 = .ok (.iload 6, 2) := by decide +kernel
theorem dX6_outcome_48 : decode cX6_outcome 48 = .ok (.iastore, 1) := by decide +kernel
theorem dX6_outcome_49 : decode cX6_outcome 49 = .ok (.iinc 3 1, 3) := by decide +kernel
theorem dX6_outcome_52 : decode cX6_outcome 52 = .ok (.iload 4, 2) := by decide +kernel
theorem dX6_outcome_54 : decode cX6_outcome 54 = .ok (.iconst 1, 1) := by decide +kernel
theorem dX6_outcome_55 : decode cX6_outcome 55 = .ok (.iload 6, 2) := by decide +kernel
theorem dX6_outcome_57 : decode cX6_outcome 57 = .ok (.ishl, 1) := by decide +kernel
theorem dX6_outcome_58 : decode cX6_outcome 58 = .ok (.ior, 1) := by decide +kernel
theorem dX6_outcome_59 : decode cX6_outcome 59 = .ok (.istore 4, 2) := by decide +kernel
theorem dX6_outcome_61 : decode cX6_outcome 61 = .ok (.iinc 5 1, 3) := by decide +kernel
theorem dX6_outcome_64 : decode cX6_outcome 64 = .ok (.goto (-56), 3) := by decide +kernel
theorem dX6_outcome_67 : decode cX6_outcome 67 = .ok (.aload_n 0, 1) := by decide +kernel
theorem dX6_outcome_68 : decode cX6_outcome 68 = .ok (.iload_n 1, 1) := by decide +kernel
theorem dX6_outcome_69 : decode cX6_outcome 69 = .ok (.iload_n 3, 1) := by decide +kernel
theorem dX6_outcome_70 : decode cX6_outcome 70 = .ok (.iload 4, 2) := by decide +kernel
theorem dX6_outcome_72 : decode cX6_outcome 72 = .ok (.invokevirtual 55, 3) := by decide +kernel
theorem dX6_outcome_75 : decode cX6_outcome 75 = .ok (.iload_n 3, 1) := by decide +kernel
theorem dX6_outcome_76 : decode cX6_outcome 76 = .ok (.iconst 1, 1) := by decide +kernel
theorem dX6_outcome_77 : decode cX6_outcome 77 = .ok (.isub, 1) := by decide +kernel
theorem dX6_outcome_78 : decode cX6_outcome 78 = .ok (.istore 5, 2) := by decide +kernel
theorem dX6_outcome_80 : decode cX6_outcome 80 = .ok (.iload 5, 2) := by decide +kernel
theorem dX6_outcome_82 : decode cX6_outcome 82 = .ok (.ifCond .lt 40, 3) := by decide +kernel
theorem dX6_outcome_85 : decode cX6_outcome 85 = .ok (.iload 4, 2) := by decide +kernel
theorem dX6_outcome_87 : decode cX6_outcome 87 = .ok (.iconst 1, 1) := by decide +kernel
theorem dX6_outcome_88 : decode cX6_outcome 88 = .ok (.aload_n 0, 1) := by decide +kernel
theorem dX6_outcome_89 : decode cX6_outcome 89 = .ok (.getfield 18, 3) := by decide +kernel
theorem dX6_outcome_92 : decode cX6_outcome 92 = .ok (.iload 5, 2) := by decide +kernel
theorem dX6_outcome_94 : decode cX6_outcome 94 = .ok (.iaload, 1) := by decide +kernel
theorem dX6_outcome_95 : decode cX6_outcome 95 = .ok (.ishl, 1) := by decide +kernel
theorem dX6_outcome_96 : decode cX6_outcome 96 = .ok (.iconst (-1), 1) := by decide +kernel
theorem dX6_outcome_97 : decode cX6_outcome 97 = .ok (.ixor, 1) := by decide +kernel
theorem dX6_outcome_98 : decode cX6_outcome 98 = .ok (.iand, 1) := by decide +kernel
theorem dX6_outcome_99 : decode cX6_outcome 99 = .ok (.istore 4, 2) := by decide +kernel
theorem dX6_outcome_101 : decode cX6_outcome 101 = .ok (.aload_n 0, 1) := by decide +kernel
theorem dX6_outcome_102 : decode cX6_outcome 102 = .ok (.iload 5, 2) := by decide +kernel
theorem dX6_outcome_104 : decode cX6_outcome 104 = .ok (.aload_n 0, 1) := by decide +kernel
theorem dX6_outcome_105 : decode cX6_outcome 105 = .ok (.getfield 18, 3) := by decide +kernel
theorem dX6_outcome_108 : decode cX6_outcome 108 = .ok (.iload 5, 2) := by decide +kernel
theorem dX6_outcome_110 : decode cX6_outcome 110 = .ok (.iaload, 1) := by decide +kernel
theorem dX6_outcome_111 : decode cX6_outcome 111 = .ok (.iload 4, 2) := by decide +kernel
theorem dX6_outcome_113 : decode cX6_outcome 113 = .ok (.invokevirtual 59, 3) := by decide +kernel
theorem dX6_outcome_116 : decode cX6_outcome 116 = .ok (.iinc 5 (-1), 3) := by decide +kernel
theorem dX6_outcome_119 : decode cX6_outcome 119 = .ok (.goto (-39), 3) := by decide +kernel
theorem dX6_outcome_122 : decode cX6_outcome 122 = .ok (.aload_n 0, 1) := by decide +kernel
theorem dX6_outcome_123 : decode cX6_outcome 123 = .ok (.getfield 15, 3) := by decide +kernel
theorem dX6_outcome_126 : decode cX6_outcome 126 = .ok (.iconst 0, 1) := by decide +kernel
theorem dX6_outcome_127 : decode cX6_outcome 127 = .ok (.iaload, 1) := by decide +kernel
theorem dX6_outcome_128 : decode cX6_outcome 128 = .ok (.ireturn, 1) := by decide +kernel
theorem dX6_startBack_0 : decode cX6_startBack 0 = .ok (.aload_n 0, 1) := by decide +kernel
theorem dX6_startBack_1 : decode cX6_startBack 1 = .ok (.iload_n 1, 1) := by decide +kernel
theorem dX6_startBack_2 : decode cX6_startBack 2 = .ok (.putfield 62, 3) := by decide +kernel
theorem dX6_startBack_5 : decode cX6_startBack 5 = .ok (.iload_n 2, 1) := by decide +kernel
theorem dX6_startBack_6 : decode cX6_startBack 6 = .ok (.bipush 64, 2) := by decide +kernel
theorem dX6_startBack_8 : decode cX6_startBack 8 = .ok (.imul, 1) := by decide +kernel
theorem dX6_startBack_9 : decode cX6_startBack 9 = .ok (.istore 4, 2) := by decide +kernel
theorem dX6_startBack_11 : decode cX6_startBack 11 = .ok (.iconst 0, 1) := by decide +kernel
theorem dX6_startBack_12 : decode cX6_startBack 12 = .ok (.istore 5, 2) := by decide +kernel
theorem dX6_startBack_14 : decode cX6_startBack 14 = .ok (.iload 5, 2) := by decide +kernel
theorem dX6_startBack_16 : decode cX6_startBack 16 = .ok (.iload_n 3, 1) := by decide +kernel
theorem dX6_startBack_17 : decode cX6_startBack 17 = .ok (.if_icmp .gt 52, 3) := by decide +kernel
theorem dX6_startBack_20 : decode cX6_startBack 20 = .ok (.iload 5, 2) := by decide +kernel
theorem dX6_startBack_22 : decode cX6_startBack 22 = .ok (.iload_n 3, 1) := by decide +kernel
theorem dX6_startBack_23 : decode cX6_startBack 23 = .ok (.iconst (-1), 1) := by decide +kernel
theorem dX6_startBack_24 : decode cX6_startBack 24 = .ok (.ixor, 1) := by decide +kernel
theorem dX6_startBack_25 : decode cX6_startBack 25 = .ok (.iand, 1) := by decide +kernel
theorem dX6_startBack_26 : decode cX6_startBack 26 = .ok (.ifCond .ne 37, 3) := by decide +kernel
theorem dX6_startBack_29 : decode cX6_startBack 29 = .ok (.aload_n 0, 1) := by decide +kernel
theorem dX6_startBack_30 : decode cX6_startBack 30 = .ok (.getfield 15, 3) := by decide +kernel
theorem dX6_startBack_33 : decode cX6_startBack 33 = .ok (.iload 4, 2) := by decide +kernel
theorem dX6_startBack_35 : decode cX6_startBack 35 = .ok (.iload 5, 2) := by decide +kernel
theorem dX6_startBack_37 : decode cX6_startBack 37 = .ok (.iadd, 1) := by decide +kernel
theorem dX6_startBack_38 : decode cX6_startBack 38 = .ok (.aload_n 0, 1) := by decide +kernel
theorem dX6_startBack_39 : decode cX6_startBack 39 = .ok (.aload_n 0, 1) := by decide +kernel
theorem dX6_startBack_40 : decode cX6_startBack 40 = .ok (.iload 5, 2) := by decide +kernel
theorem dX6_startBack_42 : decode cX6_startBack 42 = .ok (.invokevirtual 65, 3) := by decide +kernel
theorem dX6_startBack_45 : decode cX6_startBack 45 = .ok (.invokevirtual 68, 3) := by decide +kernel
theorem dX6_startBack_48 : decode cX6_startBack 48 = .ok (.ifCond .eq 13, 3) := by decide +kernel
theorem dX6_startBack_51 : decode cX6_startBack 51 = .ok (.aload_n 0, 1) := by decide +kernel
theorem dX6_startBack_52 : decode cX6_startBack 52 = .ok (.getfield 9, 3) := by decide +kernel
theorem dX6_startBack_55 : decode cX6_startBack 55 = .ok (.iload 5, 2) := by decide +kernel
theorem dX6_startBack_57 : decode cX6_startBack 57 = .ok (.iaload, 1) := by decide +kernel
theorem dX6_startBack_58 : decode cX6_startBack 58 = .ok (.goto 4, 3) := by decide +kernel
theorem dX6_startBack_61 : decode cX6_startBack 61 = .ok (.iconst 0, 1) := by decide +kernel
theorem dX6_startBack_62 : decode cX6_startBack 62 = .ok (.iastore, 1) := by decide +kernel
theorem dX6_startBack_63 : decode cX6_startBack 63 = .ok (.iinc 5 1, 3) := by decide +kernel
theorem dX6_startBack_66 : decode cX6_startBack 66 = .ok (.goto (-52), 3) := by decide +kernel
theorem dX6_startBack_69 : decode cX6_startBack 69 = .ok (.return_, 1) := by decide +kernel
theorem dX6_stepBack_0 : decode cX6_stepBack 0 = .ok (.iload_n 1, 1) := by decide +kernel
theorem dX6_stepBack_1 : decode cX6_stepBack 1 = .ok (.bipush 64, 2) := by decide +kernel
theorem dX6_stepBack_3 : decode cX6_stepBack 3 = .ok (.imul, 1) := by decide +kernel
theorem dX6_stepBack_4 : decode cX6_stepBack 4 = .ok (.istore 4, 2) := by decide +kernel
theorem dX6_stepBack_6 : decode cX6_stepBack 6 = .ok (.iload_n 3, 1) := by decide +kernel
theorem dX6_stepBack_7 : decode cX6_stepBack 7 = .ok (.istore 5, 2) := by decide +kernel
theorem dX6_stepBack_9 : decode cX6_stepBack 9 = .ok (.iconst 1, 1) := by decide +kernel
theorem dX6_stepBack_10 : decode cX6_stepBack 10 = .ok (.iload_n 3, 1) := by decide +kernel
theorem dX6_stepBack_11 : decode cX6_stepBack 11 = .ok (.invokestatic 72, 3) := by decide +kernel
theorem dX6_stepBack_14 : decode cX6_stepBack 14 = .ok (.ishl, 1) := by decide +kernel
theorem dX6_stepBack_15 : decode cX6_stepBack 15 = .ok (.istore 6, 2) := by decide +kernel
theorem dX6_stepBack_17 : decode cX6_stepBack 17 = .ok (.iload 6, 2) := by decide +kernel
theorem dX6_stepBack_19 : decode cX6_stepBack 19 = .ok (.ifCond .le 72, 3) := by decide +kernel
theorem dX6_stepBack_22 : decode cX6_stepBack 22 = .ok (.aload_n 0, 1) := by decide +kernel
theorem dX6_stepBack_23 : decode cX6_stepBack 23 = .ok (.aload_n 0, 1) := by decide +kernel
theorem dX6_stepBack_24 : decode cX6_stepBack 24 = .ok (.iload_n 1, 1) := by decide +kernel
theorem dX6_stepBack_25 : decode cX6_stepBack 25 = .ok (.iload_n 2, 1) := by decide +kernel
theorem dX6_stepBack_26 : decode cX6_stepBack 26 = .ok (.iload 5, 2) := by decide +kernel
theorem dX6_stepBack_28 : decode cX6_stepBack 28 = .ok (.invokevirtual 77, 3) := by decide +kernel
theorem dX6_stepBack_31 : decode cX6_stepBack 31 = .ok (.invokevirtual 81, 3) := by decide +kernel
theorem dX6_stepBack_34 : decode cX6_stepBack 34 = .ok (.istore 7, 2) := by decide +kernel
theorem dX6_stepBack_36 : decode cX6_stepBack 36 = .ok (.iload 7, 2) := by decide +kernel
theorem dX6_stepBack_38 : decode cX6_stepBack 38 = .ok (.ifCond .eq 12, 3) := by decide +kernel
theorem dX6_stepBack_41 : decode cX6_stepBack 41 = .ok (.iload 5, 2) := by decide +kernel
theorem dX6_stepBack_43 : decode cX6_stepBack 43 = .ok (.iconst 1, 1) := by decide +kernel
theorem dX6_stepBack_44 : decode cX6_stepBack 44 = .ok (.iload_n 2, 1) := by decide +kernel
theorem dX6_stepBack_45 : decode cX6_stepBack 45 = .ok (.ishl, 1) := by decide +kernel
theorem dX6_stepBack_46 : decode cX6_stepBack 46 = .ok (.ior, 1) := by decide +kernel
theorem dX6_stepBack_47 : decode cX6_stepBack 47 = .ok (.goto 5, 3) := by decide +kernel
theorem dX6_stepBack_50 : decode cX6_stepBack 50 = .ok (.iload 5, 2) := by decide +kernel
theorem dX6_stepBack_52 : decode cX6_stepBack 52 = .ok (.istore 8, 2) := by decide +kernel
theorem dX6_stepBack_54 : decode cX6_stepBack 54 = .ok (.aload_n 0, 1) := by decide +kernel
theorem dX6_stepBack_55 : decode cX6_stepBack 55 = .ok (.getfield 15, 3) := by decide +kernel
theorem dX6_stepBack_58 : decode cX6_stepBack 58 = .ok (.iload 4, 2) := by decide +kernel
theorem dX6_stepBack_60 : decode cX6_stepBack 60 = .ok (.iload 5, 2) := by decide +kernel
theorem dX6_stepBack_62 : decode cX6_stepBack 62 = .ok (.iadd, 1) := by decide +kernel
theorem dX6_stepBack_63 : decode cX6_stepBack 63 = .ok (.aload_n 0, 1) := by decide +kernel
theorem dX6_stepBack_64 : decode cX6_stepBack 64 = .ok (.getfield 15, 3) := by decide +kernel
theorem dX6_stepBack_67 : decode cX6_stepBack 67 = .ok (.iload 4, 2) := by decide +kernel
theorem dX6_stepBack_69 : decode cX6_stepBack 69 = .ok (.bipush 64, 2) := by decide +kernel
theorem dX6_stepBack_71 : decode cX6_stepBack 71 = .ok (.iadd, 1) := by decide +kernel
theorem dX6_stepBack_72 : decode cX6_stepBack 72 = .ok (.iload 8, 2) := by decide +kernel
theorem dX6_stepBack_74 : decode cX6_stepBack 74 = .ok (.iadd, 1) := by decide +kernel
theorem dX6_stepBack_75 : decode cX6_stepBack 75 = .ok (.iaload, 1) := by decide +kernel
theorem dX6_stepBack_76 : decode cX6_stepBack 76 = .ok (.iastore, 1) := by decide +kernel
theorem dX6_stepBack_77 : decode cX6_stepBack 77 = .ok (.iload 5, 2) := by decide +kernel
theorem dX6_stepBack_79 : decode cX6_stepBack 79 = .ok (.iconst 1, 1) := by decide +kernel
theorem dX6_stepBack_80 : decode cX6_stepBack 80 = .ok (.isub, 1) := by decide +kernel
theorem dX6_stepBack_81 : decode cX6_stepBack 81 = .ok (.iload_n 3, 1) := by decide +kernel
theorem dX6_stepBack_82 : decode cX6_stepBack 82 = .ok (.iand, 1) := by decide +kernel
theorem dX6_stepBack_83 : decode cX6_stepBack 83 = .ok (.istore 5, 2) := by decide +kernel
theorem dX6_stepBack_85 : decode cX6_stepBack 85 = .ok (.iinc 6 (-1), 3) := by decide +kernel
theorem dX6_stepBack_88 : decode cX6_stepBack 88 = .ok (.goto (-71), 3) := by decide +kernel
theorem dX6_stepBack_91 : decode cX6_stepBack 91 = .ok (.return_, 1) := by decide +kernel
theorem dX6_yesOnMotion_0 : decode cX6_yesOnMotion 0 = .ok (.iload_n 3, 1) := by decide +kernel
theorem dX6_yesOnMotion_1 : decode cX6_yesOnMotion 1 = .ok (.iconst 1, 1) := by decide +kernel
theorem dX6_yesOnMotion_2 : decode cX6_yesOnMotion 2 = .ok (.iload_n 2, 1) := by decide +kernel
theorem dX6_yesOnMotion_3 : decode cX6_yesOnMotion 3 = .ok (.ishl, 1) := by decide +kernel
theorem dX6_yesOnMotion_4 : decode cX6_yesOnMotion 4 = .ok (.ior, 1) := by decide +kernel
theorem dX6_yesOnMotion_5 : decode cX6_yesOnMotion 5 = .ok (.istore 4, 2) := by decide +kernel
theorem dX6_yesOnMotion_7 : decode cX6_yesOnMotion 7 = .ok (.iload_n 1, 1) := by decide +kernel
theorem dX6_yesOnMotion_8 : decode cX6_yesOnMotion 8 = .ok (.iconst 1, 1) := by decide +kernel
theorem dX6_yesOnMotion_9 : decode cX6_yesOnMotion 9 = .ok (.iadd, 1) := by decide +kernel
theorem dX6_yesOnMotion_10 : decode cX6_yesOnMotion 10 = .ok (.bipush 64, 2) := by decide +kernel
theorem dX6_yesOnMotion_12 : decode cX6_yesOnMotion 12 = .ok (.imul, 1) := by decide +kernel
theorem dX6_yesOnMotion_13 : decode cX6_yesOnMotion 13 = .ok (.istore 5, 2) := by decide +kernel
theorem dX6_yesOnMotion_15 : decode cX6_yesOnMotion 15 = .ok (.aload_n 0, 1) := by decide +kernel
theorem dX6_yesOnMotion_16 : decode cX6_yesOnMotion 16 = .ok (.getfield 9, 3) := by decide +kernel
theorem dX6_yesOnMotion_19 : decode cX6_yesOnMotion 19 = .ok (.iload 4, 2) := by decide +kernel
theorem dX6_yesOnMotion_21 : decode cX6_yesOnMotion 21 = .ok (.iaload, 1) := by decide +kernel
theorem dX6_yesOnMotion_22 : decode cX6_yesOnMotion 22 = .ok (.istore 6, 2) := by decide +kernel
theorem dX6_yesOnMotion_24 : decode cX6_yesOnMotion 24 = .ok (.aload_n 0, 1) := by decide +kernel
theorem dX6_yesOnMotion_25 : decode cX6_yesOnMotion 25 = .ok (.getfield 9, 3) := by decide +kernel
theorem dX6_yesOnMotion_28 : decode cX6_yesOnMotion 28 = .ok (.iload_n 3, 1) := by decide +kernel
theorem dX6_yesOnMotion_29 : decode cX6_yesOnMotion 29 = .ok (.iaload, 1) := by decide +kernel
theorem dX6_yesOnMotion_30 : decode cX6_yesOnMotion 30 = .ok (.istore 7, 2) := by decide +kernel
theorem dX6_yesOnMotion_32 : decode cX6_yesOnMotion 32 = .ok (.aload_n 0, 1) := by decide +kernel
theorem dX6_yesOnMotion_33 : decode cX6_yesOnMotion 33 = .ok (.getfield 15, 3) := by decide +kernel
theorem dX6_yesOnMotion_36 : decode cX6_yesOnMotion 36 = .ok (.iload 5, 2) := by decide +kernel
theorem dX6_yesOnMotion_38 : decode cX6_yesOnMotion 38 = .ok (.iload 4, 2) := by decide +kernel
theorem dX6_yesOnMotion_40 : decode cX6_yesOnMotion 40 = .ok (.iadd, 1) := by decide +kernel
theorem dX6_yesOnMotion_41 : decode cX6_yesOnMotion 41 = .ok (.iaload, 1) := by decide +kernel
theorem dX6_yesOnMotion_42 : decode cX6_yesOnMotion 42 = .ok (.istore 8, 2) := by decide +kernel
theorem dX6_yesOnMotion_44 : decode cX6_yesOnMotion 44 = .ok (.aload_n 0, 1) := by decide +kernel
theorem dX6_yesOnMotion_45 : decode cX6_yesOnMotion 45 = .ok (.getfield 15, 3) := by decide +kernel
theorem dX6_yesOnMotion_48 : decode cX6_yesOnMotion 48 = .ok (.iload 5, 2) := by decide +kernel
theorem dX6_yesOnMotion_50 : decode cX6_yesOnMotion 50 = .ok (.iload_n 3, 1) := by decide +kernel
theorem dX6_yesOnMotion_51 : decode cX6_yesOnMotion 51 = .ok (.iadd, 1) := by decide +kernel
theorem dX6_yesOnMotion_52 : decode cX6_yesOnMotion 52 = .ok (.iaload, 1) := by decide +kernel
theorem dX6_yesOnMotion_53 : decode cX6_yesOnMotion 53 = .ok (.istore 9, 2) := by decide +kernel
theorem dX6_yesOnMotion_55 : decode cX6_yesOnMotion 55 = .ok (.iload 6, 2) := by decide +kernel
theorem dX6_yesOnMotion_57 : decode cX6_yesOnMotion 57 = .ok (.iload 7, 2) := by decide +kernel
theorem dX6_yesOnMotion_59 : decode cX6_yesOnMotion 59 = .ok (.if_icmp .ne 12, 3) := by decide +kernel
theorem dX6_yesOnMotion_62 : decode cX6_yesOnMotion 62 = .ok (.iload 8, 2) := by decide +kernel
theorem dX6_yesOnMotion_64 : decode cX6_yesOnMotion 64 = .ok (.iload 9, 2) := by decide +kernel
theorem dX6_yesOnMotion_66 : decode cX6_yesOnMotion 66 = .ok (.if_icmp .ne 5, 3) := by decide +kernel
theorem dX6_yesOnMotion_69 : decode cX6_yesOnMotion 69 = .ok (.iconst 0, 1) := by decide +kernel
theorem dX6_yesOnMotion_70 : decode cX6_yesOnMotion 70 = .ok (.ireturn, 1) := by decide +kernel
theorem dX6_yesOnMotion_71 : decode cX6_yesOnMotion 71 = .ok (.iconst 0, 1) := by decide +kernel
theorem dX6_yesOnMotion_72 : decode cX6_yesOnMotion 72 = .ok (.istore 10, 2) := by decide +kernel
theorem dX6_yesOnMotion_74 : decode cX6_yesOnMotion 74 = .ok (.iconst 0, 1) := by decide +kernel
theorem dX6_yesOnMotion_75 : decode cX6_yesOnMotion 75 = .ok (.istore 11, 2) := by decide +kernel
theorem dX6_yesOnMotion_77 : decode cX6_yesOnMotion 77 = .ok (.iload 11, 2) := by decide +kernel
theorem dX6_yesOnMotion_79 : decode cX6_yesOnMotion 79 = .ok (.aload_n 0, 1) := by decide +kernel
theorem dX6_yesOnMotion_80 : decode cX6_yesOnMotion 80 = .ok (.getfield 24, 3) := by decide +kernel
theorem dX6_yesOnMotion_83 : decode cX6_yesOnMotion 83 = .ok (.getfield 84, 3) := by decide +kernel
theorem dX6_yesOnMotion_86 : decode cX6_yesOnMotion 86 = .ok (.if_icmp .ge 60, 3) := by decide +kernel
theorem dX6_yesOnMotion_89 : decode cX6_yesOnMotion 89 = .ok (.iload 11, 2) := by decide +kernel
theorem dX6_yesOnMotion_91 : decode cX6_yesOnMotion 91 = .ok (.aload_n 0, 1) := by decide +kernel
theorem dX6_yesOnMotion_92 : decode cX6_yesOnMotion 92 = .ok (.getfield 62, 3) := by decide +kernel
theorem dX6_yesOnMotion_95 : decode cX6_yesOnMotion 95 = .ok (.invokestatic 51, 3) := by decide +kernel
theorem dX6_yesOnMotion_98 : decode cX6_yesOnMotion 98 = .ok (.ifCond .eq 19, 3) := by decide +kernel
theorem dX6_yesOnMotion_101 : decode cX6_yesOnMotion 101 = .ok (.aload_n 0, 1) := by decide +kernel
theorem dX6_yesOnMotion_102 : decode cX6_yesOnMotion 102 = .ok (.getfield 32, 3) := by decide +kernel
theorem dX6_yesOnMotion_105 : decode cX6_yesOnMotion 105 = .ok (.iload 11, 2) := by decide +kernel
theorem dX6_yesOnMotion_107 : decode cX6_yesOnMotion 107 = .ok (.iload 6, 2) := by decide +kernel
theorem dX6_yesOnMotion_109 : decode cX6_yesOnMotion 109 = .ok (.iload 7, 2) := by decide +kernel
theorem dX6_yesOnMotion_111 : decode cX6_yesOnMotion 111 = .ok (.invokevirtual 87, 3) := by decide +kernel
theorem dX6_yesOnMotion_114 : decode cX6_yesOnMotion 114 = .ok (.goto 16, 3) := by decide +kernel
theorem dX6_yesOnMotion_117 : decode cX6_yesOnMotion 117 = .ok (.aload_n 0, 1) := by decide +kernel
theorem dX6_yesOnMotion_118 : decode cX6_yesOnMotion 118 = .ok (.getfield 32, 3) := by decide +kernel
theorem dX6_yesOnMotion_121 : decode cX6_yesOnMotion 121 = .ok (.iload 11, 2) := by decide +kernel
theorem dX6_yesOnMotion_123 : decode cX6_yesOnMotion 123 = .ok (.iload 8, 2) := by decide +kernel
theorem dX6_yesOnMotion_125 : decode cX6_yesOnMotion 125 = .ok (.iload 9, 2) := by decide +kernel
theorem dX6_yesOnMotion_127 : decode cX6_yesOnMotion 127 = .ok (.invokevirtual 87, 3) := by decide +kernel
theorem dX6_yesOnMotion_130 : decode cX6_yesOnMotion 130 = .ok (.istore 12, 2) := by decide +kernel
theorem dX6_yesOnMotion_132 : decode cX6_yesOnMotion 132 = .ok (.iload 12, 2) := by decide +kernel
theorem dX6_yesOnMotion_134 : decode cX6_yesOnMotion 134 = .ok (.ifCond .eq 6, 3) := by decide +kernel
theorem dX6_yesOnMotion_137 : decode cX6_yesOnMotion 137 = .ok (.iinc 10 1, 3) := by decide +kernel
theorem dX6_yesOnMotion_140 : decode cX6_yesOnMotion 140 = .ok (.iinc 11 1, 3) := by decide +kernel
theorem dX6_yesOnMotion_143 : decode cX6_yesOnMotion 143 = .ok (.goto (-66), 3) := by decide +kernel
theorem dX6_yesOnMotion_146 : decode cX6_yesOnMotion 146 = .ok (.iload 10, 2) := by decide +kernel
theorem dX6_yesOnMotion_148 : decode cX6_yesOnMotion 148 = .ok (.ireturn, 1) := by decide +kernel
theorem dX6_yesOnPassage_0 : decode cX6_yesOnPassage 0 = .ok (.aload_n 0, 1) := by decide +kernel
theorem dX6_yesOnPassage_1 : decode cX6_yesOnPassage 1 = .ok (.getfield 32, 3) := by decide +kernel
theorem dX6_yesOnPassage_4 : decode cX6_yesOnPassage 4 = .ok (.aload_n 0, 1) := by decide +kernel
theorem dX6_yesOnPassage_5 : decode cX6_yesOnPassage 5 = .ok (.getfield 9, 3) := by decide +kernel
theorem dX6_yesOnPassage_8 : decode cX6_yesOnPassage 8 = .ok (.iload_n 1, 1) := by decide +kernel
theorem dX6_yesOnPassage_9 : decode cX6_yesOnPassage 9 = .ok (.iaload, 1) := by decide +kernel
theorem dX6_yesOnPassage_10 : decode cX6_yesOnPassage 10 = .ok (.iconst 0, 1) := by decide +kernel
theorem dX6_yesOnPassage_11 : decode cX6_yesOnPassage 11 = .ok (.invokevirtual 93, 3) := by decide +kernel
theorem dX6_yesOnPassage_14 : decode cX6_yesOnPassage 14 = .ok (.ireturn, 1) := by decide +kernel
theorem dX6_carries_0 : decode cX6_carries 0 = .ok (.iconst 2, 1) := by decide +kernel
theorem dX6_carries_1 : decode cX6_carries 1 = .ok (.iload_n 1, 1) := by decide +kernel
theorem dX6_carries_2 : decode cX6_carries 2 = .ok (.imul, 1) := by decide +kernel
theorem dX6_carries_3 : decode cX6_carries 3 = .ok (.aload_n 0, 1) := by decide +kernel
theorem dX6_carries_4 : decode cX6_carries 4 = .ok (.getfield 24, 3) := by decide +kernel
theorem dX6_carries_7 : decode cX6_carries 7 = .ok (.getfield 84, 3) := by decide +kernel
theorem dX6_carries_10 : decode cX6_carries 10 = .ok (.if_icmp .le 7, 3) := by decide +kernel
theorem dX6_carries_13 : decode cX6_carries 13 = .ok (.iconst 1, 1) := by decide +kernel
theorem dX6_carries_14 : decode cX6_carries 14 = .ok (.goto 4, 3) := by decide +kernel
theorem dX6_carries_17 : decode cX6_carries 17 = .ok (.iconst 0, 1) := by decide +kernel
theorem dX6_carries_18 : decode cX6_carries 18 = .ok (.ireturn, 1) := by decide +kernel
theorem dX6_passes_0 : decode cX6_passes 0 = .ok (.iload_n 1, 1) := by decide +kernel
theorem dX6_passes_1 : decode cX6_passes 1 = .ok (.aload_n 0, 1) := by decide +kernel
theorem dX6_passes_2 : decode cX6_passes 2 = .ok (.getfield 24, 3) := by decide +kernel
theorem dX6_passes_5 : decode cX6_passes 5 = .ok (.invokevirtual 97, 3) := by decide +kernel
theorem dX6_passes_8 : decode cX6_passes 8 = .ok (.if_icmp .lt 7, 3) := by decide +kernel
theorem dX6_passes_11 : decode cX6_passes 11 = .ok (.iconst 1, 1) := by decide +kernel
theorem dX6_passes_12 : decode cX6_passes 12 = .ok (.goto 4, 3) := by decide +kernel
theorem dX6_passes_15 : decode cX6_passes 15 = .ok (.iconst 0, 1) := by decide +kernel
theorem dX6_passes_16 : decode cX6_passes 16 = .ok (.ireturn, 1) := by decide +kernel
theorem dX6_walk_0 : decode cX6_walk 0 = .ok (.aload_n 0, 1) := by decide +kernel
theorem dX6_walk_1 : decode cX6_walk 1 = .ok (.iload_n 1, 1) := by decide +kernel
theorem dX6_walk_2 : decode cX6_walk 2 = .ok (.iconst 0, 1) := by decide +kernel
theorem dX6_walk_3 : decode cX6_walk 3 = .ok (.invokevirtual 101, 3) := by decide +kernel
theorem dX6_walk_6 : decode cX6_walk 6 = .ok (.pop, 1) := by decide +kernel
theorem dX6_walk_7 : decode cX6_walk 7 = .ok (.aload_n 0, 1) := by decide +kernel
theorem dX6_walk_8 : decode cX6_walk 8 = .ok (.iconst 0, 1) := by decide +kernel
theorem dX6_walk_9 : decode cX6_walk 9 = .ok (.putfield 104, 3) := by decide +kernel
theorem dX6_walk_12 : decode cX6_walk 12 = .ok (.iconst 0, 1) := by decide +kernel
theorem dX6_walk_13 : decode cX6_walk 13 = .ok (.istore_n 2, 1) := by decide +kernel
theorem dX6_walk_14 : decode cX6_walk 14 = .ok (.iload_n 2, 1) := by decide +kernel
theorem dX6_walk_15 : decode cX6_walk 15 = .ok (.aload_n 0, 1) := by decide +kernel
theorem dX6_walk_16 : decode cX6_walk 16 = .ok (.getfield 24, 3) := by decide +kernel
theorem dX6_walk_19 : decode cX6_walk 19 = .ok (.getfield 36, 3) := by decide +kernel
theorem dX6_walk_22 : decode cX6_walk 22 = .ok (.if_icmp .ge 57, 3) := by decide +kernel
theorem dX6_walk_25 : decode cX6_walk 25 = .ok (.aload_n 0, 1) := by decide +kernel
theorem dX6_walk_26 : decode cX6_walk 26 = .ok (.getfield 18, 3) := by decide +kernel
theorem dX6_walk_29 : decode cX6_walk 29 = .ok (.iload_n 2, 1) := by decide +kernel
theorem dX6_walk_30 : decode cX6_walk 30 = .ok (.iaload, 1) := by decide +kernel
theorem dX6_walk_31 : decode cX6_walk 31 = .ok (.istore_n 3, 1) := by decide +kernel
theorem dX6_walk_32 : decode cX6_walk 32 = .ok (.aload_n 0, 1) := by decide +kernel
theorem dX6_walk_33 : decode cX6_walk 33 = .ok (.getfield 21, 3) := by decide +kernel
theorem dX6_walk_36 : decode cX6_walk 36 = .ok (.iload_n 2, 1) := by decide +kernel
theorem dX6_walk_37 : decode cX6_walk 37 = .ok (.aload_n 0, 1) := by decide +kernel
theorem dX6_walk_38 : decode cX6_walk 38 = .ok (.iload_n 2, 1) := by decide +kernel
theorem dX6_walk_39 : decode cX6_walk 39 = .ok (.iload_n 3, 1) := by decide +kernel
theorem dX6_walk_40 : decode cX6_walk 40 = .ok (.aload_n 0, 1) := by decide +kernel
theorem dX6_walk_41 : decode cX6_walk 41 = .ok (.getfield 104, 3) := by decide +kernel
theorem dX6_walk_44 : decode cX6_walk 44 = .ok (.invokevirtual 77, 3) := by decide +kernel
theorem dX6_walk_47 : decode cX6_walk 47 = .ok (.iastore, 1) := by decide +kernel
theorem dX6_walk_48 : decode cX6_walk 48 = .ok (.aload_n 0, 1) := by decide +kernel
theorem dX6_walk_49 : decode cX6_walk 49 = .ok (.aload_n 0, 1) := by decide +kernel
theorem dX6_walk_50 : decode cX6_walk 50 = .ok (.getfield 21, 3) := by decide +kernel
theorem dX6_walk_53 : decode cX6_walk 53 = .ok (.iload_n 2, 1) := by decide +kernel
theorem dX6_walk_54 : decode cX6_walk 54 = .ok (.iaload, 1) := by decide +kernel
theorem dX6_walk_55 : decode cX6_walk 55 = .ok (.invokevirtual 81, 3) := by decide +kernel
theorem dX6_walk_58 : decode cX6_walk 58 = .ok (.ifCond .eq 15, 3) := by decide +kernel
theorem dX6_walk_61 : decode cX6_walk 61 = .ok (.aload_n 0, 1) := by decide +kernel
theorem dX6_walk_62 : decode cX6_walk 62 = .ok (.dup, 1) := by decide +kernel
theorem dX6_walk_63 : decode cX6_walk 63 = .ok (.getfield 104, 3) := by decide +kernel
theorem dX6_walk_66 : decode cX6_walk 66 = .ok (.iconst 1, 1) := by decide +kernel
theorem dX6_walk_67 : decode cX6_walk 67 = .ok (.iload_n 3, 1) := by decide +kernel
theorem dX6_walk_68 : decode cX6_walk 68 = .ok (.ishl, 1) := by decide +kernel
theorem dX6_walk_69 : decode cX6_walk 69 = .ok (.ior, 1) := by decide +kernel
theorem dX6_walk_70 : decode cX6_walk 70 = .ok (.putfield 104, 3) := by decide +kernel
theorem dX6_walk_73 : decode cX6_walk 73 = .ok (.iinc 2 1, 3) := by decide +kernel
theorem dX6_walk_76 : decode cX6_walk 76 = .ok (.goto (-62), 3) := by decide +kernel
theorem dX6_walk_79 : decode cX6_walk 79 = .ok (.aload_n 0, 1) := by decide +kernel
theorem dX6_walk_80 : decode cX6_walk 80 = .ok (.getfield 21, 3) := by decide +kernel
theorem dX6_walk_83 : decode cX6_walk 83 = .ok (.aload_n 0, 1) := by decide +kernel
theorem dX6_walk_84 : decode cX6_walk 84 = .ok (.getfield 24, 3) := by decide +kernel
theorem dX6_walk_87 : decode cX6_walk 87 = .ok (.getfield 36, 3) := by decide +kernel
theorem dX6_walk_90 : decode cX6_walk 90 = .ok (.aload_n 0, 1) := by decide +kernel
theorem dX6_walk_91 : decode cX6_walk 91 = .ok (.aload_n 0, 1) := by decide +kernel
theorem dX6_walk_92 : decode cX6_walk 92 = .ok (.getfield 104, 3) := by decide +kernel
theorem dX6_walk_95 : decode cX6_walk 95 = .ok (.invokevirtual 65, 3) := by decide +kernel
theorem dX6_walk_98 : decode cX6_walk 98 = .ok (.iastore, 1) := by decide +kernel
theorem dX6_walk_99 : decode cX6_walk 99 = .ok (.return_, 1) := by decide +kernel
theorem dX6_minuteByte_0 : decode cX6_minuteByte 0 = .ok (.iload_n 1, 1) := by decide +kernel
theorem dX6_minuteByte_1 : decode cX6_minuteByte 1 = .ok (.aload_n 0, 1) := by decide +kernel
theorem dX6_minuteByte_2 : decode cX6_minuteByte 2 = .ok (.getfield 24, 3) := by decide +kernel
theorem dX6_minuteByte_5 : decode cX6_minuteByte 5 = .ok (.getfield 36, 3) := by decide +kernel
theorem dX6_minuteByte_8 : decode cX6_minuteByte 8 = .ok (.if_icmp .ne 7, 3) := by decide +kernel
theorem dX6_minuteByte_11 : decode cX6_minuteByte 11 = .ok (.iconst 1, 1) := by decide +kernel
theorem dX6_minuteByte_12 : decode cX6_minuteByte 12 = .ok (.goto 4, 3) := by decide +kernel
theorem dX6_minuteByte_15 : decode cX6_minuteByte 15 = .ok (.iconst 0, 1) := by decide +kernel
theorem dX6_minuteByte_16 : decode cX6_minuteByte 16 = .ok (.istore_n 3, 1) := by decide +kernel
theorem dX6_minuteByte_17 : decode cX6_minuteByte 17 = .ok (.aload_n 0, 1) := by decide +kernel
theorem dX6_minuteByte_18 : decode cX6_minuteByte 18 = .ok (.getfield 21, 3) := by decide +kernel
theorem dX6_minuteByte_21 : decode cX6_minuteByte 21 = .ok (.iload_n 1, 1) := by decide +kernel
theorem dX6_minuteByte_22 : decode cX6_minuteByte 22 = .ok (.iaload, 1) := by decide +kernel
theorem dX6_minuteByte_23 : decode cX6_minuteByte 23 = .ok (.istore 4, 2) := by decide +kernel
theorem dX6_minuteByte_25 : decode cX6_minuteByte 25 = .ok (.iload_n 2, 1) := by decide +kernel
theorem dX6_minuteByte_26 : decode cX6_minuteByte 26 = .ok (.tableswitch 116 0 5 #[38, 57, 60, 66, 69, 83], 38) := by decide +kernel
theorem dX6_minuteByte_64 : decode cX6_minuteByte 64 = .ok (.iload_n 3, 1) := by decide +kernel
theorem dX6_minuteByte_65 : decode cX6_minuteByte 65 = .ok (.ifCond .eq 8, 3) := by decide +kernel
theorem dX6_minuteByte_68 : decode cX6_minuteByte 68 = .ok (.bipush 112, 2) := by decide +kernel
theorem dX6_minuteByte_70 : decode cX6_minuteByte 70 = .ok (.goto 12, 3) := by decide +kernel
theorem dX6_minuteByte_73 : decode cX6_minuteByte 73 = .ok (.bipush 48, 2) := by decide +kernel
theorem dX6_minuteByte_75 : decode cX6_minuteByte 75 = .ok (.aload_n 0, 1) := by decide +kernel
theorem dX6_minuteByte_76 : decode cX6_minuteByte 76 = .ok (.getfield 18, 3) := by decide +kernel
theorem dX6_minuteByte_79 : decode cX6_minuteByte 79 = .ok (.iload_n 1, 1) := by decide +kernel
theorem dX6_minuteByte_80 : decode cX6_minuteByte 80 = .ok (.iaload, 1) := by decide +kernel
theorem dX6_minuteByte_81 : decode cX6_minuteByte 81 = .ok (.iadd, 1) := by decide +kernel
theorem dX6_minuteByte_82 : decode cX6_minuteByte 82 = .ok (.ireturn, 1) := by decide +kernel
theorem dX6_minuteByte_83 : decode cX6_minuteByte 83 = .ok (.bipush 58, 2) := by decide +kernel
theorem dX6_minuteByte_85 : decode cX6_minuteByte 85 = .ok (.ireturn, 1) := by decide +kernel
theorem dX6_minuteByte_86 : decode cX6_minuteByte 86 = .ok (.bipush 48, 2) := by decide +kernel
theorem dX6_minuteByte_88 : decode cX6_minuteByte 88 = .ok (.iload 4, 2) := by decide +kernel
theorem dX6_minuteByte_90 : decode cX6_minuteByte 90 = .ok (.iadd, 1) := by decide +kernel
theorem dX6_minuteByte_91 : decode cX6_minuteByte 91 = .ok (.ireturn, 1) := by decide +kernel
theorem dX6_minuteByte_92 : decode cX6_minuteByte 92 = .ok (.bipush 45, 2) := by decide +kernel
theorem dX6_minuteByte_94 : decode cX6_minuteByte 94 = .ok (.ireturn, 1) := by decide +kernel
theorem dX6_minuteByte_95 : decode cX6_minuteByte 95 = .ok (.bipush 48, 2) := by decide +kernel
theorem dX6_minuteByte_97 : decode cX6_minuteByte 97 = .ok (.aload_n 0, 1) := by decide +kernel
theorem dX6_minuteByte_98 : decode cX6_minuteByte 98 = .ok (.getfield 24, 3) := by decide +kernel
theorem dX6_minuteByte_101 : decode cX6_minuteByte 101 = .ok (.getfield 84, 3) := by decide +kernel
theorem dX6_minuteByte_104 : decode cX6_minuteByte 104 = .ok (.iadd, 1) := by decide +kernel
theorem dX6_minuteByte_105 : decode cX6_minuteByte 105 = .ok (.iload 4, 2) := by decide +kernel
theorem dX6_minuteByte_107 : decode cX6_minuteByte 107 = .ok (.isub, 1) := by decide +kernel
theorem dX6_minuteByte_108 : decode cX6_minuteByte 108 = .ok (.ireturn, 1) := by decide +kernel
theorem dX6_minuteByte_109 : decode cX6_minuteByte 109 = .ok (.iload_n 3, 1) := by decide +kernel
theorem dX6_minuteByte_110 : decode cX6_minuteByte 110 = .ok (.ifCond .eq 15, 3) := by decide +kernel
theorem dX6_minuteByte_113 : decode cX6_minuteByte 113 = .ok (.aload_n 0, 1) := by decide +kernel
theorem dX6_minuteByte_114 : decode cX6_minuteByte 114 = .ok (.iload 4, 2) := by decide +kernel
theorem dX6_minuteByte_116 : decode cX6_minuteByte 116 = .ok (.invokevirtual 68, 3) := by decide +kernel
theorem dX6_minuteByte_119 : decode cX6_minuteByte 119 = .ok (.ifCond .eq 20, 3) := by decide +kernel
theorem dX6_minuteByte_122 : decode cX6_minuteByte 122 = .ok (.goto 12, 3) := by decide +kernel
theorem dX6_minuteByte_125 : decode cX6_minuteByte 125 = .ok (.aload_n 0, 1) := by decide +kernel
theorem dX6_minuteByte_126 : decode cX6_minuteByte 126 = .ok (.iload 4, 2) := by decide +kernel
theorem dX6_minuteByte_128 : decode cX6_minuteByte 128 = .ok (.invokevirtual 81, 3) := by decide +kernel
theorem dX6_minuteByte_131 : decode cX6_minuteByte 131 = .ok (.ifCond .eq 8, 3) := by decide +kernel
theorem dX6_minuteByte_134 : decode cX6_minuteByte 134 = .ok (.bipush 43, 2) := by decide +kernel
theorem dX6_minuteByte_136 : decode cX6_minuteByte 136 = .ok (.goto 5, 3) := by decide +kernel
theorem dX6_minuteByte_139 : decode cX6_minuteByte 139 = .ok (.bipush 46, 2) := by decide +kernel
theorem dX6_minuteByte_141 : decode cX6_minuteByte 141 = .ok (.ireturn, 1) := by decide +kernel
theorem dX6_minuteByte_142 : decode cX6_minuteByte 142 = .ok (.bipush 59, 2) := by decide +kernel
theorem dX6_minuteByte_144 : decode cX6_minuteByte 144 = .ok (.ireturn, 1) := by decide +kernel
theorem dX7_init_0 : decode cX7_init 0 = .ok (.aload_n 0, 1) := by decide +kernel
theorem dX7_init_1 : decode cX7_init 1 = .ok (.invokespecial 3, 3) := by decide +kernel
theorem dX7_init_4 : decode cX7_init 4 = .ok (.aload_n 0, 1) := by decide +kernel
theorem dX7_init_5 : decode cX7_init 5 = .ok (.sipush 400, 3) := by decide +kernel
theorem dX7_init_8 : decode cX7_init 8 = .ok (.newarray .int, 2) := by decide +kernel
theorem dX7_init_10 : decode cX7_init 10 = .ok (.putfield 9, 3) := by decide +kernel
theorem dX7_init_13 : decode cX7_init 13 = .ok (.aload_n 0, 1) := by decide +kernel
theorem dX7_init_14 : decode cX7_init 14 = .ok (.new 13, 3) := by decide +kernel
theorem dX7_init_17 : decode cX7_init 17 = .ok (.dup, 1) := by decide +kernel
theorem dX7_init_18 : decode cX7_init 18 = .ok (.invokespecial 15, 3) := by decide +kernel
theorem dX7_init_21 : decode cX7_init 21 = .ok (.putfield 16, 3) := by decide +kernel
theorem dX7_init_24 : decode cX7_init 24 = .ok (.aload_n 0, 1) := by decide +kernel
theorem dX7_init_25 : decode cX7_init 25 = .ok (.new 13, 3) := by decide +kernel
theorem dX7_init_28 : decode cX7_init 28 = .ok (.dup, 1) := by decide +kernel
theorem dX7_init_29 : decode cX7_init 29 = .ok (.invokespecial 15, 3) := by decide +kernel
theorem dX7_init_32 : decode cX7_init 32 = .ok (.putfield 20, 3) := by decide +kernel
theorem dX7_init_35 : decode cX7_init 35 = .ok (.aload_n 0, 1) := by decide +kernel
theorem dX7_init_36 : decode cX7_init 36 = .ok (.new 23, 3) := by decide +kernel
theorem dX7_init_39 : decode cX7_init 39 = .ok (.dup, 1) := by decide +kernel
theorem dX7_init_40 : decode cX7_init 40 = .ok (.aload_n 0, 1) := by decide +kernel
theorem dX7_init_41 : decode cX7_init 41 = .ok (.getfield 9, 3) := by decide +kernel
theorem dX7_init_44 : decode cX7_init 44 = .ok (.aload_n 0, 1) := by decide +kernel
theorem dX7_init_45 : decode cX7_init 45 = .ok (.getfield 20, 3) := by decide +kernel
theorem dX7_init_48 : decode cX7_init 48 = .ok (.invokespecial 25, 3) := by decide +kernel
theorem dX7_init_51 : decode cX7_init 51 = .ok (.putfield 28, 3) := by decide +kernel
theorem dX7_init_54 : decode cX7_init 54 = .ok (.aload_n 0, 1) := by decide +kernel
theorem dX7_init_55 : decode cX7_init 55 = .ok (.new 32, 3) := by decide +kernel
theorem dX7_init_58 : decode cX7_init 58 = .ok (.dup, 1) := by decide +kernel
theorem dX7_init_59 : decode cX7_init 59 = .ok (.aload_n 0, 1) := by decide +kernel
theorem dX7_init_60 : decode cX7_init 60 = .ok (.getfield 16, 3) := by decide +kernel
theorem dX7_init_63 : decode cX7_init 63 = .ok (.invokespecial 34, 3) := by decide +kernel
theorem dX7_init_66 : decode cX7_init 66 = .ok (.putfield 37, 3) := by decide +kernel
theorem dX7_init_69 : decode cX7_init 69 = .ok (.aload_n 0, 1) := by decide +kernel
theorem dX7_init_70 : decode cX7_init 70 = .ok (.new 41, 3) := by decide +kernel
theorem dX7_init_73 : decode cX7_init 73 = .ok (.dup, 1) := by decide +kernel
theorem dX7_init_74 : decode cX7_init 74 = .ok (.aload_n 0, 1) := by decide +kernel
theorem dX7_init_75 : decode cX7_init 75 = .ok (.getfield 16, 3) := by decide +kernel
theorem dX7_init_78 : decode cX7_init 78 = .ok (.invokespecial 43, 3) := by decide +kernel
theorem dX7_init_81 : decode cX7_init 81 = .ok (.putfield 44, 3) := by decide +kernel
theorem dX7_init_84 : decode cX7_init 84 = .ok (.aload_n 0, 1) := by decide +kernel
theorem dX7_init_85 : decode cX7_init 85 = .ok (.new 48, 3) := by decide +kernel
theorem dX7_init_88 : decode cX7_init 88 = .ok (.dup, 1) := by decide +kernel
theorem dX7_init_89 : decode cX7_init 89 = .ok (.aload_n 0, 1) := by decide +kernel
theorem dX7_init_90 : decode cX7_init 90 = .ok (.getfield 16, 3) := by decide +kernel
theorem dX7_init_93 : decode cX7_init 93 = .ok (.aload_n 0, 1) := by decide +kernel
theorem dX7_init_94 : decode cX7_init 94 = .ok (.getfield 37, 3) := by decide +kernel
theorem dX7_init_97 : decode cX7_init 97 = .ok (.aload_n 0, 1) := by decide +kernel
theorem dX7_init_98 : decode cX7_init 98 = .ok (.getfield 44, 3) := by decide +kernel
theorem dX7_init_101 : decode cX7_init 101 = .ok (.invokespecial 50, 3) := by decide +kernel
theorem dX7_init_104 : decode cX7_init 104 = .ok (.putfield 53, 3) := by decide +kernel
theorem dX7_init_107 : decode cX7_init 107 = .ok (.aload_n 0, 1) := by decide +kernel
theorem dX7_init_108 : decode cX7_init 108 = .ok (.new 57, 3) := by decide +kernel
theorem dX7_init_111 : decode cX7_init 111 = .ok (.dup, 1) := by decide +kernel
theorem dX7_init_112 : decode cX7_init 112 = .ok (.aload_n 0, 1) := by decide +kernel
theorem dX7_init_113 : decode cX7_init 113 = .ok (.getfield 16, 3) := by decide +kernel
theorem dX7_init_116 : decode cX7_init 116 = .ok (.aload_n 0, 1) := by decide +kernel
theorem dX7_init_117 : decode cX7_init 117 = .ok (.getfield 44, 3) := by decide +kernel
theorem dX7_init_120 : decode cX7_init 120 = .ok (.aload_n 0, 1) := by decide +kernel
theorem dX7_init_121 : decode cX7_init 121 = .ok (.getfield 53, 3) := by decide +kernel
theorem dX7_init_124 : decode cX7_init 124 = .ok (.invokespecial 59, 3) := by decide +kernel
theorem dX7_init_127 : decode cX7_init 127 = .ok (.putfield 62, 3) := by decide +kernel
theorem dX7_init_130 : decode cX7_init 130 = .ok (.aload_n 0, 1) := by decide +kernel
theorem dX7_init_131 : decode cX7_init 131 = .ok (.new 66, 3) := by decide +kernel
theorem dX7_init_134 : decode cX7_init 134 = .ok (.dup, 1) := by decide +kernel
theorem dX7_init_135 : decode cX7_init 135 = .ok (.aload_n 0, 1) := by decide +kernel
theorem dX7_init_136 : decode cX7_init 136 = .ok (.getfield 16, 3) := by decide +kernel
end
section
theorem dX7_init_139 : decode cX7_init 139 = .ok (.aload_n 0, 1) := by decide +kernel
theorem dX7_init_140 : decode cX7_init 140 = .ok (.getfield 44, 3) := by decide +kernel
theorem dX7_init_143 : decode cX7_init 143 = .ok (.aload_n 0, 1) := by decide +kernel
theorem dX7_init_144 : decode cX7_init 144 = .ok (.getfield 53, 3) := by decide +kernel
theorem dX7_init_147 : decode cX7_init 147 = .ok (.invokespecial 68, 3) := by decide +kernel
theorem dX7_init_150 : decode cX7_init 150 = .ok (.putfield 69, 3) := by decide +kernel
theorem dX7_init_153 : decode cX7_init 153 = .ok (.aload_n 0, 1) := by decide +kernel
theorem dX7_init_154 : decode cX7_init 154 = .ok (.invokevirtual 73, 3) := by decide +kernel
theorem dX7_init_157 : decode cX7_init 157 = .ok (.return_, 1) := by decide +kernel
theorem dX7_feed_0 : decode cX7_feed 0 = .ok (.aload_n 0, 1) := by decide +kernel
theorem dX7_feed_1 : decode cX7_feed 1 = .ok (.getfield 76, 3) := by decide +kernel
theorem dX7_feed_4 : decode cX7_feed 4 = .ok (.sipush 380, 3) := by decide +kernel
theorem dX7_feed_7 : decode cX7_feed 7 = .ok (.if_icmp .le 5, 3) := by decide +kernel
theorem dX7_feed_10 : decode cX7_feed 10 = .ok (.iconst (-1), 1) := by decide +kernel
theorem dX7_feed_11 : decode cX7_feed 11 = .ok (.ireturn, 1) := by decide +kernel
theorem dX7_feed_12 : decode cX7_feed 12 = .ok (.aload_n 0, 1) := by decide +kernel
theorem dX7_feed_13 : decode cX7_feed 13 = .ok (.iload_n 1, 1) := by decide +kernel
theorem dX7_feed_14 : decode cX7_feed 14 = .ok (.invokevirtual 80, 3) := by decide +kernel
theorem dX7_feed_17 : decode cX7_feed 17 = .ok (.aload_n 0, 1) := by decide +kernel
theorem dX7_feed_18 : decode cX7_feed 18 = .ok (.iload_n 2, 1) := by decide +kernel
theorem dX7_feed_19 : decode cX7_feed 19 = .ok (.invokevirtual 80, 3) := by decide +kernel
theorem dX7_feed_22 : decode cX7_feed 22 = .ok (.aload_n 0, 1) := by decide +kernel
theorem dX7_feed_23 : decode cX7_feed 23 = .ok (.iload_n 3, 1) := by decide +kernel
theorem dX7_feed_24 : decode cX7_feed 24 = .ok (.invokevirtual 80, 3) := by decide +kernel
theorem dX7_feed_27 : decode cX7_feed 27 = .ok (.aload_n 0, 1) := by decide +kernel
theorem dX7_feed_28 : decode cX7_feed 28 = .ok (.iload 4, 2) := by decide +kernel
theorem dX7_feed_30 : decode cX7_feed 30 = .ok (.invokevirtual 80, 3) := by decide +kernel
theorem dX7_feed_33 : decode cX7_feed 33 = .ok (.aload_n 0, 1) := by decide +kernel
theorem dX7_feed_34 : decode cX7_feed 34 = .ok (.iload 5, 2) := by decide +kernel
theorem dX7_feed_36 : decode cX7_feed 36 = .ok (.invokevirtual 80, 3) := by decide +kernel
theorem dX7_feed_39 : decode cX7_feed 39 = .ok (.aload_n 0, 1) := by decide +kernel
theorem dX7_feed_40 : decode cX7_feed 40 = .ok (.getfield 76, 3) := by decide +kernel
theorem dX7_feed_43 : decode cX7_feed 43 = .ok (.ireturn, 1) := by decide +kernel
theorem dX7_end_0 : decode cX7_end 0 = .ok (.iload_n 1, 1) := by decide +kernel
theorem dX7_end_1 : decode cX7_end 1 = .ok (.ifCond .lt 11, 3) := by decide +kernel
theorem dX7_end_4 : decode cX7_end 4 = .ok (.iload_n 1, 1) := by decide +kernel
theorem dX7_end_5 : decode cX7_end 5 = .ok (.aload_n 0, 1) := by decide +kernel
theorem dX7_end_6 : decode cX7_end 6 = .ok (.getfield 76, 3) := by decide +kernel
theorem dX7_end_9 : decode cX7_end 9 = .ok (.if_icmp .le 5, 3) := by decide +kernel
theorem dX7_end_12 : decode cX7_end 12 = .ok (.iconst 0, 1) := by decide +kernel
theorem dX7_end_13 : decode cX7_end 13 = .ok (.ireturn, 1) := by decide +kernel
theorem dX7_end_14 : decode cX7_end 14 = .ok (.aload_n 0, 1) := by decide +kernel
theorem dX7_end_15 : decode cX7_end 15 = .ok (.iload_n 1, 1) := by decide +kernel
theorem dX7_end_16 : decode cX7_end 16 = .ok (.putfield 76, 3) := by decide +kernel
theorem dX7_end_19 : decode cX7_end 19 = .ok (.iconst 1, 1) := by decide +kernel
theorem dX7_end_20 : decode cX7_end 20 = .ok (.ireturn, 1) := by decide +kernel
theorem dX7_tell_0 : decode cX7_tell 0 = .ok (.aload_n 0, 1) := by decide +kernel
theorem dX7_tell_1 : decode cX7_tell 1 = .ok (.getfield 28, 3) := by decide +kernel
theorem dX7_tell_4 : decode cX7_tell 4 = .ok (.aload_n 0, 1) := by decide +kernel
theorem dX7_tell_5 : decode cX7_tell 5 = .ok (.getfield 76, 3) := by decide +kernel
theorem dX7_tell_8 : decode cX7_tell 8 = .ok (.invokevirtual 84, 3) := by decide +kernel
theorem dX7_tell_11 : decode cX7_tell 11 = .ok (.istore_n 1, 1) := by decide +kernel
theorem dX7_tell_12 : decode cX7_tell 12 = .ok (.aload_n 0, 1) := by decide +kernel
theorem dX7_tell_13 : decode cX7_tell 13 = .ok (.iconst 0, 1) := by decide +kernel
theorem dX7_tell_14 : decode cX7_tell 14 = .ok (.putfield 76, 3) := by decide +kernel
theorem dX7_tell_17 : decode cX7_tell 17 = .ok (.aload_n 0, 1) := by decide +kernel
theorem dX7_tell_18 : decode cX7_tell 18 = .ok (.aload_n 0, 1) := by decide +kernel
theorem dX7_tell_19 : decode cX7_tell 19 = .ok (.getfield 28, 3) := by decide +kernel
theorem dX7_tell_22 : decode cX7_tell 22 = .ok (.getfield 88, 3) := by decide +kernel
theorem dX7_tell_25 : decode cX7_tell 25 = .ok (.putfield 91, 3) := by decide +kernel
theorem dX7_tell_28 : decode cX7_tell 28 = .ok (.iload_n 1, 1) := by decide +kernel
theorem dX7_tell_29 : decode cX7_tell 29 = .ok (.iconst (-1), 1) := by decide +kernel
theorem dX7_tell_30 : decode cX7_tell 30 = .ok (.if_icmp .eq 18, 3) := by decide +kernel
theorem dX7_tell_33 : decode cX7_tell 33 = .ok (.aload_n 0, 1) := by decide +kernel
theorem dX7_tell_34 : decode cX7_tell 34 = .ok (.getfield 16, 3) := by decide +kernel
theorem dX7_tell_37 : decode cX7_tell 37 = .ok (.aload_n 0, 1) := by decide +kernel
theorem dX7_tell_38 : decode cX7_tell 38 = .ok (.getfield 20, 3) := by decide +kernel
theorem dX7_tell_41 : decode cX7_tell 41 = .ok (.invokevirtual 94, 3) := by decide +kernel
theorem dX7_tell_44 : decode cX7_tell 44 = .ok (.aload_n 0, 1) := by decide +kernel
theorem dX7_tell_45 : decode cX7_tell 45 = .ok (.invokevirtual 73, 3) := by decide +kernel
theorem dX7_tell_48 : decode cX7_tell 48 = .ok (.iload_n 1, 1) := by decide +kernel
theorem dX7_tell_49 : decode cX7_tell 49 = .ok (.ireturn, 1) := by decide +kernel
theorem dX7_fault_0 : decode cX7_fault 0 = .ok (.aload_n 0, 1) := by decide +kernel
theorem dX7_fault_1 : decode cX7_fault 1 = .ok (.getfield 91, 3) := by decide +kernel
theorem dX7_fault_4 : decode cX7_fault 4 = .ok (.ireturn, 1) := by decide +kernel
theorem dX7_weigh_0 : decode cX7_weigh 0 = .ok (.aload_n 0, 1) := by decide +kernel
theorem dX7_weigh_1 : decode cX7_weigh 1 = .ok (.getfield 16, 3) := by decide +kernel
theorem dX7_weigh_4 : decode cX7_weigh 4 = .ok (.iload_n 1, 1) := by decide +kernel
theorem dX7_weigh_5 : decode cX7_weigh 5 = .ok (.invokevirtual 97, 3) := by decide +kernel
theorem dX7_weigh_8 : decode cX7_weigh 8 = .ok (.ifCond .eq 22, 3) := by decide +kernel
theorem dX7_weigh_11 : decode cX7_weigh 11 = .ok (.iload_n 2, 1) := by decide +kernel
theorem dX7_weigh_12 : decode cX7_weigh 12 = .ok (.invokestatic 101, 3) := by decide +kernel
theorem dX7_weigh_15 : decode cX7_weigh 15 = .ok (.ifCond .eq 15, 3) := by decide +kernel
theorem dX7_weigh_18 : decode cX7_weigh 18 = .ok (.iload_n 3, 1) := by decide +kernel
theorem dX7_weigh_19 : decode cX7_weigh 19 = .ok (.bipush (-9), 2) := by decide +kernel
theorem dX7_weigh_21 : decode cX7_weigh 21 = .ok (.if_icmp .lt 9, 3) := by decide +kernel
theorem dX7_weigh_24 : decode cX7_weigh 24 = .ok (.iload_n 3, 1) := by decide +kernel
theorem dX7_weigh_25 : decode cX7_weigh 25 = .ok (.bipush 9, 2) := by decide +kernel
theorem dX7_weigh_27 : decode cX7_weigh 27 = .ok (.if_icmp .le 5, 3) := by decide +kernel
theorem dX7_weigh_30 : decode cX7_weigh 30 = .ok (.iconst 0, 1) := by decide +kernel
theorem dX7_weigh_31 : decode cX7_weigh 31 = .ok (.ireturn, 1) := by decide +kernel
theorem dX7_weigh_32 : decode cX7_weigh 32 = .ok (.aload_n 0, 1) := by decide +kernel
theorem dX7_weigh_33 : decode cX7_weigh 33 = .ok (.getfield 16, 3) := by decide +kernel
theorem dX7_weigh_36 : decode cX7_weigh 36 = .ok (.getfield 104, 3) := by decide +kernel
theorem dX7_weigh_39 : decode cX7_weigh 39 = .ok (.iload_n 1, 1) := by decide +kernel
theorem dX7_weigh_40 : decode cX7_weigh 40 = .ok (.bipush 8, 2) := by decide +kernel
theorem dX7_weigh_42 : decode cX7_weigh 42 = .ok (.imul, 1) := by decide +kernel
theorem dX7_weigh_43 : decode cX7_weigh 43 = .ok (.iload_n 2, 1) := by decide +kernel
theorem dX7_weigh_44 : decode cX7_weigh 44 = .ok (.iadd, 1) := by decide +kernel
theorem dX7_weigh_45 : decode cX7_weigh 45 = .ok (.iload_n 3, 1) := by decide +kernel
theorem dX7_weigh_46 : decode cX7_weigh 46 = .ok (.iastore, 1) := by decide +kernel
theorem dX7_weigh_47 : decode cX7_weigh 47 = .ok (.aload_n 0, 1) := by decide +kernel
theorem dX7_weigh_48 : decode cX7_weigh 48 = .ok (.getfield 44, 3) := by decide +kernel
theorem dX7_weigh_51 : decode cX7_weigh 51 = .ok (.iload_n 1, 1) := by decide +kernel
theorem dX7_weigh_52 : decode cX7_weigh 52 = .ok (.invokevirtual 107, 3) := by decide +kernel
theorem dX7_weigh_55 : decode cX7_weigh 55 = .ok (.aload_n 0, 1) := by decide +kernel
theorem dX7_weigh_56 : decode cX7_weigh 56 = .ok (.getfield 69, 3) := by decide +kernel
theorem dX7_weigh_59 : decode cX7_weigh 59 = .ok (.invokevirtual 110, 3) := by decide +kernel
theorem dX7_weigh_62 : decode cX7_weigh 62 = .ok (.iconst 1, 1) := by decide +kernel
theorem dX7_weigh_63 : decode cX7_weigh 63 = .ok (.ireturn, 1) := by decide +kernel
theorem dX7_order_0 : decode cX7_order 0 = .ok (.aload_n 0, 1) := by decide +kernel
theorem dX7_order_1 : decode cX7_order 1 = .ok (.getfield 37, 3) := by decide +kernel
theorem dX7_order_4 : decode cX7_order 4 = .ok (.iload_n 1, 1) := by decide +kernel
theorem dX7_order_5 : decode cX7_order 5 = .ok (.invokevirtual 113, 3) := by decide +kernel
theorem dX7_order_8 : decode cX7_order 8 = .ok (.ireturn, 1) := by decide +kernel
theorem dX7_count_0 : decode cX7_count 0 = .ok (.iload_n 1, 1) := by decide +kernel
theorem dX7_count_1 : decode cX7_count 1 = .ok (.tableswitch 108 0 7 #[47, 55, 63, 71, 79, 87, 95, 100], 47) := by decide +kernel
theorem dX7_count_48 : decode cX7_count 48 = .ok (.aload_n 0, 1) := by decide +kernel
theorem dX7_count_49 : decode cX7_count 49 = .ok (.getfield 16, 3) := by decide +kernel
theorem dX7_count_52 : decode cX7_count 52 = .ok (.getfield 116, 3) := by decide +kernel
theorem dX7_count_55 : decode cX7_count 55 = .ok (.ireturn, 1) := by decide +kernel
theorem dX7_count_56 : decode cX7_count 56 = .ok (.aload_n 0, 1) := by decide +kernel
theorem dX7_count_57 : decode cX7_count 57 = .ok (.getfield 16, 3) := by decide +kernel
theorem dX7_count_60 : decode cX7_count 60 = .ok (.getfield 119, 3) := by decide +kernel
theorem dX7_count_63 : decode cX7_count 63 = .ok (.ireturn, 1) := by decide +kernel
theorem dX7_count_64 : decode cX7_count 64 = .ok (.aload_n 0, 1) := by decide +kernel
theorem dX7_count_65 : decode cX7_count 65 = .ok (.getfield 16, 3) := by decide +kernel
theorem dX7_count_68 : decode cX7_count 68 = .ok (.getfield 122, 3) := by decide +kernel
theorem dX7_count_71 : decode cX7_count 71 = .ok (.ireturn, 1) := by decide +kernel
theorem dX7_count_72 : decode cX7_count 72 = .ok (.aload_n 0, 1) := by decide +kernel
theorem dX7_count_73 : decode cX7_count 73 = .ok (.getfield 16, 3) := by decide +kernel
theorem dX7_count_76 : decode cX7_count 76 = .ok (.invokevirtual 125, 3) := by decide +kernel
theorem dX7_count_79 : decode cX7_count 79 = .ok (.ireturn, 1) := by decide +kernel
theorem dX7_count_80 : decode cX7_count 80 = .ok (.aload_n 0, 1) := by decide +kernel
theorem dX7_count_81 : decode cX7_count 81 = .ok (.getfield 16, 3) := by decide +kernel
theorem dX7_count_84 : decode cX7_count 84 = .ok (.getfield 129, 3) := by decide +kernel
theorem dX7_count_87 : decode cX7_count 87 = .ok (.ireturn, 1) := by decide +kernel
theorem dX7_count_88 : decode cX7_count 88 = .ok (.aload_n 0, 1) := by decide +kernel
theorem dX7_count_89 : decode cX7_count 89 = .ok (.getfield 37, 3) := by decide +kernel
theorem dX7_count_92 : decode cX7_count 92 = .ok (.invokevirtual 132, 3) := by decide +kernel
theorem dX7_count_95 : decode cX7_count 95 = .ok (.ireturn, 1) := by decide +kernel
theorem dX7_count_96 : decode cX7_count 96 = .ok (.aload_n 0, 1) := by decide +kernel
theorem dX7_count_97 : decode cX7_count 97 = .ok (.getfield 76, 3) := by decide +kernel
theorem dX7_count_100 : decode cX7_count 100 = .ok (.ireturn, 1) := by decide +kernel
theorem dX7_count_101 : decode cX7_count 101 = .ok (.aload_n 0, 1) := by decide +kernel
theorem dX7_count_102 : decode cX7_count 102 = .ok (.getfield 69, 3) := by decide +kernel
theorem dX7_count_105 : decode cX7_count 105 = .ok (.getfield 135, 3) := by decide +kernel
theorem dX7_count_108 : decode cX7_count 108 = .ok (.ireturn, 1) := by decide +kernel
theorem dX7_count_109 : decode cX7_count 109 = .ok (.iconst (-1), 1) := by decide +kernel
theorem dX7_count_110 : decode cX7_count 110 = .ok (.ireturn, 1) := by decide +kernel
theorem dX7_motion_0 : decode cX7_motion 0 = .ok (.aload_n 0, 1) := by decide +kernel
theorem dX7_motion_1 : decode cX7_motion 1 = .ok (.getfield 16, 3) := by decide +kernel
theorem dX7_motion_4 : decode cX7_motion 4 = .ok (.iload_n 1, 1) := by decide +kernel
theorem dX7_motion_5 : decode cX7_motion 5 = .ok (.invokevirtual 138, 3) := by decide +kernel
theorem dX7_motion_8 : decode cX7_motion 8 = .ok (.ifCond .ne 13, 3) := by decide +kernel
theorem dX7_motion_11 : decode cX7_motion 11 = .ok (.new 141, 3) := by decide +kernel
theorem dX7_motion_14 : decode cX7_motion 14 = .ok (.dup, 1) := by decide +kernel
theorem dX7_motion_15 : decode cX7_motion 15 = .ok (.ldc 143, 2) := by decide +kernel
theorem dX7_motion_17 : decode cX7_motion 17 = .ok (.invokespecial 145, 3) := by decide +kernel
theorem dX7_motion_20 : decode cX7_motion 20 = .ok (.athrow, 1) := by decide +kernel
theorem dX7_motion_21 : decode cX7_motion 21 = .ok (.iload_n 2, 1) := by decide +kernel
theorem dX7_motion_22 : decode cX7_motion 22 = .ok (.tableswitch 83 0 4 #[34, 44, 54, 64, 74], 34) := by decide +kernel
theorem dX7_motion_56 : decode cX7_motion 56 = .ok (.aload_n 0, 1) := by decide +kernel
theorem dX7_motion_57 : decode cX7_motion 57 = .ok (.getfield 16, 3) := by decide +kernel
theorem dX7_motion_60 : decode cX7_motion 60 = .ok (.getfield 148, 3) := by decide +kernel
theorem dX7_motion_63 : decode cX7_motion 63 = .ok (.iload_n 1, 1) := by decide +kernel
theorem dX7_motion_64 : decode cX7_motion 64 = .ok (.iaload, 1) := by decide +kernel
theorem dX7_motion_65 : decode cX7_motion 65 = .ok (.ireturn, 1) := by decide +kernel
theorem dX7_motion_66 : decode cX7_motion 66 = .ok (.aload_n 0, 1) := by decide +kernel
theorem dX7_motion_67 : decode cX7_motion 67 = .ok (.getfield 16, 3) := by decide +kernel
theorem dX7_motion_70 : decode cX7_motion 70 = .ok (.getfield 151, 3) := by decide +kernel
theorem dX7_motion_73 : decode cX7_motion 73 = .ok (.iload_n 1, 1) := by decide +kernel
theorem dX7_motion_74 : decode cX7_motion 74 = .ok (.iaload, 1) := by decide +kernel
theorem dX7_motion_75 : decode cX7_motion 75 = .ok (.ireturn, 1) := by decide +kernel
theorem dX7_motion_76 : decode cX7_motion 76 = .ok (.aload_n 0, 1) := by decide +kernel
theorem dX7_motion_77 : decode cX7_motion 77 = .ok (.getfield 16, 3) := by decide +kernel
theorem dX7_motion_80 : decode cX7_motion 80 = .ok (.getfield 154, 3) := by decide +kernel
theorem dX7_motion_83 : decode cX7_motion 83 = .ok (.iload_n 1, 1) := by decide +kernel
theorem dX7_motion_84 : decode cX7_motion 84 = .ok (.iaload, 1) := by decide +kernel
theorem dX7_motion_85 : decode cX7_motion 85 = .ok (.ireturn, 1) := by decide +kernel
theorem dX7_motion_86 : decode cX7_motion 86 = .ok (.aload_n 0, 1) := by decide +kernel
theorem dX7_motion_87 : decode cX7_motion 87 = .ok (.getfield 16, 3) := by decide +kernel
theorem dX7_motion_90 : decode cX7_motion 90 = .ok (.getfield 157, 3) := by decide +kernel
theorem dX7_motion_93 : decode cX7_motion 93 = .ok (.iload_n 1, 1) := by decide +kernel
theorem dX7_motion_94 : decode cX7_motion 94 = .ok (.iaload, 1) := by decide +kernel
theorem dX7_motion_95 : decode cX7_motion 95 = .ok (.ireturn, 1) := by decide +kernel
theorem dX7_motion_96 : decode cX7_motion 96 = .ok (.aload_n 0, 1) := by decide +kernel
theorem dX7_motion_97 : decode cX7_motion 97 = .ok (.getfield 37, 3) := by decide +kernel
theorem dX7_motion_100 : decode cX7_motion 100 = .ok (.iload_n 1, 1) := by decide +kernel
theorem dX7_motion_101 : decode cX7_motion 101 = .ok (.invokevirtual 160, 3) := by decide +kernel
theorem dX7_motion_104 : decode cX7_motion 104 = .ok (.ireturn, 1) := by decide +kernel
theorem dX7_motion_105 : decode cX7_motion 105 = .ok (.new 141, 3) := by decide +kernel
theorem dX7_motion_108 : decode cX7_motion 108 = .ok (.dup, 1) := by decide +kernel
theorem dX7_motion_109 : decode cX7_motion 109 = .ok (.ldc 163, 2) := by decide +kernel
theorem dX7_motion_111 : decode cX7_motion 111 = .ok (.invokespecial 145, 3) := by decide +kernel
theorem dX7_motion_114 : decode cX7_motion 114 = .ok (.athrow, 1) := by decide +kernel
theorem dX7_weight_0 : decode cX7_weight 0 = .ok (.aload_n 0, 1) := by decide +kernel
theorem dX7_weight_1 : decode cX7_weight 1 = .ok (.getfield 16, 3) := by decide +kernel
theorem dX7_weight_4 : decode cX7_weight 4 = .ok (.iload_n 1, 1) := by decide +kernel
theorem dX7_weight_5 : decode cX7_weight 5 = .ok (.invokevirtual 97, 3) := by decide +kernel
theorem dX7_weight_8 : decode cX7_weight 8 = .ok (.ifCond .eq 10, 3) := by decide +kernel
theorem dX7_weight_11 : decode cX7_weight 11 = .ok (.iload_n 2, 1) := by decide +kernel
theorem dX7_weight_12 : decode cX7_weight 12 = .ok (.invokestatic 101, 3) := by decide +kernel
theorem dX7_weight_15 : decode cX7_weight 15 = .ok (.ifCond .ne 13, 3) := by decide +kernel
theorem dX7_weight_18 : decode cX7_weight 18 = .ok (.new 141, 3) := by decide +kernel
theorem dX7_weight_21 : decode cX7_weight 21 = .ok (.dup, 1) := by decide +kernel
theorem dX7_weight_22 : decode cX7_weight 22 = .ok (.ldc 165, 2) := by decide +kernel
theorem dX7_weight_24 : decode cX7_weight 24 = .ok (.invokespecial 145, 3) := by decide +kernel
theorem dX7_weight_27 : decode cX7_weight 27 = .ok (.athrow, 1) := by decide +kernel
theorem dX7_weight_28 : decode cX7_weight 28 = .ok (.aload_n 0, 1) := by decide +kernel
theorem dX7_weight_29 : decode cX7_weight 29 = .ok (.getfield 16, 3) := by decide +kernel
theorem dX7_weight_32 : decode cX7_weight 32 = .ok (.getfield 104, 3) := by decide +kernel
theorem dX7_weight_35 : decode cX7_weight 35 = .ok (.iload_n 1, 1) := by decide +kernel
theorem dX7_weight_36 : decode cX7_weight 36 = .ok (.bipush 8, 2) := by decide +kernel
theorem dX7_weight_38 : decode cX7_weight 38 = .ok (.imul, 1) := by decide +kernel
theorem dX7_weight_39 : decode cX7_weight 39 = .ok (.iload_n 2, 1) := by decide +kernel
theorem dX7_weight_40 : decode cX7_weight 40 = .ok (.iadd, 1) := by decide +kernel
theorem dX7_weight_41 : decode cX7_weight 41 = .ok (.iaload, 1) := by decide +kernel
theorem dX7_weight_42 : decode cX7_weight 42 = .ok (.ireturn, 1) := by decide +kernel
theorem dX7_likes_0 : decode cX7_likes 0 = .ok (.aload_n 0, 1) := by decide +kernel
theorem dX7_likes_1 : decode cX7_likes 1 = .ok (.getfield 16, 3) := by decide +kernel
theorem dX7_likes_4 : decode cX7_likes 4 = .ok (.iload_n 1, 1) := by decide +kernel
theorem dX7_likes_5 : decode cX7_likes 5 = .ok (.invokevirtual 97, 3) := by decide +kernel
theorem dX7_likes_8 : decode cX7_likes 8 = .ok (.ifCond .eq 10, 3) := by decide +kernel
theorem dX7_likes_11 : decode cX7_likes 11 = .ok (.iload_n 2, 1) := by decide +kernel
theorem dX7_likes_12 : decode cX7_likes 12 = .ok (.invokestatic 167, 3) := by decide +kernel
theorem dX7_likes_15 : decode cX7_likes 15 = .ok (.ifCond .ne 13, 3) := by decide +kernel
theorem dX7_likes_18 : decode cX7_likes 18 = .ok (.new 141, 3) := by decide +kernel
theorem dX7_likes_21 : decode cX7_likes 21 = .ok (.dup, 1) := by decide +kernel
theorem dX7_likes_22 : decode cX7_likes 22 = .ok (.ldc 170, 2) := by decide +kernel
theorem dX7_likes_24 : decode cX7_likes 24 = .ok (.invokespecial 145, 3) := by decide +kernel
theorem dX7_likes_27 : decode cX7_likes 27 = .ok (.athrow, 1) := by decide +kernel
theorem dX7_likes_28 : decode cX7_likes 28 = .ok (.aload_n 0, 1) := by decide +kernel
theorem dX7_likes_29 : decode cX7_likes 29 = .ok (.getfield 44, 3) := by decide +kernel
theorem dX7_likes_32 : decode cX7_likes 32 = .ok (.iload_n 1, 1) := by decide +kernel
theorem dX7_likes_33 : decode cX7_likes 33 = .ok (.iload_n 2, 1) := by decide +kernel
theorem dX7_likes_34 : decode cX7_likes 34 = .ok (.invokevirtual 172, 3) := by decide +kernel
theorem dX7_likes_37 : decode cX7_likes 37 = .ok (.ireturn, 1) := by decide +kernel
theorem dX7_form_0 : decode cX7_form 0 = .ok (.iload_n 1, 1) := by decide +kernel
theorem dX7_form_1 : decode cX7_form 1 = .ok (.aload_n 0, 1) := by decide +kernel
theorem dX7_form_2 : decode cX7_form 2 = .ok (.getfield 16, 3) := by decide +kernel
theorem dX7_form_5 : decode cX7_form 5 = .ok (.getfield 116, 3) := by decide +kernel
theorem dX7_form_8 : decode cX7_form 8 = .ok (.invokestatic 176, 3) := by decide +kernel
theorem dX7_form_11 : decode cX7_form 11 = .ok (.ifCond .eq 15, 3) := by decide +kernel
theorem dX7_form_14 : decode cX7_form 14 = .ok (.aload_n 0, 1) := by decide +kernel
theorem dX7_form_15 : decode cX7_form 15 = .ok (.getfield 53, 3) := by decide +kernel
theorem dX7_form_18 : decode cX7_form 18 = .ok (.getfield 180, 3) := by decide +kernel
theorem dX7_form_21 : decode cX7_form 21 = .ok (.iload_n 1, 1) := by decide +kernel
theorem dX7_form_22 : decode cX7_form 22 = .ok (.iaload, 1) := by decide +kernel
theorem dX7_form_23 : decode cX7_form 23 = .ok (.goto 4, 3) := by decide +kernel
theorem dX7_form_26 : decode cX7_form 26 = .ok (.iconst (-1), 1) := by decide +kernel
theorem dX7_form_27 : decode cX7_form 27 = .ok (.ireturn, 1) := by decide +kernel
theorem dX7_result_0 : decode cX7_result 0 = .ok (.aload_n 0, 1) := by decide +kernel
theorem dX7_result_1 : decode cX7_result 1 = .ok (.iload_n 1, 1) := by decide +kernel
theorem dX7_result_2 : decode cX7_result 2 = .ok (.invokevirtual 183, 3) := by decide +kernel
theorem dX7_result_5 : decode cX7_result 5 = .ok (.ifCond .eq 15, 3) := by decide +kernel
theorem dX7_result_8 : decode cX7_result 8 = .ok (.aload_n 0, 1) := by decide +kernel
theorem dX7_result_9 : decode cX7_result 9 = .ok (.getfield 53, 3) := by decide +kernel
theorem dX7_result_12 : decode cX7_result 12 = .ok (.iload_n 1, 1) := by decide +kernel
theorem dX7_result_13 : decode cX7_result 13 = .ok (.iconst 0, 1) := by decide +kernel
theorem dX7_result_14 : decode cX7_result 14 = .ok (.invokevirtual 186, 3) := by decide +kernel
theorem dX7_result_17 : decode cX7_result 17 = .ok (.goto 4, 3) := by decide +kernel
theorem dX7_result_20 : decode cX7_result 20 = .ok (.iconst (-1), 1) := by decide +kernel
theorem dX7_result_21 : decode cX7_result 21 = .ok (.ireturn, 1) := by decide +kernel
theorem dX7_adopted_0 : decode cX7_adopted 0 = .ok (.aload_n 0, 1) := by decide +kernel
theorem dX7_adopted_1 : decode cX7_adopted 1 = .ok (.iload_n 1, 1) := by decide +kernel
theorem dX7_adopted_2 : decode cX7_adopted 2 = .ok (.invokevirtual 183, 3) := by decide +kernel
theorem dX7_adopted_5 : decode cX7_adopted 5 = .ok (.ifCond .ne 5, 3) := by decide +kernel
theorem dX7_adopted_8 : decode cX7_adopted 8 = .ok (.iconst (-1), 1) := by decide +kernel
theorem dX7_adopted_9 : decode cX7_adopted 9 = .ok (.ireturn, 1) := by decide +kernel
theorem dX7_adopted_10 : decode cX7_adopted 10 = .ok (.aload_n 0, 1) := by decide +kernel
theorem dX7_adopted_11 : decode cX7_adopted 11 = .ok (.getfield 53, 3) := by decide +kernel
theorem dX7_adopted_14 : decode cX7_adopted 14 = .ok (.iload_n 1, 1) := by decide +kernel
theorem dX7_adopted_15 : decode cX7_adopted 15 = .ok (.invokevirtual 189, 3) := by decide +kernel
theorem dX7_adopted_18 : decode cX7_adopted 18 = .ok (.aload_n 0, 1) := by decide +kernel
theorem dX7_adopted_19 : decode cX7_adopted 19 = .ok (.getfield 53, 3) := by decide +kernel
theorem dX7_adopted_22 : decode cX7_adopted 22 = .ok (.getfield 192, 3) := by decide +kernel
theorem dX7_adopted_25 : decode cX7_adopted 25 = .ok (.ireturn, 1) := by decide +kernel
theorem dX7_yes_0 : decode cX7_yes 0 = .ok (.aload_n 0, 1) := by decide +kernel
theorem dX7_yes_1 : decode cX7_yes 1 = .ok (.iload_n 1, 1) := by decide +kernel
theorem dX7_yes_2 : decode cX7_yes 2 = .ok (.invokevirtual 183, 3) := by decide +kernel
theorem dX7_yes_5 : decode cX7_yes 5 = .ok (.ifCond .eq 18, 3) := by decide +kernel
theorem dX7_yes_8 : decode cX7_yes 8 = .ok (.iload_n 2, 1) := by decide +kernel
theorem dX7_yes_9 : decode cX7_yes 9 = .ok (.ifCond .lt 14, 3) := by decide +kernel
theorem dX7_yes_12 : decode cX7_yes 12 = .ok (.iload_n 2, 1) := by decide +kernel
theorem dX7_yes_13 : decode cX7_yes 13 = .ok (.aload_n 0, 1) := by decide +kernel
theorem dX7_yes_14 : decode cX7_yes 14 = .ok (.getfield 16, 3) := by decide +kernel
theorem dX7_yes_17 : decode cX7_yes 17 = .ok (.getfield 116, 3) := by decide +kernel
theorem dX7_yes_20 : decode cX7_yes 20 = .ok (.if_icmp .le 5, 3) := by decide +kernel
theorem dX7_yes_23 : decode cX7_yes 23 = .ok (.iconst (-1), 1) := by decide +kernel
theorem dX7_yes_24 : decode cX7_yes 24 = .ok (.ireturn, 1) := by decide +kernel
theorem dX7_yes_25 : decode cX7_yes 25 = .ok (.aload_n 0, 1) := by decide +kernel
theorem dX7_yes_26 : decode cX7_yes 26 = .ok (.getfield 53, 3) := by decide +kernel
theorem dX7_yes_29 : decode cX7_yes 29 = .ok (.iload_n 1, 1) := by decide +kernel
theorem dX7_yes_30 : decode cX7_yes 30 = .ok (.invokevirtual 189, 3) := by decide +kernel
theorem dX7_yes_33 : decode cX7_yes 33 = .ok (.aload_n 0, 1) := by decide +kernel
theorem dX7_yes_34 : decode cX7_yes 34 = .ok (.getfield 53, 3) := by decide +kernel
theorem dX7_yes_37 : decode cX7_yes 37 = .ok (.getfield 195, 3) := by decide +kernel
theorem dX7_yes_40 : decode cX7_yes 40 = .ok (.iload_n 2, 1) := by decide +kernel
theorem dX7_yes_41 : decode cX7_yes 41 = .ok (.iaload, 1) := by decide +kernel
theorem dX7_yes_42 : decode cX7_yes 42 = .ok (.ireturn, 1) := by decide +kernel
theorem dX7_minutes_0 : decode cX7_minutes 0 = .ok (.aload_n 0, 1) := by decide +kernel
theorem dX7_minutes_1 : decode cX7_minutes 1 = .ok (.getfield 16, 3) := by decide +kernel
theorem dX7_minutes_4 : decode cX7_minutes 4 = .ok (.getfield 116, 3) := by decide +kernel
theorem dX7_minutes_7 : decode cX7_minutes 7 = .ok (.iconst 1, 1) := by decide +kernel
theorem dX7_minutes_8 : decode cX7_minutes 8 = .ok (.iadd, 1) := by decide +kernel
theorem dX7_minutes_9 : decode cX7_minutes 9 = .ok (.bipush 7, 2) := by decide +kernel
theorem dX7_minutes_11 : decode cX7_minutes 11 = .ok (.imul, 1) := by decide +kernel
theorem dX7_minutes_12 : decode cX7_minutes 12 = .ok (.istore_n 3, 1) := by decide +kernel
theorem dX7_minutes_13 : decode cX7_minutes 13 = .ok (.aload_n 0, 1) := by decide +kernel
theorem dX7_minutes_14 : decode cX7_minutes 14 = .ok (.iload_n 1, 1) := by decide +kernel
theorem dX7_minutes_15 : decode cX7_minutes 15 = .ok (.invokevirtual 183, 3) := by decide +kernel
theorem dX7_minutes_18 : decode cX7_minutes 18 = .ok (.ifCond .eq 13, 3) := by decide +kernel
theorem dX7_minutes_21 : decode cX7_minutes 21 = .ok (.iload_n 2, 1) := by decide +kernel
theorem dX7_minutes_22 : decode cX7_minutes 22 = .ok (.iconst (-1), 1) := by decide +kernel
theorem dX7_minutes_23 : decode cX7_minutes 23 = .ok (.if_icmp .lt 8, 3) := by decide +kernel
theorem dX7_minutes_26 : decode cX7_minutes 26 = .ok (.iload_n 2, 1) := by decide +kernel
theorem dX7_minutes_27 : decode cX7_minutes 27 = .ok (.iload_n 3, 1) := by decide +kernel
theorem dX7_minutes_28 : decode cX7_minutes 28 = .ok (.if_icmp .lt 5, 3) := by decide +kernel
theorem dX7_minutes_31 : decode cX7_minutes 31 = .ok (.iconst (-1), 1) := by decide +kernel
theorem dX7_minutes_32 : decode cX7_minutes 32 = .ok (.ireturn, 1) := by decide +kernel
theorem dX7_minutes_33 : decode cX7_minutes 33 = .ok (.iload_n 2, 1) := by decide +kernel
theorem dX7_minutes_34 : decode cX7_minutes 34 = .ok (.iconst (-1), 1) := by decide +kernel
theorem dX7_minutes_35 : decode cX7_minutes 35 = .ok (.if_icmp .ne 5, 3) := by decide +kernel
theorem dX7_minutes_38 : decode cX7_minutes 38 = .ok (.iload_n 3, 1) := by decide +kernel
theorem dX7_minutes_39 : decode cX7_minutes 39 = .ok (.ireturn, 1) := by decide +kernel
theorem dX7_minutes_40 : decode cX7_minutes 40 = .ok (.aload_n 0, 1) := by decide +kernel
theorem dX7_minutes_41 : decode cX7_minutes 41 = .ok (.getfield 53, 3) := by decide +kernel
theorem dX7_minutes_44 : decode cX7_minutes 44 = .ok (.iload_n 1, 1) := by decide +kernel
theorem dX7_minutes_45 : decode cX7_minutes 45 = .ok (.invokevirtual 189, 3) := by decide +kernel
theorem dX7_minutes_48 : decode cX7_minutes 48 = .ok (.aload_n 0, 1) := by decide +kernel
theorem dX7_minutes_49 : decode cX7_minutes 49 = .ok (.getfield 53, 3) := by decide +kernel
theorem dX7_minutes_52 : decode cX7_minutes 52 = .ok (.iload_n 2, 1) := by decide +kernel
theorem dX7_minutes_53 : decode cX7_minutes 53 = .ok (.bipush 7, 2) := by decide +kernel
theorem dX7_minutes_55 : decode cX7_minutes 55 = .ok (.idiv, 1) := by decide +kernel
theorem dX7_minutes_56 : decode cX7_minutes 56 = .ok (.iload_n 2, 1) := by decide +kernel
theorem dX7_minutes_57 : decode cX7_minutes 57 = .ok (.bipush 7, 2) := by decide +kernel
theorem dX7_minutes_59 : decode cX7_minutes 59 = .ok (.irem, 1) := by decide +kernel
theorem dX7_minutes_60 : decode cX7_minutes 60 = .ok (.invokevirtual 198, 3) := by decide +kernel
theorem dX7_minutes_63 : decode cX7_minutes 63 = .ok (.ireturn, 1) := by decide +kernel
theorem dX7_without_0 : decode cX7_without 0 = .ok (.aload_n 0, 1) := by decide +kernel
theorem dX7_without_1 : decode cX7_without 1 = .ok (.getfield 16, 3) := by decide +kernel
theorem dX7_without_4 : decode cX7_without 4 = .ok (.iload_n 1, 1) := by decide +kernel
theorem dX7_without_5 : decode cX7_without 5 = .ok (.invokevirtual 138, 3) := by decide +kernel
theorem dX7_without_8 : decode cX7_without 8 = .ok (.ifCond .eq 11, 3) := by decide +kernel
theorem dX7_without_11 : decode cX7_without 11 = .ok (.aload_n 0, 1) := by decide +kernel
theorem dX7_without_12 : decode cX7_without 12 = .ok (.iload_n 2, 1) := by decide +kernel
theorem dX7_without_13 : decode cX7_without 13 = .ok (.invokevirtual 183, 3) := by decide +kernel
theorem dX7_without_16 : decode cX7_without 16 = .ok (.ifCond .ne 5, 3) := by decide +kernel
theorem dX7_without_19 : decode cX7_without 19 = .ok (.iconst (-1), 1) := by decide +kernel
theorem dX7_without_20 : decode cX7_without 20 = .ok (.ireturn, 1) := by decide +kernel
theorem dX7_without_21 : decode cX7_without 21 = .ok (.aload_n 0, 1) := by decide +kernel
theorem dX7_without_22 : decode cX7_without 22 = .ok (.getfield 53, 3) := by decide +kernel
theorem dX7_without_25 : decode cX7_without 25 = .ok (.iload_n 2, 1) := by decide +kernel
theorem dX7_without_26 : decode cX7_without 26 = .ok (.aload_n 0, 1) := by decide +kernel
theorem dX7_without_27 : decode cX7_without 27 = .ok (.getfield 16, 3) := by decide +kernel
theorem dX7_without_30 : decode cX7_without 30 = .ok (.iload_n 1, 1) := by decide +kernel
theorem dX7_without_31 : decode cX7_without 31 = .ok (.invokevirtual 201, 3) := by decide +kernel
theorem dX7_without_34 : decode cX7_without 34 = .ok (.invokevirtual 186, 3) := by decide +kernel
theorem dX7_without_37 : decode cX7_without 37 = .ok (.ireturn, 1) := by decide +kernel
theorem dX7_killers_0 : decode cX7_killers 0 = .ok (.aload_n 0, 1) := by decide +kernel
theorem dX7_killers_1 : decode cX7_killers 1 = .ok (.iload_n 1, 1) := by decide +kernel
theorem dX7_killers_2 : decode cX7_killers 2 = .ok (.invokevirtual 183, 3) := by decide +kernel
theorem dX7_killers_5 : decode cX7_killers 5 = .ok (.ifCond .ne 5, 3) := by decide +kernel
theorem dX7_killers_8 : decode cX7_killers 8 = .ok (.iconst (-1), 1) := by decide +kernel
theorem dX7_killers_9 : decode cX7_killers 9 = .ok (.ireturn, 1) := by decide +kernel
theorem dX7_killers_10 : decode cX7_killers 10 = .ok (.iconst 0, 1) := by decide +kernel
theorem dX7_killers_11 : decode cX7_killers 11 = .ok (.istore_n 2, 1) := by decide +kernel
theorem dX7_killers_12 : decode cX7_killers 12 = .ok (.aload_n 0, 1) := by decide +kernel
theorem dX7_killers_13 : decode cX7_killers 13 = .ok (.getfield 53, 3) := by decide +kernel
theorem dX7_killers_16 : decode cX7_killers 16 = .ok (.iload_n 1, 1) := by decide +kernel
theorem dX7_killers_17 : decode cX7_killers 17 = .ok (.iconst 0, 1) := by decide +kernel
theorem dX7_killers_18 : decode cX7_killers 18 = .ok (.invokevirtual 186, 3) := by decide +kernel
theorem dX7_killers_21 : decode cX7_killers 21 = .ok (.ifCond .ne 47, 3) := by decide +kernel
theorem dX7_killers_24 : decode cX7_killers 24 = .ok (.iconst 0, 1) := by decide +kernel
theorem dX7_killers_25 : decode cX7_killers 25 = .ok (.istore_n 3, 1) := by decide +kernel
theorem dX7_killers_26 : decode cX7_killers 26 = .ok (.iload_n 3, 1) := by decide +kernel
theorem dX7_killers_27 : decode cX7_killers 27 = .ok (.aload_n 0, 1) := by decide +kernel
theorem dX7_killers_28 : decode cX7_killers 28 = .ok (.getfield 16, 3) := by decide +kernel
theorem dX7_killers_31 : decode cX7_killers 31 = .ok (.getfield 116, 3) := by decide +kernel
theorem dX7_killers_34 : decode cX7_killers 34 = .ok (.if_icmp .ge 34, 3) := by decide +kernel
theorem dX7_killers_37 : decode cX7_killers 37 = .ok (.aload_n 0, 1) := by decide +kernel
theorem dX7_killers_38 : decode cX7_killers 38 = .ok (.getfield 53, 3) := by decide +kernel
theorem dX7_killers_41 : decode cX7_killers 41 = .ok (.iload_n 1, 1) := by decide +kernel
theorem dX7_killers_42 : decode cX7_killers 42 = .ok (.aload_n 0, 1) := by decide +kernel
theorem dX7_killers_43 : decode cX7_killers 43 = .ok (.getfield 16, 3) := by decide +kernel
theorem dX7_killers_46 : decode cX7_killers 46 = .ok (.iload_n 3, 1) := by decide +kernel
theorem dX7_killers_47 : decode cX7_killers 47 = .ok (.invokevirtual 201, 3) := by decide +kernel
theorem dX7_killers_50 : decode cX7_killers 50 = .ok (.invokevirtual 186, 3) := by decide +kernel
theorem dX7_killers_53 : decode cX7_killers 53 = .ok (.ifCond .eq 9, 3) := by decide +kernel
theorem dX7_killers_56 : decode cX7_killers 56 = .ok (.iload_n 2, 1) := by decide +kernel
theorem dX7_killers_57 : decode cX7_killers 57 = .ok (.iconst 1, 1) := by decide +kernel
theorem dX7_killers_58 : decode cX7_killers 58 = .ok (.iload_n 3, 1) := by decide +kernel
theorem dX7_killers_59 : decode cX7_killers 59 = .ok (.ishl, 1) := by decide +kernel
theorem dX7_killers_60 : decode cX7_killers 60 = .ok (.ior, 1) := by decide +kernel
theorem dX7_killers_61 : decode cX7_killers 61 = .ok (.istore_n 2, 1) := by decide +kernel
theorem dX7_killers_62 : decode cX7_killers 62 = .ok (.iinc 3 1, 3) := by decide +kernel
theorem dX7_killers_65 : decode cX7_killers 65 = .ok (.goto (-39), 3) := by decide +kernel
theorem dX7_killers_68 : decode cX7_killers 68 = .ok (.iload_n 2, 1) := by decide +kernel
theorem dX7_killers_69 : decode cX7_killers 69 = .ok (.ireturn, 1) := by decide +kernel
theorem dX7_best_0 : decode cX7_best 0 = .ok (.aload_n 0, 1) := by decide +kernel
theorem dX7_best_1 : decode cX7_best 1 = .ok (.getfield 16, 3) := by decide +kernel
theorem dX7_best_4 : decode cX7_best 4 = .ok (.iload_n 1, 1) := by decide +kernel
theorem dX7_best_5 : decode cX7_best 5 = .ok (.invokevirtual 97, 3) := by decide +kernel
theorem dX7_best_8 : decode cX7_best 8 = .ok (.ifCond .eq 20, 3) := by decide +kernel
theorem dX7_best_11 : decode cX7_best 11 = .ok (.aload_n 0, 1) := by decide +kernel
theorem dX7_best_12 : decode cX7_best 12 = .ok (.iload_n 2, 1) := by decide +kernel
theorem dX7_best_13 : decode cX7_best 13 = .ok (.invokevirtual 183, 3) := by decide +kernel
theorem dX7_best_16 : decode cX7_best 16 = .ok (.ifCond .eq 12, 3) := by decide +kernel
theorem dX7_best_19 : decode cX7_best 19 = .ok (.iload_n 3, 1) := by decide +kernel
theorem dX7_best_20 : decode cX7_best 20 = .ok (.ifCond .lt 8, 3) := by decide +kernel
theorem dX7_best_23 : decode cX7_best 23 = .ok (.iload_n 3, 1) := by decide +kernel
theorem dX7_best_24 : decode cX7_best 24 = .ok (.iconst 2, 1) := by decide +kernel
theorem dX7_best_25 : decode cX7_best 25 = .ok (.if_icmp .le 5, 3) := by decide +kernel
theorem dX7_best_28 : decode cX7_best 28 = .ok (.iconst (-1), 1) := by decide +kernel
theorem dX7_best_29 : decode cX7_best 29 = .ok (.ireturn, 1) := by decide +kernel
theorem dX7_best_30 : decode cX7_best 30 = .ok (.aload_n 0, 1) := by decide +kernel
theorem dX7_best_31 : decode cX7_best 31 = .ok (.getfield 62, 3) := by decide +kernel
theorem dX7_best_34 : decode cX7_best 34 = .ok (.iload_n 1, 1) := by decide +kernel
theorem dX7_best_35 : decode cX7_best 35 = .ok (.iload_n 2, 1) := by decide +kernel
theorem dX7_best_36 : decode cX7_best 36 = .ok (.invokevirtual 204, 3) := by decide +kernel
theorem dX7_best_39 : decode cX7_best 39 = .ok (.iload_n 3, 1) := by decide +kernel
theorem dX7_best_40 : decode cX7_best 40 = .ok (.ifCond .ne 11, 3) := by decide +kernel
theorem dX7_best_43 : decode cX7_best 43 = .ok (.aload_n 0, 1) := by decide +kernel
theorem dX7_best_44 : decode cX7_best 44 = .ok (.getfield 62, 3) := by decide +kernel
theorem dX7_best_47 : decode cX7_best 47 = .ok (.getfield 208, 3) := by decide +kernel
theorem dX7_best_50 : decode cX7_best 50 = .ok (.ireturn, 1) := by decide +kernel
theorem dX7_best_51 : decode cX7_best 51 = .ok (.iload_n 3, 1) := by decide +kernel
theorem dX7_best_52 : decode cX7_best 52 = .ok (.iconst 1, 1) := by decide +kernel
theorem dX7_best_53 : decode cX7_best 53 = .ok (.if_icmp .ne 13, 3) := by decide +kernel
theorem dX7_best_56 : decode cX7_best 56 = .ok (.aload_n 0, 1) := by decide +kernel
theorem dX7_best_57 : decode cX7_best 57 = .ok (.getfield 62, 3) := by decide +kernel
theorem dX7_best_60 : decode cX7_best 60 = .ok (.invokevirtual 211, 3) := by decide +kernel
theorem dX7_best_63 : decode cX7_best 63 = .ok (.goto 10, 3) := by decide +kernel
theorem dX7_best_66 : decode cX7_best 66 = .ok (.aload_n 0, 1) := by decide +kernel
theorem dX7_best_67 : decode cX7_best 67 = .ok (.getfield 62, 3) := by decide +kernel
theorem dX7_best_70 : decode cX7_best 70 = .ok (.getfield 214, 3) := by decide +kernel
theorem dX7_best_73 : decode cX7_best 73 = .ok (.ireturn, 1) := by decide +kernel
theorem dX7_prefers_0 : decode cX7_prefers 0 = .ok (.iload_n 1, 1) := by decide +kernel
theorem dX7_prefers_1 : decode cX7_prefers 1 = .ok (.invokestatic 167, 3) := by decide +kernel
theorem dX7_prefers_4 : decode cX7_prefers 4 = .ok (.ifCond .eq 22, 3) := by decide +kernel
theorem dX7_prefers_7 : decode cX7_prefers 7 = .ok (.iload_n 2, 1) := by decide +kernel
theorem dX7_prefers_8 : decode cX7_prefers 8 = .ok (.invokestatic 167, 3) := by decide +kernel
theorem dX7_prefers_11 : decode cX7_prefers 11 = .ok (.ifCond .eq 15, 3) := by decide +kernel
theorem dX7_prefers_14 : decode cX7_prefers 14 = .ok (.aload_n 0, 1) := by decide +kernel
theorem dX7_prefers_15 : decode cX7_prefers 15 = .ok (.getfield 44, 3) := by decide +kernel
theorem dX7_prefers_18 : decode cX7_prefers 18 = .ok (.iload_n 1, 1) := by decide +kernel
theorem dX7_prefers_19 : decode cX7_prefers 19 = .ok (.iload_n 2, 1) := by decide +kernel
theorem dX7_prefers_20 : decode cX7_prefers 20 = .ok (.invokevirtual 217, 3) := by decide +kernel
theorem dX7_prefers_23 : decode cX7_prefers 23 = .ok (.goto 4, 3) := by decide +kernel
theorem dX7_prefers_26 : decode cX7_prefers 26 = .ok (.iconst (-1), 1) := by decide +kernel
theorem dX7_prefers_27 : decode cX7_prefers 27 = .ok (.ireturn, 1) := by decide +kernel
theorem dX7_open_0 : decode cX7_open 0 = .ok (.iload_n 1, 1) := by decide +kernel
theorem dX7_open_1 : decode cX7_open 1 = .ok (.ifCond .lt 26, 3) := by decide +kernel
theorem dX7_open_4 : decode cX7_open 4 = .ok (.iload_n 1, 1) := by decide +kernel
theorem dX7_open_5 : decode cX7_open 5 = .ok (.aload_n 0, 1) := by decide +kernel
theorem dX7_open_6 : decode cX7_open 6 = .ok (.getfield 69, 3) := by decide +kernel
theorem dX7_open_9 : decode cX7_open 9 = .ok (.getfield 135, 3) := by decide +kernel
theorem dX7_open_12 : decode cX7_open 12 = .ok (.if_icmp .ge 15, 3) := by decide +kernel
theorem dX7_open_15 : decode cX7_open 15 = .ok (.aload_n 0, 1) := by decide +kernel
theorem dX7_open_16 : decode cX7_open 16 = .ok (.getfield 69, 3) := by decide +kernel
theorem dX7_open_19 : decode cX7_open 19 = .ok (.getfield 220, 3) := by decide +kernel
theorem dX7_open_22 : decode cX7_open 22 = .ok (.iload_n 1, 1) := by decide +kernel
theorem dX7_open_23 : decode cX7_open 23 = .ok (.iaload, 1) := by decide +kernel
theorem dX7_open_24 : decode cX7_open 24 = .ok (.goto 4, 3) := by decide +kernel
theorem dX7_open_27 : decode cX7_open 27 = .ok (.iconst (-1), 1) := by decide +kernel
theorem dX7_open_28 : decode cX7_open 28 = .ok (.ireturn, 1) := by decide +kernel
theorem dX7_winner_0 : decode cX7_winner 0 = .ok (.aload_n 0, 1) := by decide +kernel
theorem dX7_winner_1 : decode cX7_winner 1 = .ok (.getfield 69, 3) := by decide +kernel
theorem dX7_winner_4 : decode cX7_winner 4 = .ok (.invokevirtual 223, 3) := by decide +kernel
theorem dX7_winner_7 : decode cX7_winner 7 = .ok (.aload_n 0, 1) := by decide +kernel
theorem dX7_winner_8 : decode cX7_winner 8 = .ok (.getfield 69, 3) := by decide +kernel
theorem dX7_winner_11 : decode cX7_winner 11 = .ok (.invokevirtual 226, 3) := by decide +kernel
theorem dX7_winner_14 : decode cX7_winner 14 = .ok (.ireturn, 1) := by decide +kernel
theorem dX7_standing_0 : decode cX7_standing 0 = .ok (.aload_n 0, 1) := by decide +kernel
theorem dX7_standing_1 : decode cX7_standing 1 = .ok (.getfield 69, 3) := by decide +kernel
theorem dX7_standing_4 : decode cX7_standing 4 = .ok (.iload_n 1, 1) := by decide +kernel
theorem dX7_standing_5 : decode cX7_standing 5 = .ok (.invokevirtual 229, 3) := by decide +kernel
theorem dX7_standing_8 : decode cX7_standing 8 = .ok (.istore_n 3, 1) := by decide +kernel
theorem dX7_standing_9 : decode cX7_standing 9 = .ok (.iload_n 3, 1) := by decide +kernel
theorem dX7_standing_10 : decode cX7_standing 10 = .ok (.iconst (-1), 1) := by decide +kernel
theorem dX7_standing_11 : decode cX7_standing 11 = .ok (.if_icmp .ne 5, 3) := by decide +kernel
theorem dX7_standing_14 : decode cX7_standing 14 = .ok (.iconst (-1), 1) := by decide +kernel
theorem dX7_standing_15 : decode cX7_standing 15 = .ok (.ireturn, 1) := by decide +kernel
theorem dX7_standing_16 : decode cX7_standing 16 = .ok (.aload_n 0, 1) := by decide +kernel
theorem dX7_standing_17 : decode cX7_standing 17 = .ok (.getfield 69, 3) := by decide +kernel
theorem dX7_standing_20 : decode cX7_standing 20 = .ok (.invokevirtual 223, 3) := by decide +kernel
theorem dX7_standing_23 : decode cX7_standing 23 = .ok (.iload_n 2, 1) := by decide +kernel
theorem dX7_standing_24 : decode cX7_standing 24 = .ok (.tableswitch 71 0 2 #[28, 45, 62], 28) := by decide +kernel
theorem dX7_standing_52 : decode cX7_standing 52 = .ok (.aload_n 0, 1) := by decide +kernel
theorem dX7_standing_53 : decode cX7_standing 53 = .ok (.getfield 69, 3) := by decide +kernel
theorem dX7_standing_56 : decode cX7_standing 56 = .ok (.iload_n 3, 1) := by decide +kernel
theorem dX7_standing_57 : decode cX7_standing 57 = .ok (.invokevirtual 232, 3) := by decide +kernel
theorem dX7_standing_60 : decode cX7_standing 60 = .ok (.ifCond .eq 7, 3) := by decide +kernel
theorem dX7_standing_63 : decode cX7_standing 63 = .ok (.iconst 1, 1) := by decide +kernel
theorem dX7_standing_64 : decode cX7_standing 64 = .ok (.goto 4, 3) := by decide +kernel
theorem dX7_standing_67 : decode cX7_standing 67 = .ok (.iconst 0, 1) := by decide +kernel
theorem dX7_standing_68 : decode cX7_standing 68 = .ok (.ireturn, 1) := by decide +kernel
theorem dX7_standing_69 : decode cX7_standing 69 = .ok (.aload_n 0, 1) := by decide +kernel
theorem dX7_standing_70 : decode cX7_standing 70 = .ok (.getfield 69, 3) := by decide +kernel
theorem dX7_standing_73 : decode cX7_standing 73 = .ok (.iload_n 3, 1) := by decide +kernel
theorem dX7_standing_74 : decode cX7_standing 74 = .ok (.invokevirtual 235, 3) := by decide +kernel
theorem dX7_standing_77 : decode cX7_standing 77 = .ok (.ifCond .eq 7, 3) := by decide +kernel
theorem dX7_standing_80 : decode cX7_standing 80 = .ok (.iconst 1, 1) := by decide +kernel
theorem dX7_standing_81 : decode cX7_standing 81 = .ok (.goto 4, 3) := by decide +kernel
theorem dX7_standing_84 : decode cX7_standing 84 = .ok (.iconst 0, 1) := by decide +kernel
theorem dX7_standing_85 : decode cX7_standing 85 = .ok (.ireturn, 1) := by decide +kernel
theorem dX7_standing_86 : decode cX7_standing 86 = .ok (.aload_n 0, 1) := by decide +kernel
theorem dX7_standing_87 : decode cX7_standing 87 = .ok (.getfield 69, 3) := by decide +kernel
theorem dX7_standing_90 : decode cX7_standing 90 = .ok (.iload_n 3, 1) := by decide +kernel
theorem dX7_standing_91 : decode cX7_standing 91 = .ok (.invokevirtual 238, 3) := by decide +kernel
theorem dX7_standing_94 : decode cX7_standing 94 = .ok (.ireturn, 1) := by decide +kernel
theorem dX7_standing_95 : decode cX7_standing 95 = .ok (.iconst (-1), 1) := by decide +kernel
theorem dX7_standing_96 : decode cX7_standing 96 = .ok (.ireturn, 1) := by decide +kernel
theorem dX7_takeTold_0 : decode cX7_takeTold 0 = .ok (.aload_n 0, 1) := by decide +kernel
theorem dX7_takeTold_1 : decode cX7_takeTold 1 = .ok (.getfield 37, 3) := by decide +kernel
theorem dX7_takeTold_4 : decode cX7_takeTold 4 = .ok (.invokevirtual 241, 3) := by decide +kernel
theorem dX7_takeTold_7 : decode cX7_takeTold 7 = .ok (.aload_n 0, 1) := by decide +kernel
theorem dX7_takeTold_8 : decode cX7_takeTold 8 = .ok (.getfield 44, 3) := by decide +kernel
theorem dX7_takeTold_11 : decode cX7_takeTold 11 = .ok (.invokevirtual 244, 3) := by decide +kernel
theorem dX7_takeTold_14 : decode cX7_takeTold 14 = .ok (.aload_n 0, 1) := by decide +kernel
theorem dX7_takeTold_15 : decode cX7_takeTold 15 = .ok (.getfield 53, 3) := by decide +kernel
theorem dX7_takeTold_18 : decode cX7_takeTold 18 = .ok (.invokevirtual 247, 3) := by decide +kernel
theorem dX7_takeTold_21 : decode cX7_takeTold 21 = .ok (.aload_n 0, 1) := by decide +kernel
theorem dX7_takeTold_22 : decode cX7_takeTold 22 = .ok (.getfield 69, 3) := by decide +kernel
theorem dX7_takeTold_25 : decode cX7_takeTold 25 = .ok (.invokevirtual 250, 3) := by decide +kernel
theorem dX7_takeTold_28 : decode cX7_takeTold 28 = .ok (.return_, 1) := by decide +kernel
theorem dX7_putBytes_0 : decode cX7_putBytes 0 = .ok (.bipush 24, 2) := by decide +kernel
theorem dX7_putBytes_2 : decode cX7_putBytes 2 = .ok (.istore_n 2, 1) := by decide +kernel
theorem dX7_putBytes_3 : decode cX7_putBytes 3 = .ok (.iload_n 2, 1) := by decide +kernel
theorem dX7_putBytes_4 : decode cX7_putBytes 4 = .ok (.ifCond .lt 45, 3) := by decide +kernel
theorem dX7_putBytes_7 : decode cX7_putBytes 7 = .ok (.aload_n 0, 1) := by decide +kernel
theorem dX7_putBytes_8 : decode cX7_putBytes 8 = .ok (.getfield 76, 3) := by decide +kernel
theorem dX7_putBytes_11 : decode cX7_putBytes 11 = .ok (.sipush 400, 3) := by decide +kernel
theorem dX7_putBytes_14 : decode cX7_putBytes 14 = .ok (.if_icmp .ge 35, 3) := by decide +kernel
theorem dX7_putBytes_17 : decode cX7_putBytes 17 = .ok (.aload_n 0, 1) := by decide +kernel
theorem dX7_putBytes_18 : decode cX7_putBytes 18 = .ok (.getfield 9, 3) := by decide +kernel
theorem dX7_putBytes_21 : decode cX7_putBytes 21 = .ok (.aload_n 0, 1) := by decide +kernel
theorem dX7_putBytes_22 : decode cX7_putBytes 22 = .ok (.getfield 76, 3) := by decide +kernel
theorem dX7_putBytes_25 : decode cX7_putBytes 25 = .ok (.iload_n 1, 1) := by decide +kernel
theorem dX7_putBytes_26 : decode cX7_putBytes 26 = .ok (.iload_n 2, 1) := by decide +kernel
theorem dX7_putBytes_27 : decode cX7_putBytes 27 = .ok (.iushr, 1) := by decide +kernel
theorem dX7_putBytes_28 : decode cX7_putBytes 28 = .ok (.sipush 255, 3) := by decide +kernel
theorem dX7_putBytes_31 : decode cX7_putBytes 31 = .ok (.iand, 1) := by decide +kernel
theorem dX7_putBytes_32 : decode cX7_putBytes 32 = .ok (.iastore, 1) := by decide +kernel
theorem dX7_putBytes_33 : decode cX7_putBytes 33 = .ok (.aload_n 0, 1) := by decide +kernel
theorem dX7_putBytes_34 : decode cX7_putBytes 34 = .ok (.dup, 1) := by decide +kernel
theorem dX7_putBytes_35 : decode cX7_putBytes 35 = .ok (.getfield 76, 3) := by decide +kernel
theorem dX7_putBytes_38 : decode cX7_putBytes 38 = .ok (.iconst 1, 1) := by decide +kernel
theorem dX7_putBytes_39 : decode cX7_putBytes 39 = .ok (.iadd, 1) := by decide +kernel
theorem dX7_putBytes_40 : decode cX7_putBytes 40 = .ok (.putfield 76, 3) := by decide +kernel
theorem dX7_putBytes_43 : decode cX7_putBytes 43 = .ok (.iinc 2 (-8), 3) := by decide +kernel
theorem dX7_putBytes_46 : decode cX7_putBytes 46 = .ok (.goto (-43), 3) := by decide +kernel
theorem dX7_putBytes_49 : decode cX7_putBytes 49 = .ok (.return_, 1) := by decide +kernel
theorem dX7_areVoters_0 : decode cX7_areVoters 0 = .ok (.iload_n 1, 1) := by decide +kernel
theorem dX7_areVoters_1 : decode cX7_areVoters 1 = .ok (.aload_n 0, 1) := by decide +kernel
theorem dX7_areVoters_2 : decode cX7_areVoters 2 = .ok (.getfield 16, 3) := by decide +kernel
theorem dX7_areVoters_5 : decode cX7_areVoters 5 = .ok (.getfield 119, 3) := by decide +kernel
theorem dX7_areVoters_8 : decode cX7_areVoters 8 = .ok (.invokestatic 176, 3) := by decide +kernel
theorem dX7_areVoters_11 : decode cX7_areVoters 11 = .ok (.ireturn, 1) := by decide +kernel
theorem dX7_isClause_0 : decode cX7_isClause 0 = .ok (.iload_n 0, 1) := by decide +kernel
theorem dX7_isClause_1 : decode cX7_isClause 1 = .ok (.ifCond .lt 13, 3) := by decide +kernel
theorem dX7_isClause_4 : decode cX7_isClause 4 = .ok (.iload_n 0, 1) := by decide +kernel
theorem dX7_isClause_5 : decode cX7_isClause 5 = .ok (.bipush 8, 2) := by decide +kernel
theorem dX7_isClause_7 : decode cX7_isClause 7 = .ok (.if_icmp .ge 7, 3) := by decide +kernel
theorem dX7_isClause_10 : decode cX7_isClause 10 = .ok (.iconst 1, 1) := by decide +kernel
theorem dX7_isClause_11 : decode cX7_isClause 11 = .ok (.goto 4, 3) := by decide +kernel
theorem dX7_isClause_14 : decode cX7_isClause 14 = .ok (.iconst 0, 1) := by decide +kernel
theorem dX7_isClause_15 : decode cX7_isClause 15 = .ok (.ireturn, 1) := by decide +kernel
theorem dX7_isForm_0 : decode cX7_isForm 0 = .ok (.iload_n 0, 1) := by decide +kernel
theorem dX7_isForm_1 : decode cX7_isForm 1 = .ok (.ifCond .lt 14, 3) := by decide +kernel
theorem dX7_isForm_4 : decode cX7_isForm 4 = .ok (.iload_n 0, 1) := by decide +kernel
theorem dX7_isForm_5 : decode cX7_isForm 5 = .ok (.sipush 256, 3) := by decide +kernel
theorem dX7_isForm_8 : decode cX7_isForm 8 = .ok (.if_icmp .ge 7, 3) := by decide +kernel
theorem dX7_isForm_11 : decode cX7_isForm 11 = .ok (.iconst 1, 1) := by decide +kernel
theorem dX7_isForm_12 : decode cX7_isForm 12 = .ok (.goto 4, 3) := by decide +kernel
theorem dX7_isForm_15 : decode cX7_isForm 15 = .ok (.iconst 0, 1) := by decide +kernel
theorem dX7_isForm_16 : decode cX7_isForm 16 = .ok (.ireturn, 1) := by decide +kernel
theorem dX7_isSubset_0 : decode cX7_isSubset 0 = .ok (.iload_n 0, 1) := by decide +kernel
theorem dX7_isSubset_1 : decode cX7_isSubset 1 = .ok (.ifCond .lt 14, 3) := by decide +kernel
theorem dX7_isSubset_4 : decode cX7_isSubset 4 = .ok (.iload_n 0, 1) := by decide +kernel
theorem dX7_isSubset_5 : decode cX7_isSubset 5 = .ok (.iconst 1, 1) := by decide +kernel
theorem dX7_isSubset_6 : decode cX7_isSubset 6 = .ok (.iload_n 1, 1) := by decide +kernel
theorem dX7_isSubset_7 : decode cX7_isSubset 7 = .ok (.ishl, 1) := by decide +kernel
theorem dX7_isSubset_8 : decode cX7_isSubset 8 = .ok (.if_icmp .ge 7, 3) := by decide +kernel
theorem dX7_isSubset_11 : decode cX7_isSubset 11 = .ok (.iconst 1, 1) := by decide +kernel
theorem dX7_isSubset_12 : decode cX7_isSubset 12 = .ok (.goto 4, 3) := by decide +kernel
theorem dX7_isSubset_15 : decode cX7_isSubset 15 = .ok (.iconst 0, 1) := by decide +kernel
theorem dX7_isSubset_16 : decode cX7_isSubset 16 = .ok (.ireturn, 1) := by decide +kernel
theorem dX7_isIn_0 : decode cX7_isIn 0 = .ok (.iload_n 1, 1) := by decide +kernel
theorem dX7_isIn_1 : decode cX7_isIn 1 = .ok (.iload_n 0, 1) := by decide +kernel
theorem dX7_isIn_2 : decode cX7_isIn 2 = .ok (.ishr, 1) := by decide +kernel
theorem dX7_isIn_3 : decode cX7_isIn 3 = .ok (.iconst 1, 1) := by decide +kernel
theorem dX7_isIn_4 : decode cX7_isIn 4 = .ok (.iand, 1) := by decide +kernel
theorem dX7_isIn_5 : decode cX7_isIn 5 = .ok (.iconst 1, 1) := by decide +kernel
theorem dX7_isIn_6 : decode cX7_isIn 6 = .ok (.if_icmp .ne 7, 3) := by decide +kernel
theorem dX7_isIn_9 : decode cX7_isIn 9 = .ok (.iconst 1, 1) := by decide +kernel
theorem dX7_isIn_10 : decode cX7_isIn 10 = .ok (.goto 4, 3) := by decide +kernel
theorem dX7_isIn_13 : decode cX7_isIn 13 = .ok (.iconst 0, 1) := by decide +kernel
theorem dX7_isIn_14 : decode cX7_isIn 14 = .ok (.ireturn, 1) := by decide +kernel
theorem dX3_init_0 : decode cX3_init 0 = .ok (.aload_n 0, 1) := by decide +kernel
theorem dX3_init_1 : decode cX3_init 1 = .ok (.invokespecial 3, 3) := by decide +kernel
theorem dX3_init_4 : decode cX3_init 4 = .ok (.aload_n 0, 1) := by decide +kernel
theorem dX3_init_5 : decode cX3_init 5 = .ok (.aload_n 1, 1) := by decide +kernel
theorem dX3_init_6 : decode cX3_init 6 = .ok (.putfield 9, 3) := by decide +kernel
theorem dX3_init_9 : decode cX3_init 9 = .ok (.aload_n 0, 1) := by decide +kernel
theorem dX3_init_10 : decode cX3_init 10 = .ok (.aload_n 2, 1) := by decide +kernel
theorem dX3_init_11 : decode cX3_init 11 = .ok (.putfield 15, 3) := by decide +kernel
theorem dX3_init_14 : decode cX3_init 14 = .ok (.return_, 1) := by decide +kernel
theorem dX3_readText_0 : decode cX3_readText 0 = .ok (.aload_n 0, 1) := by decide +kernel
theorem dX3_readText_1 : decode cX3_readText 1 = .ok (.iconst 0, 1) := by decide +kernel
theorem dX3_readText_2 : decode cX3_readText 2 = .ok (.iload_n 1, 1) := by decide +kernel
theorem dX3_readText_3 : decode cX3_readText 3 = .ok (.aload_n 0, 1) := by decide +kernel
theorem dX3_readText_4 : decode cX3_readText 4 = .ok (.getfield 9, 3) := by decide +kernel
theorem dX3_readText_7 : decode cX3_readText 7 = .ok (.arraylength, 1) := by decide +kernel
theorem dX3_readText_8 : decode cX3_readText 8 = .ok (.invokestatic 19, 3) := by decide +kernel
theorem dX3_readText_11 : decode cX3_readText 11 = .ok (.invokestatic 25, 3) := by decide +kernel
theorem dX3_readText_14 : decode cX3_readText 14 = .ok (.putfield 28, 3) := by decide +kernel
theorem dX3_readText_17 : decode cX3_readText 17 = .ok (.aload_n 0, 1) := by decide +kernel
theorem dX3_readText_18 : decode cX3_readText 18 = .ok (.getfield 15, 3) := by decide +kernel
theorem dX3_readText_21 : decode cX3_readText 21 = .ok (.invokevirtual 32, 3) := by decide +kernel
theorem dX3_readText_24 : decode cX3_readText 24 = .ok (.aload_n 0, 1) := by decide +kernel
theorem dX3_readText_25 : decode cX3_readText 25 = .ok (.iconst 0, 1) := by decide +kernel
theorem dX3_readText_26 : decode cX3_readText 26 = .ok (.putfield 37, 3) := by decide +kernel
theorem dX3_readText_29 : decode cX3_readText 29 = .ok (.aload_n 0, 1) := by decide +kernel
theorem dX3_readText_30 : decode cX3_readText 30 = .ok (.iconst 0, 1) := by decide +kernel
theorem dX3_readText_31 : decode cX3_readText 31 = .ok (.putfield 41, 3) := by decide +kernel
theorem dX3_readText_34 : decode cX3_readText 34 = .ok (.aload_n 0, 1) := by decide +kernel
theorem dX3_readText_35 : decode cX3_readText 35 = .ok (.iconst 0, 1) := by decide +kernel
theorem dX3_readText_36 : decode cX3_readText 36 = .ok (.putfield 44, 3) := by decide +kernel
theorem dX3_readText_39 : decode cX3_readText 39 = .ok (.aload_n 0, 1) := by decide +kernel
theorem dX3_readText_40 : decode cX3_readText 40 = .ok (.invokevirtual 47, 3) := by decide +kernel
theorem dX3_readText_43 : decode cX3_readText 43 = .ok (.iconst 0, 1) := by decide +kernel
theorem dX3_readText_44 : decode cX3_readText 44 = .ok (.istore_n 2, 1) := by decide +kernel
theorem dX3_readText_45 : decode cX3_readText 45 = .ok (.iload_n 2, 1) := by decide +kernel
theorem dX3_readText_46 : decode cX3_readText 46 = .ok (.aload_n 0, 1) := by decide +kernel
theorem dX3_readText_47 : decode cX3_readText 47 = .ok (.getfield 28, 3) := by decide +kernel
theorem dX3_readText_50 : decode cX3_readText 50 = .ok (.if_icmp .gt 27, 3) := by decide +kernel
theorem dX3_readText_53 : decode cX3_readText 53 = .ok (.aload_n 0, 1) := by decide +kernel
theorem dX3_readText_54 : decode cX3_readText 54 = .ok (.getfield 50, 3) := by decide +kernel
theorem dX3_readText_57 : decode cX3_readText 57 = .ok (.ifCond .ne 5, 3) := by decide +kernel
theorem dX3_readText_60 : decode cX3_readText 60 = .ok (.iload_n 2, 1) := by decide +kernel
theorem dX3_readText_61 : decode cX3_readText 61 = .ok (.ireturn, 1) := by decide +kernel
theorem dX3_readText_62 : decode cX3_readText 62 = .ok (.aload_n 0, 1) := by decide +kernel
theorem dX3_readText_63 : decode cX3_readText 63 = .ok (.invokevirtual 53, 3) := by decide +kernel
theorem dX3_readText_66 : decode cX3_readText 66 = .ok (.ifCond .ne 5, 3) := by decide +kernel
theorem dX3_readText_69 : decode cX3_readText 69 = .ok (.iconst (-1), 1) := by decide +kernel
theorem dX3_readText_70 : decode cX3_readText 70 = .ok (.ireturn, 1) := by decide +kernel
theorem dX3_readText_71 : decode cX3_readText 71 = .ok (.iinc 2 1, 3) := by decide +kernel
theorem dX3_readText_74 : decode cX3_readText 74 = .ok (.goto (-29), 3) := by decide +kernel
theorem dX3_readText_77 : decode cX3_readText 77 = .ok (.iconst (-1), 1) := by decide +kernel
theorem dX3_readText_78 : decode cX3_readText 78 = .ok (.ireturn, 1) := by decide +kernel
theorem dX3_statement_0 : decode cX3_statement 0 = .ok (.aload_n 0, 1) := by decide +kernel
theorem dX3_statement_1 : decode cX3_statement 1 = .ok (.ldc 57, 2) := by decide +kernel
theorem dX3_statement_3 : decode cX3_statement 3 = .ok (.invokevirtual 59, 3) := by decide +kernel
theorem dX3_statement_6 : decode cX3_statement 6 = .ok (.ifCond .eq 11, 3) := by decide +kernel
theorem dX3_statement_9 : decode cX3_statement 9 = .ok (.aload_n 0, 1) := by decide +kernel
theorem dX3_statement_10 : decode cX3_statement 10 = .ok (.invokevirtual 63, 3) := by decide +kernel
theorem dX3_statement_13 : decode cX3_statement 13 = .ok (.istore_n 1, 1) := by decide +kernel
theorem dX3_statement_14 : decode cX3_statement 14 = .ok (.goto 94, 3) := by decide +kernel
theorem dX3_statement_17 : decode cX3_statement 17 = .ok (.aload_n 0, 1) := by decide +kernel
theorem dX3_statement_18 : decode cX3_statement 18 = .ok (.ldc 65, 2) := by decide +kernel
theorem dX3_statement_20 : decode cX3_statement 20 = .ok (.invokevirtual 59, 3) := by decide +kernel
theorem dX3_statement_23 : decode cX3_statement 23 = .ok (.ifCond .eq 11, 3) := by decide +kernel
theorem dX3_statement_26 : decode cX3_statement 26 = .ok (.aload_n 0, 1) := by decide +kernel
theorem dX3_statement_27 : decode cX3_statement 27 = .ok (.invokevirtual 67, 3) := by decide +kernel
theorem dX3_statement_30 : decode cX3_statement 30 = .ok (.istore_n 1, 1) := by decide +kernel
theorem dX3_statement_31 : decode cX3_statement 31 = .ok (.goto 77, 3) := by decide +kernel
theorem dX3_statement_34 : decode cX3_statement 34 = .ok (.aload_n 0, 1) := by decide +kernel
theorem dX3_statement_35 : decode cX3_statement 35 = .ok (.ldc 70, 2) := by decide +kernel
theorem dX3_statement_37 : decode cX3_statement 37 = .ok (.invokevirtual 59, 3) := by decide +kernel
theorem dX3_statement_40 : decode cX3_statement 40 = .ok (.ifCond .eq 11, 3) := by decide +kernel
theorem dX3_statement_43 : decode cX3_statement 43 = .ok (.aload_n 0, 1) := by decide +kernel
theorem dX3_statement_44 : decode cX3_statement 44 = .ok (.invokevirtual 72, 3) := by decide +kernel
theorem dX3_statement_47 : decode cX3_statement 47 = .ok (.istore_n 1, 1) := by decide +kernel
theorem dX3_statement_48 : decode cX3_statement 48 = .ok (.goto 60, 3) := by decide +kernel
theorem dX3_statement_51 : decode cX3_statement 51 = .ok (.aload_n 0, 1) := by decide +kernel
theorem dX3_statement_52 : decode cX3_statement 52 = .ok (.ldc 75, 2) := by decide +kernel
theorem dX3_statement_54 : decode cX3_statement 54 = .ok (.invokevirtual 59, 3) := by decide +kernel
theorem dX3_statement_57 : decode cX3_statement 57 = .ok (.ifCond .eq 11, 3) := by decide +kernel
theorem dX3_statement_60 : decode cX3_statement 60 = .ok (.aload_n 0, 1) := by decide +kernel
theorem dX3_statement_61 : decode cX3_statement 61 = .ok (.invokevirtual 77, 3) := by decide +kernel
theorem dX3_statement_64 : decode cX3_statement 64 = .ok (.istore_n 1, 1) := by decide +kernel
theorem dX3_statement_65 : decode cX3_statement 65 = .ok (.goto 43, 3) := by decide +kernel
theorem dX3_statement_68 : decode cX3_statement 68 = .ok (.aload_n 0, 1) := by decide +kernel
theorem dX3_statement_69 : decode cX3_statement 69 = .ok (.ldc 79, 2) := by decide +kernel
theorem dX3_statement_71 : decode cX3_statement 71 = .ok (.invokevirtual 59, 3) := by decide +kernel
theorem dX3_statement_74 : decode cX3_statement 74 = .ok (.ifCond .eq 11, 3) := by decide +kernel
theorem dX3_statement_77 : decode cX3_statement 77 = .ok (.aload_n 0, 1) := by decide +kernel
theorem dX3_statement_78 : decode cX3_statement 78 = .ok (.invokevirtual 81, 3) := by decide +kernel
theorem dX3_statement_81 : decode cX3_statement 81 = .ok (.istore_n 1, 1) := by decide +kernel
theorem dX3_statement_82 : decode cX3_statement 82 = .ok (.goto 26, 3) := by decide +kernel
theorem dX3_statement_85 : decode cX3_statement 85 = .ok (.aload_n 0, 1) := by decide +kernel
theorem dX3_statement_86 : decode cX3_statement 86 = .ok (.ldc 83, 2) := by decide +kernel
theorem dX3_statement_88 : decode cX3_statement 88 = .ok (.invokevirtual 59, 3) := by decide +kernel
theorem dX3_statement_91 : decode cX3_statement 91 = .ok (.ifCond .eq 11, 3) := by decide +kernel
theorem dX3_statement_94 : decode cX3_statement 94 = .ok (.aload_n 0, 1) := by decide +kernel
theorem dX3_statement_95 : decode cX3_statement 95 = .ok (.invokevirtual 85, 3) := by decide +kernel
theorem dX3_statement_98 : decode cX3_statement 98 = .ok (.istore_n 1, 1) := by decide +kernel
theorem dX3_statement_99 : decode cX3_statement 99 = .ok (.goto 9, 3) := by decide +kernel
theorem dX3_statement_102 : decode cX3_statement 102 = .ok (.aload_n 0, 1) := by decide +kernel
theorem dX3_statement_103 : decode cX3_statement 103 = .ok (.iconst 1, 1) := by decide +kernel
theorem dX3_statement_104 : decode cX3_statement 104 = .ok (.invokevirtual 87, 3) := by decide +kernel
theorem dX3_statement_107 : decode cX3_statement 107 = .ok (.istore_n 1, 1) := by decide +kernel
theorem dX3_statement_108 : decode cX3_statement 108 = .ok (.iload_n 1, 1) := by decide +kernel
theorem dX3_statement_109 : decode cX3_statement 109 = .ok (.ifCond .eq 14, 3) := by decide +kernel
theorem dX3_statement_112 : decode cX3_statement 112 = .ok (.aload_n 0, 1) := by decide +kernel
theorem dX3_statement_113 : decode cX3_statement 113 = .ok (.invokevirtual 91, 3) := by decide +kernel
theorem dX3_statement_116 : decode cX3_statement 116 = .ok (.ifCond .eq 7, 3) := by decide +kernel
theorem dX3_statement_119 : decode cX3_statement 119 = .ok (.iconst 1, 1) := by decide +kernel
theorem dX3_statement_120 : decode cX3_statement 120 = .ok (.goto 4, 3) := by decide +kernel
theorem dX3_statement_123 : decode cX3_statement 123 = .ok (.iconst 0, 1) := by decide +kernel
theorem dX3_statement_124 : decode cX3_statement 124 = .ok (.ireturn, 1) := by decide +kernel
theorem dX3_semicolon_0 : decode cX3_semicolon 0 = .ok (.aload_n 0, 1) := by decide +kernel
theorem dX3_semicolon_1 : decode cX3_semicolon 1 = .ok (.bipush 59, 2) := by decide +kernel
theorem dX3_semicolon_3 : decode cX3_semicolon 3 = .ok (.invokevirtual 94, 3) := by decide +kernel
theorem dX3_semicolon_6 : decode cX3_semicolon 6 = .ok (.ifCond .ne 9, 3) := by decide +kernel
theorem dX3_semicolon_9 : decode cX3_semicolon 9 = .ok (.aload_n 0, 1) := by decide +kernel
theorem dX3_semicolon_10 : decode cX3_semicolon 10 = .ok (.iconst 1, 1) := by decide +kernel
theorem dX3_semicolon_11 : decode cX3_semicolon 11 = .ok (.invokevirtual 87, 3) := by decide +kernel
theorem dX3_semicolon_14 : decode cX3_semicolon 14 = .ok (.ireturn, 1) := by decide +kernel
theorem dX3_semicolon_15 : decode cX3_semicolon 15 = .ok (.aload_n 0, 1) := by decide +kernel
theorem dX3_semicolon_16 : decode cX3_semicolon 16 = .ok (.invokevirtual 47, 3) := by decide +kernel
theorem dX3_semicolon_19 : decode cX3_semicolon 19 = .ok (.iconst 1, 1) := by decide +kernel
theorem dX3_semicolon_20 : decode cX3_semicolon 20 = .ok (.ireturn, 1) := by decide +kernel
theorem dX3_bill_0 : decode cX3_bill 0 = .ok (.aload_n 0, 1) := by decide +kernel
theorem dX3_bill_1 : decode cX3_bill 1 = .ok (.getfield 37, 3) := by decide +kernel
theorem dX3_bill_4 : decode cX3_bill 4 = .ok (.ifCond .eq 9, 3) := by decide +kernel
theorem dX3_bill_7 : decode cX3_bill 7 = .ok (.aload_n 0, 1) := by decide +kernel
theorem dX3_bill_8 : decode cX3_bill 8 = .ok (.iconst 3, 1) := by decide +kernel
theorem dX3_bill_9 : decode cX3_bill 9 = .ok (.invokevirtual 87, 3) := by decide +kernel
theorem dX3_bill_12 : decode cX3_bill 12 = .ok (.ireturn, 1) := by decide +kernel
theorem dX3_bill_13 : decode cX3_bill 13 = .ok (.aload_n 0, 1) := by decide +kernel
theorem dX3_bill_14 : decode cX3_bill 14 = .ok (.invokevirtual 47, 3) := by decide +kernel
theorem dX3_bill_17 : decode cX3_bill 17 = .ok (.aload_n 0, 1) := by decide +kernel
theorem dX3_bill_18 : decode cX3_bill 18 = .ok (.iconst 1, 1) := by decide +kernel
theorem dX3_bill_19 : decode cX3_bill 19 = .ok (.invokevirtual 98, 3) := by decide +kernel
theorem dX3_bill_22 : decode cX3_bill 22 = .ok (.ifCond .ne 5, 3) := by decide +kernel
theorem dX3_bill_25 : decode cX3_bill 25 = .ok (.iconst 0, 1) := by decide +kernel
theorem dX3_bill_26 : decode cX3_bill 26 = .ok (.ireturn, 1) := by decide +kernel
theorem dX3_bill_27 : decode cX3_bill 27 = .ok (.aload_n 0, 1) := by decide +kernel
theorem dX3_bill_28 : decode cX3_bill 28 = .ok (.iconst 1, 1) := by decide +kernel
theorem dX3_bill_29 : decode cX3_bill 29 = .ok (.putfield 37, 3) := by decide +kernel
theorem dX3_bill_32 : decode cX3_bill 32 = .ok (.aload_n 0, 1) := by decide +kernel
theorem dX3_bill_33 : decode cX3_bill 33 = .ok (.getfield 15, 3) := by decide +kernel
theorem dX3_bill_36 : decode cX3_bill 36 = .ok (.aload_n 0, 1) := by decide +kernel
theorem dX3_bill_37 : decode cX3_bill 37 = .ok (.getfield 101, 3) := by decide +kernel
theorem dX3_bill_40 : decode cX3_bill 40 = .ok (.putfield 104, 3) := by decide +kernel
theorem dX3_bill_43 : decode cX3_bill 43 = .ok (.iconst 1, 1) := by decide +kernel
theorem dX3_bill_44 : decode cX3_bill 44 = .ok (.ireturn, 1) := by decide +kernel
theorem dX3_amendment_0 : decode cX3_amendment 0 = .ok (.aload_n 0, 1) := by decide +kernel
theorem dX3_amendment_1 : decode cX3_amendment 1 = .ok (.getfield 15, 3) := by decide +kernel
theorem dX3_amendment_4 : decode cX3_amendment 4 = .ok (.getfield 106, 3) := by decide +kernel
theorem dX3_amendment_7 : decode cX3_amendment 7 = .ok (.bipush 6, 2) := by decide +kernel
theorem dX3_amendment_9 : decode cX3_amendment 9 = .ok (.if_icmp .lt 9, 3) := by decide +kernel
theorem dX3_amendment_12 : decode cX3_amendment 12 = .ok (.aload_n 0, 1) := by decide +kernel
theorem dX3_amendment_13 : decode cX3_amendment 13 = .ok (.iconst 4, 1) := by decide +kernel
theorem dX3_amendment_14 : decode cX3_amendment 14 = .ok (.invokevirtual 87, 3) := by decide +kernel
theorem dX3_amendment_17 : decode cX3_amendment 17 = .ok (.ireturn, 1) := by decide +kernel
theorem dX3_amendment_18 : decode cX3_amendment 18 = .ok (.aload_n 0, 1) := by decide +kernel
theorem dX3_amendment_19 : decode cX3_amendment 19 = .ok (.invokevirtual 47, 3) := by decide +kernel
theorem dX3_amendment_22 : decode cX3_amendment 22 = .ok (.aload_n 0, 1) := by decide +kernel
theorem dX3_amendment_23 : decode cX3_amendment 23 = .ok (.invokevirtual 109, 3) := by decide +kernel
theorem dX3_amendment_26 : decode cX3_amendment 26 = .ok (.ifCond .ne 5, 3) := by decide +kernel
theorem dX3_amendment_29 : decode cX3_amendment 29 = .ok (.iconst 0, 1) := by decide +kernel
theorem dX3_amendment_30 : decode cX3_amendment 30 = .ok (.ireturn, 1) := by decide +kernel
theorem dX3_amendment_31 : decode cX3_amendment 31 = .ok (.aload_n 0, 1) := by decide +kernel
theorem dX3_amendment_32 : decode cX3_amendment 32 = .ok (.bipush 43, 2) := by decide +kernel
theorem dX3_amendment_34 : decode cX3_amendment 34 = .ok (.invokevirtual 94, 3) := by decide +kernel
theorem dX3_amendment_37 : decode cX3_amendment 37 = .ok (.ifCond .ne 18, 3) := by decide +kernel
theorem dX3_amendment_40 : decode cX3_amendment 40 = .ok (.aload_n 0, 1) := by decide +kernel
theorem dX3_amendment_41 : decode cX3_amendment 41 = .ok (.bipush 45, 2) := by decide +kernel
theorem dX3_amendment_43 : decode cX3_amendment 43 = .ok (.invokevirtual 94, 3) := by decide +kernel
theorem dX3_amendment_46 : decode cX3_amendment 46 = .ok (.ifCond .ne 9, 3) := by decide +kernel
theorem dX3_amendment_49 : decode cX3_amendment 49 = .ok (.aload_n 0, 1) := by decide +kernel
theorem dX3_amendment_50 : decode cX3_amendment 50 = .ok (.iconst 1, 1) := by decide +kernel
theorem dX3_amendment_51 : decode cX3_amendment 51 = .ok (.invokevirtual 87, 3) := by decide +kernel
theorem dX3_amendment_54 : decode cX3_amendment 54 = .ok (.ireturn, 1) := by decide +kernel
theorem dX3_amendment_55 : decode cX3_amendment 55 = .ok (.iconst 0, 1) := by decide +kernel
theorem dX3_amendment_56 : decode cX3_amendment 56 = .ok (.istore_n 1, 1) := by decide +kernel
theorem dX3_amendment_57 : decode cX3_amendment 57 = .ok (.aload_n 0, 1) := by decide +kernel
theorem dX3_amendment_58 : decode cX3_amendment 58 = .ok (.bipush 43, 2) := by decide +kernel
theorem dX3_amendment_60 : decode cX3_amendment 60 = .ok (.invokevirtual 94, 3) := by decide +kernel
theorem dX3_amendment_63 : decode cX3_amendment 63 = .ok (.ifCond .eq 22, 3) := by decide +kernel
theorem dX3_amendment_66 : decode cX3_amendment 66 = .ok (.aload_n 0, 1) := by decide +kernel
theorem dX3_amendment_67 : decode cX3_amendment 67 = .ok (.invokevirtual 47, 3) := by decide +kernel
theorem dX3_amendment_70 : decode cX3_amendment 70 = .ok (.aload_n 0, 1) := by decide +kernel
theorem dX3_amendment_71 : decode cX3_amendment 71 = .ok (.iconst 1, 1) := by decide +kernel
theorem dX3_amendment_72 : decode cX3_amendment 72 = .ok (.invokevirtual 98, 3) := by decide +kernel
theorem dX3_amendment_75 : decode cX3_amendment 75 = .ok (.ifCond .ne 5, 3) := by decide +kernel
theorem dX3_amendment_78 : decode cX3_amendment 78 = .ok (.iconst 0, 1) := by decide +kernel
theorem dX3_amendment_79 : decode cX3_amendment 79 = .ok (.ireturn, 1) := by decide +kernel
theorem dX3_amendment_80 : decode cX3_amendment 80 = .ok (.aload_n 0, 1) := by decide +kernel
theorem dX3_amendment_81 : decode cX3_amendment 81 = .ok (.getfield 101, 3) := by decide +kernel
theorem dX3_amendment_84 : decode cX3_amendment 84 = .ok (.istore_n 1, 1) := by decide +kernel
theorem dX3_amendment_85 : decode cX3_amendment 85 = .ok (.iconst 0, 1) := by decide +kernel
theorem dX3_amendment_86 : decode cX3_amendment 86 = .ok (.istore_n 2, 1) := by decide +kernel
theorem dX3_amendment_87 : decode cX3_amendment 87 = .ok (.aload_n 0, 1) := by decide +kernel
theorem dX3_amendment_88 : decode cX3_amendment 88 = .ok (.bipush 45, 2) := by decide +kernel
theorem dX3_amendment_90 : decode cX3_amendment 90 = .ok (.invokevirtual 94, 3) := by decide +kernel
theorem dX3_amendment_93 : decode cX3_amendment 93 = .ok (.ifCond .eq 22, 3) := by decide +kernel
theorem dX3_amendment_96 : decode cX3_amendment 96 = .ok (.aload_n 0, 1) := by decide +kernel
theorem dX3_amendment_97 : decode cX3_amendment 97 = .ok (.invokevirtual 47, 3) := by decide +kernel
theorem dX3_amendment_100 : decode cX3_amendment 100 = .ok (.aload_n 0, 1) := by decide +kernel
theorem dX3_amendment_101 : decode cX3_amendment 101 = .ok (.iconst 1, 1) := by decide +kernel
theorem dX3_amendment_102 : decode cX3_amendment 102 = .ok (.invokevirtual 98, 3) := by decide +kernel
theorem dX3_amendment_105 : decode cX3_amendment 105 = .ok (.ifCond .ne 5, 3) := by decide +kernel
theorem dX3_amendment_108 : decode cX3_amendment 108 = .ok (.iconst 0, 1) := by decide +kernel
theorem dX3_amendment_109 : decode cX3_amendment 109 = .ok (.ireturn, 1) := by decide +kernel
theorem dX3_amendment_110 : decode cX3_amendment 110 = .ok (.aload_n 0, 1) := by decide +kernel
theorem dX3_amendment_111 : decode cX3_amendment 111 = .ok (.getfield 101, 3) := by decide +kernel
theorem dX3_amendment_114 : decode cX3_amendment 114 = .ok (.istore_n 2, 1) := by decide +kernel
theorem dX3_amendment_115 : decode cX3_amendment 115 = .ok (.aload_n 0, 1) := by decide +kernel
theorem dX3_amendment_116 : decode cX3_amendment 116 = .ok (.getfield 15, 3) := by decide +kernel
theorem dX3_amendment_119 : decode cX3_amendment 119 = .ok (.aload_n 0, 1) := by decide +kernel
theorem dX3_amendment_120 : decode cX3_amendment 120 = .ok (.getfield 112, 3) := by decide +kernel
theorem dX3_amendment_123 : decode cX3_amendment 123 = .ok (.aload_n 0, 1) := by decide +kernel
theorem dX3_amendment_124 : decode cX3_amendment 124 = .ok (.getfield 115, 3) := by decide +kernel
theorem dX3_amendment_127 : decode cX3_amendment 127 = .ok (.iload_n 1, 1) := by decide +kernel
theorem dX3_amendment_128 : decode cX3_amendment 128 = .ok (.iload_n 2, 1) := by decide +kernel
theorem dX3_amendment_129 : decode cX3_amendment 129 = .ok (.invokevirtual 118, 3) := by decide +kernel
theorem dX3_amendment_132 : decode cX3_amendment 132 = .ok (.iconst 1, 1) := by decide +kernel
theorem dX3_amendment_133 : decode cX3_amendment 133 = .ok (.ireturn, 1) := by decide +kernel
theorem dX3_target_0 : decode cX3_target 0 = .ok (.aload_n 0, 1) := by decide +kernel
theorem dX3_target_1 : decode cX3_target 1 = .ok (.ldc 57, 2) := by decide +kernel
theorem dX3_target_3 : decode cX3_target 3 = .ok (.invokevirtual 59, 3) := by decide +kernel
theorem dX3_target_6 : decode cX3_target 6 = .ok (.ifCond .eq 16, 3) := by decide +kernel
theorem dX3_target_9 : decode cX3_target 9 = .ok (.aload_n 0, 1) := by decide +kernel
theorem dX3_target_10 : decode cX3_target 10 = .ok (.iconst 0, 1) := by decide +kernel
theorem dX3_target_11 : decode cX3_target 11 = .ok (.putfield 112, 3) := by decide +kernel
theorem dX3_target_14 : decode cX3_target 14 = .ok (.aload_n 0, 1) := by decide +kernel
theorem dX3_target_15 : decode cX3_target 15 = .ok (.iconst (-1), 1) := by decide +kernel
theorem dX3_target_16 : decode cX3_target 16 = .ok (.putfield 115, 3) := by decide +kernel
theorem dX3_target_19 : decode cX3_target 19 = .ok (.goto 95, 3) := by decide +kernel
theorem dX3_target_22 : decode cX3_target 22 = .ok (.aload_n 0, 1) := by decide +kernel
theorem dX3_target_23 : decode cX3_target 23 = .ok (.ldc 70, 2) := by decide +kernel
theorem dX3_target_25 : decode cX3_target 25 = .ok (.invokevirtual 59, 3) := by decide +kernel
theorem dX3_target_28 : decode cX3_target 28 = .ok (.ifCond .eq 39, 3) := by decide +kernel
theorem dX3_target_31 : decode cX3_target 31 = .ok (.aload_n 0, 1) := by decide +kernel
theorem dX3_target_32 : decode cX3_target 32 = .ok (.getfield 15, 3) := by decide +kernel
theorem dX3_target_35 : decode cX3_target 35 = .ok (.getfield 122, 3) := by decide +kernel
theorem dX3_target_38 : decode cX3_target 38 = .ok (.iconst (-1), 1) := by decide +kernel
theorem dX3_target_39 : decode cX3_target 39 = .ok (.if_icmp .ne 9, 3) := by decide +kernel
theorem dX3_target_42 : decode cX3_target 42 = .ok (.aload_n 0, 1) := by decide +kernel
theorem dX3_target_43 : decode cX3_target 43 = .ok (.iconst 3, 1) := by decide +kernel
theorem dX3_target_44 : decode cX3_target 44 = .ok (.invokevirtual 87, 3) := by decide +kernel
theorem dX3_target_47 : decode cX3_target 47 = .ok (.ireturn, 1) := by decide +kernel
theorem dX3_target_48 : decode cX3_target 48 = .ok (.aload_n 0, 1) := by decide +kernel
theorem dX3_target_49 : decode cX3_target 49 = .ok (.iconst 2, 1) := by decide +kernel
theorem dX3_target_50 : decode cX3_target 50 = .ok (.putfield 112, 3) := by decide +kernel
theorem dX3_target_53 : decode cX3_target 53 = .ok (.aload_n 0, 1) := by decide +kernel
theorem dX3_target_54 : decode cX3_target 54 = .ok (.aload_n 0, 1) := by decide +kernel
theorem dX3_target_55 : decode cX3_target 55 = .ok (.getfield 15, 3) := by decide +kernel
theorem dX3_target_58 : decode cX3_target 58 = .ok (.getfield 122, 3) := by decide +kernel
theorem dX3_target_61 : decode cX3_target 61 = .ok (.putfield 115, 3) := by decide +kernel
theorem dX3_target_64 : decode cX3_target 64 = .ok (.goto 50, 3) := by decide +kernel
theorem dX3_target_67 : decode cX3_target 67 = .ok (.aload_n 0, 1) := by decide +kernel
theorem dX3_target_68 : decode cX3_target 68 = .ok (.getfield 50, 3) := by decide +kernel
theorem dX3_target_71 : decode cX3_target 71 = .ok (.iconst 2, 1) := by decide +kernel
theorem dX3_target_72 : decode cX3_target 72 = .ok (.if_icmp .ne 36, 3) := by decide +kernel
theorem dX3_target_75 : decode cX3_target 75 = .ok (.aload_n 0, 1) := by decide +kernel
theorem dX3_target_76 : decode cX3_target 76 = .ok (.aload_n 0, 1) := by decide +kernel
theorem dX3_target_77 : decode cX3_target 77 = .ok (.getfield 124, 3) := by decide +kernel
theorem dX3_target_80 : decode cX3_target 80 = .ok (.invokevirtual 127, 3) := by decide +kernel
theorem dX3_target_83 : decode cX3_target 83 = .ok (.ifCond .ne 9, 3) := by decide +kernel
theorem dX3_target_86 : decode cX3_target 86 = .ok (.aload_n 0, 1) := by decide +kernel
theorem dX3_target_87 : decode cX3_target 87 = .ok (.iconst 2, 1) := by decide +kernel
theorem dX3_target_88 : decode cX3_target 88 = .ok (.invokevirtual 87, 3) := by decide +kernel
theorem dX3_target_91 : decode cX3_target 91 = .ok (.ireturn, 1) := by decide +kernel
theorem dX3_target_92 : decode cX3_target 92 = .ok (.aload_n 0, 1) := by decide +kernel
theorem dX3_target_93 : decode cX3_target 93 = .ok (.iconst 3, 1) := by decide +kernel
theorem dX3_target_94 : decode cX3_target 94 = .ok (.putfield 112, 3) := by decide +kernel
theorem dX3_target_97 : decode cX3_target 97 = .ok (.aload_n 0, 1) := by decide +kernel
theorem dX3_target_98 : decode cX3_target 98 = .ok (.aload_n 0, 1) := by decide +kernel
theorem dX3_target_99 : decode cX3_target 99 = .ok (.getfield 124, 3) := by decide +kernel
theorem dX3_target_102 : decode cX3_target 102 = .ok (.putfield 115, 3) := by decide +kernel
theorem dX3_target_105 : decode cX3_target 105 = .ok (.goto 9, 3) := by decide +kernel
theorem dX3_target_108 : decode cX3_target 108 = .ok (.aload_n 0, 1) := by decide +kernel
theorem dX3_target_109 : decode cX3_target 109 = .ok (.iconst 1, 1) := by decide +kernel
theorem dX3_target_110 : decode cX3_target 110 = .ok (.invokevirtual 87, 3) := by decide +kernel
theorem dX3_target_113 : decode cX3_target 113 = .ok (.ireturn, 1) := by decide +kernel
theorem dX3_target_114 : decode cX3_target 114 = .ok (.aload_n 0, 1) := by decide +kernel
theorem dX3_target_115 : decode cX3_target 115 = .ok (.invokevirtual 47, 3) := by decide +kernel
theorem dX3_target_118 : decode cX3_target 118 = .ok (.iconst 1, 1) := by decide +kernel
theorem dX3_target_119 : decode cX3_target 119 = .ok (.ireturn, 1) := by decide +kernel
theorem dX3_canBeAmended_0 : decode cX3_canBeAmended 0 = .ok (.aload_n 0, 1) := by decide +kernel
theorem dX3_canBeAmended_1 : decode cX3_canBeAmended 1 = .ok (.getfield 15, 3) := by decide +kernel
theorem dX3_canBeAmended_4 : decode cX3_canBeAmended 4 = .ok (.iload_n 1, 1) := by decide +kernel
theorem dX3_canBeAmended_5 : decode cX3_canBeAmended 5 = .ok (.invokevirtual 130, 3) := by decide +kernel
theorem dX3_canBeAmended_8 : decode cX3_canBeAmended 8 = .ok (.ifCond .eq 32, 3) := by decide +kernel
theorem dX3_canBeAmended_11 : decode cX3_canBeAmended 11 = .ok (.aload_n 0, 1) := by decide +kernel
theorem dX3_canBeAmended_12 : decode cX3_canBeAmended 12 = .ok (.getfield 15, 3) := by decide +kernel
theorem dX3_canBeAmended_15 : decode cX3_canBeAmended 15 = .ok (.getfield 133, 3) := by decide +kernel
theorem dX3_canBeAmended_18 : decode cX3_canBeAmended 18 = .ok (.iload_n 1, 1) := by decide +kernel
theorem dX3_canBeAmended_19 : decode cX3_canBeAmended 19 = .ok (.iaload, 1) := by decide +kernel
theorem dX3_canBeAmended_20 : decode cX3_canBeAmended 20 = .ok (.ifCond .eq 16, 3) := by decide +kernel
theorem dX3_canBeAmended_23 : decode cX3_canBeAmended 23 = .ok (.aload_n 0, 1) := by decide +kernel
theorem dX3_canBeAmended_24 : decode cX3_canBeAmended 24 = .ok (.getfield 15, 3) := by decide +kernel
theorem dX3_canBeAmended_27 : decode cX3_canBeAmended 27 = .ok (.getfield 133, 3) := by decide +kernel
theorem dX3_canBeAmended_30 : decode cX3_canBeAmended 30 = .ok (.iload_n 1, 1) := by decide +kernel
theorem dX3_canBeAmended_31 : decode cX3_canBeAmended 31 = .ok (.iaload, 1) := by decide +kernel
theorem dX3_canBeAmended_32 : decode cX3_canBeAmended 32 = .ok (.iconst 2, 1) := by decide +kernel
theorem dX3_canBeAmended_33 : decode cX3_canBeAmended 33 = .ok (.if_icmp .ne 7, 3) := by decide +kernel
theorem dX3_canBeAmended_36 : decode cX3_canBeAmended 36 = .ok (.iconst 1, 1) := by decide +kernel
theorem dX3_canBeAmended_37 : decode cX3_canBeAmended 37 = .ok (.goto 4, 3) := by decide +kernel
theorem dX3_canBeAmended_40 : decode cX3_canBeAmended 40 = .ok (.iconst 0, 1) := by decide +kernel
theorem dX3_canBeAmended_41 : decode cX3_canBeAmended 41 = .ok (.ireturn, 1) := by decide +kernel
theorem dX3_substitute_0 : decode cX3_substitute 0 = .ok (.aload_n 0, 1) := by decide +kernel
theorem dX3_substitute_1 : decode cX3_substitute 1 = .ok (.getfield 15, 3) := by decide +kernel
theorem dX3_substitute_4 : decode cX3_substitute 4 = .ok (.getfield 122, 3) := by decide +kernel
theorem dX3_substitute_7 : decode cX3_substitute 7 = .ok (.iconst (-1), 1) := by decide +kernel
theorem dX3_substitute_8 : decode cX3_substitute 8 = .ok (.if_icmp .eq 9, 3) := by decide +kernel
theorem dX3_substitute_11 : decode cX3_substitute 11 = .ok (.aload_n 0, 1) := by decide +kernel
theorem dX3_substitute_12 : decode cX3_substitute 12 = .ok (.iconst 3, 1) := by decide +kernel
theorem dX3_substitute_13 : decode cX3_substitute 13 = .ok (.invokevirtual 87, 3) := by decide +kernel
theorem dX3_substitute_16 : decode cX3_substitute 16 = .ok (.ireturn, 1) := by decide +kernel
theorem dX3_substitute_17 : decode cX3_substitute 17 = .ok (.aload_n 0, 1) := by decide +kernel
theorem dX3_substitute_18 : decode cX3_substitute 18 = .ok (.getfield 15, 3) := by decide +kernel
theorem dX3_substitute_21 : decode cX3_substitute 21 = .ok (.getfield 106, 3) := by decide +kernel
theorem dX3_substitute_24 : decode cX3_substitute 24 = .ok (.bipush 6, 2) := by decide +kernel
theorem dX3_substitute_26 : decode cX3_substitute 26 = .ok (.if_icmp .lt 9, 3) := by decide +kernel
theorem dX3_substitute_29 : decode cX3_substitute 29 = .ok (.aload_n 0, 1) := by decide +kernel
theorem dX3_substitute_30 : decode cX3_substitute 30 = .ok (.iconst 4, 1) := by decide +kernel
theorem dX3_substitute_31 : decode cX3_substitute 31 = .ok (.invokevirtual 87, 3) := by decide +kernel
theorem dX3_substitute_34 : decode cX3_substitute 34 = .ok (.ireturn, 1) := by decide +kernel
theorem dX3_substitute_35 : decode cX3_substitute 35 = .ok (.aload_n 0, 1) := by decide +kernel
theorem dX3_substitute_36 : decode cX3_substitute 36 = .ok (.invokevirtual 47, 3) := by decide +kernel
theorem dX3_substitute_39 : decode cX3_substitute 39 = .ok (.aload_n 0, 1) := by decide +kernel
theorem dX3_substitute_40 : decode cX3_substitute 40 = .ok (.iconst 1, 1) := by decide +kernel
theorem dX3_substitute_41 : decode cX3_substitute 41 = .ok (.invokevirtual 98, 3) := by decide +kernel
theorem dX3_substitute_44 : decode cX3_substitute 44 = .ok (.ifCond .ne 5, 3) := by decide +kernel
theorem dX3_substitute_47 : decode cX3_substitute 47 = .ok (.iconst 0, 1) := by decide +kernel
theorem dX3_substitute_48 : decode cX3_substitute 48 = .ok (.ireturn, 1) := by decide +kernel
theorem dX3_substitute_49 : decode cX3_substitute 49 = .ok (.aload_n 0, 1) := by decide +kernel
theorem dX3_substitute_50 : decode cX3_substitute 50 = .ok (.getfield 15, 3) := by decide +kernel
theorem dX3_substitute_53 : decode cX3_substitute 53 = .ok (.aload_n 0, 1) := by decide +kernel
theorem dX3_substitute_54 : decode cX3_substitute 54 = .ok (.getfield 15, 3) := by decide +kernel
theorem dX3_substitute_57 : decode cX3_substitute 57 = .ok (.getfield 106, 3) := by decide +kernel
theorem dX3_substitute_60 : decode cX3_substitute 60 = .ok (.putfield 122, 3) := by decide +kernel
theorem dX3_substitute_63 : decode cX3_substitute 63 = .ok (.aload_n 0, 1) := by decide +kernel
theorem dX3_substitute_64 : decode cX3_substitute 64 = .ok (.getfield 15, 3) := by decide +kernel
theorem dX3_substitute_67 : decode cX3_substitute 67 = .ok (.iconst 1, 1) := by decide +kernel
theorem dX3_substitute_68 : decode cX3_substitute 68 = .ok (.iconst (-1), 1) := by decide +kernel
theorem dX3_substitute_69 : decode cX3_substitute 69 = .ok (.aload_n 0, 1) := by decide +kernel
theorem dX3_substitute_70 : decode cX3_substitute 70 = .ok (.getfield 101, 3) := by decide +kernel
theorem dX3_substitute_73 : decode cX3_substitute 73 = .ok (.iconst 0, 1) := by decide +kernel
theorem dX3_substitute_74 : decode cX3_substitute 74 = .ok (.invokevirtual 118, 3) := by decide +kernel
theorem dX3_substitute_77 : decode cX3_substitute 77 = .ok (.iconst 1, 1) := by decide +kernel
theorem dX3_substitute_78 : decode cX3_substitute 78 = .ok (.ireturn, 1) := by decide +kernel
theorem dX3_voter_0 : decode cX3_voter 0 = .ok (.aload_n 0, 1) := by decide +kernel
theorem dX3_voter_1 : decode cX3_voter 1 = .ok (.getfield 15, 3) := by decide +kernel
theorem dX3_voter_4 : decode cX3_voter 4 = .ok (.getfield 136, 3) := by decide +kernel
theorem dX3_voter_7 : decode cX3_voter 7 = .ok (.bipush 9, 2) := by decide +kernel
theorem dX3_voter_9 : decode cX3_voter 9 = .ok (.if_icmp .lt 9, 3) := by decide +kernel
theorem dX3_voter_12 : decode cX3_voter 12 = .ok (.aload_n 0, 1) := by decide +kernel
theorem dX3_voter_13 : decode cX3_voter 13 = .ok (.iconst 4, 1) := by decide +kernel
theorem dX3_voter_14 : decode cX3_voter 14 = .ok (.invokevirtual 87, 3) := by decide +kernel
theorem dX3_voter_17 : decode cX3_voter 17 = .ok (.ireturn, 1) := by decide +kernel
theorem dX3_voter_18 : decode cX3_voter 18 = .ok (.aload_n 0, 1) := by decide +kernel
theorem dX3_voter_19 : decode cX3_voter 19 = .ok (.invokevirtual 47, 3) := by decide +kernel
theorem dX3_voter_22 : decode cX3_voter 22 = .ok (.aload_n 0, 1) := by decide +kernel
theorem dX3_voter_23 : decode cX3_voter 23 = .ok (.getfield 15, 3) := by decide +kernel
theorem dX3_voter_26 : decode cX3_voter 26 = .ok (.getfield 136, 3) := by decide +kernel
theorem dX3_voter_29 : decode cX3_voter 29 = .ok (.bipush 8, 2) := by decide +kernel
theorem dX3_voter_31 : decode cX3_voter 31 = .ok (.imul, 1) := by decide +kernel
theorem dX3_voter_32 : decode cX3_voter 32 = .ok (.istore_n 1, 1) := by decide +kernel
theorem dX3_voter_33 : decode cX3_voter 33 = .ok (.iconst 0, 1) := by decide +kernel
theorem dX3_voter_34 : decode cX3_voter 34 = .ok (.istore_n 2, 1) := by decide +kernel
theorem dX3_voter_35 : decode cX3_voter 35 = .ok (.iconst 0, 1) := by decide +kernel
theorem dX3_voter_36 : decode cX3_voter 36 = .ok (.istore_n 3, 1) := by decide +kernel
theorem dX3_voter_37 : decode cX3_voter 37 = .ok (.iload_n 3, 1) := by decide +kernel
theorem dX3_voter_38 : decode cX3_voter 38 = .ok (.bipush 8, 2) := by decide +kernel
theorem dX3_voter_40 : decode cX3_voter 40 = .ok (.if_icmp .gt 109, 3) := by decide +kernel
theorem dX3_voter_43 : decode cX3_voter 43 = .ok (.aload_n 0, 1) := by decide +kernel
theorem dX3_voter_44 : decode cX3_voter 44 = .ok (.getfield 50, 3) := by decide +kernel
theorem dX3_voter_47 : decode cX3_voter 47 = .ok (.iconst 1, 1) := by decide +kernel
theorem dX3_voter_48 : decode cX3_voter 48 = .ok (.if_icmp .ne 101, 3) := by decide +kernel
theorem dX3_voter_51 : decode cX3_voter 51 = .ok (.aload_n 0, 1) := by decide +kernel
theorem dX3_voter_52 : decode cX3_voter 52 = .ok (.getfield 9, 3) := by decide +kernel
theorem dX3_voter_55 : decode cX3_voter 55 = .ok (.aload_n 0, 1) := by decide +kernel
theorem dX3_voter_56 : decode cX3_voter 56 = .ok (.getfield 139, 3) := by decide +kernel
theorem dX3_voter_59 : decode cX3_voter 59 = .ok (.iaload, 1) := by decide +kernel
theorem dX3_voter_60 : decode cX3_voter 60 = .ok (.bipush 97, 2) := by decide +kernel
theorem dX3_voter_62 : decode cX3_voter 62 = .ok (.isub, 1) := by decide +kernel
theorem dX3_voter_63 : decode cX3_voter 63 = .ok (.istore 4, 2) := by decide +kernel
theorem dX3_voter_65 : decode cX3_voter 65 = .ok (.aload_n 0, 1) := by decide +kernel
theorem dX3_voter_66 : decode cX3_voter 66 = .ok (.getfield 44, 3) := by decide +kernel
theorem dX3_voter_69 : decode cX3_voter 69 = .ok (.aload_n 0, 1) := by decide +kernel
theorem dX3_voter_70 : decode cX3_voter 70 = .ok (.getfield 139, 3) := by decide +kernel
theorem dX3_voter_73 : decode cX3_voter 73 = .ok (.isub, 1) := by decide +kernel
theorem dX3_voter_74 : decode cX3_voter 74 = .ok (.iconst 1, 1) := by decide +kernel
theorem dX3_voter_75 : decode cX3_voter 75 = .ok (.if_icmp .ne 11, 3) := by decide +kernel
theorem dX3_voter_78 : decode cX3_voter 78 = .ok (.iload 4, 2) := by decide +kernel
theorem dX3_voter_80 : decode cX3_voter 80 = .ok (.invokestatic 142, 3) := by decide +kernel
theorem dX3_voter_83 : decode cX3_voter 83 = .ok (.ifCond .ne 9, 3) := by decide +kernel
theorem dX3_voter_86 : decode cX3_voter 86 = .ok (.aload_n 0, 1) := by decide +kernel
theorem dX3_voter_87 : decode cX3_voter 87 = .ok (.iconst 1, 1) := by decide +kernel
theorem dX3_voter_88 : decode cX3_voter 88 = .ok (.invokevirtual 87, 3) := by decide +kernel
theorem dX3_voter_91 : decode cX3_voter 91 = .ok (.ireturn, 1) := by decide +kernel
theorem dX3_voter_92 : decode cX3_voter 92 = .ok (.iload 4, 2) := by decide +kernel
end
section
theorem dX3_voter_94 : decode cX3_voter 94 = .ok (.iload_n 2, 1) := by decide +kernel
theorem dX3_voter_95 : decode cX3_voter 95 = .ok (.invokestatic 145, 3) := by decide +kernel
theorem dX3_voter_98 : decode cX3_voter 98 = .ok (.ifCond .eq 9, 3) := by decide +kernel
theorem dX3_voter_101 : decode cX3_voter 101 = .ok (.aload_n 0, 1) := by decide +kernel
theorem dX3_voter_102 : decode cX3_voter 102 = .ok (.iconst 3, 1) := by decide +kernel
theorem dX3_voter_103 : decode cX3_voter 103 = .ok (.invokevirtual 87, 3) := by decide +kernel
theorem dX3_voter_106 : decode cX3_voter 106 = .ok (.ireturn, 1) := by decide +kernel
theorem dX3_voter_107 : decode cX3_voter 107 = .ok (.iload_n 2, 1) := by decide +kernel
theorem dX3_voter_108 : decode cX3_voter 108 = .ok (.iconst 1, 1) := by decide +kernel
theorem dX3_voter_109 : decode cX3_voter 109 = .ok (.iload 4, 2) := by decide +kernel
theorem dX3_voter_111 : decode cX3_voter 111 = .ok (.ishl, 1) := by decide +kernel
theorem dX3_voter_112 : decode cX3_voter 112 = .ok (.ior, 1) := by decide +kernel
theorem dX3_voter_113 : decode cX3_voter 113 = .ok (.istore_n 2, 1) := by decide +kernel
theorem dX3_voter_114 : decode cX3_voter 114 = .ok (.aload_n 0, 1) := by decide +kernel
theorem dX3_voter_115 : decode cX3_voter 115 = .ok (.invokevirtual 47, 3) := by decide +kernel
theorem dX3_voter_118 : decode cX3_voter 118 = .ok (.aload_n 0, 1) := by decide +kernel
theorem dX3_voter_119 : decode cX3_voter 119 = .ok (.invokevirtual 149, 3) := by decide +kernel
theorem dX3_voter_122 : decode cX3_voter 122 = .ok (.ifCond .ne 5, 3) := by decide +kernel
theorem dX3_voter_125 : decode cX3_voter 125 = .ok (.iconst 0, 1) := by decide +kernel
theorem dX3_voter_126 : decode cX3_voter 126 = .ok (.ireturn, 1) := by decide +kernel
theorem dX3_voter_127 : decode cX3_voter 127 = .ok (.aload_n 0, 1) := by decide +kernel
theorem dX3_voter_128 : decode cX3_voter 128 = .ok (.getfield 15, 3) := by decide +kernel
theorem dX3_voter_131 : decode cX3_voter 131 = .ok (.getfield 152, 3) := by decide +kernel
theorem dX3_voter_134 : decode cX3_voter 134 = .ok (.iload_n 1, 1) := by decide +kernel
theorem dX3_voter_135 : decode cX3_voter 135 = .ok (.iload 4, 2) := by decide +kernel
theorem dX3_voter_137 : decode cX3_voter 137 = .ok (.iadd, 1) := by decide +kernel
theorem dX3_voter_138 : decode cX3_voter 138 = .ok (.aload_n 0, 1) := by decide +kernel
theorem dX3_voter_139 : decode cX3_voter 139 = .ok (.getfield 155, 3) := by decide +kernel
theorem dX3_voter_142 : decode cX3_voter 142 = .ok (.iastore, 1) := by decide +kernel
theorem dX3_voter_143 : decode cX3_voter 143 = .ok (.iinc 3 1, 3) := by decide +kernel
theorem dX3_voter_146 : decode cX3_voter 146 = .ok (.goto (-109), 3) := by decide +kernel
theorem dX3_voter_149 : decode cX3_voter 149 = .ok (.aload_n 0, 1) := by decide +kernel
theorem dX3_voter_150 : decode cX3_voter 150 = .ok (.getfield 15, 3) := by decide +kernel
theorem dX3_voter_153 : decode cX3_voter 153 = .ok (.dup, 1) := by decide +kernel
theorem dX3_voter_154 : decode cX3_voter 154 = .ok (.getfield 136, 3) := by decide +kernel
theorem dX3_voter_157 : decode cX3_voter 157 = .ok (.iconst 1, 1) := by decide +kernel
theorem dX3_voter_158 : decode cX3_voter 158 = .ok (.iadd, 1) := by decide +kernel
theorem dX3_voter_159 : decode cX3_voter 159 = .ok (.putfield 136, 3) := by decide +kernel
theorem dX3_voter_162 : decode cX3_voter 162 = .ok (.iconst 1, 1) := by decide +kernel
theorem dX3_voter_163 : decode cX3_voter 163 = .ok (.ireturn, 1) := by decide +kernel
theorem dX3_joint_0 : decode cX3_joint 0 = .ok (.aload_n 0, 1) := by decide +kernel
theorem dX3_joint_1 : decode cX3_joint 1 = .ok (.getfield 15, 3) := by decide +kernel
theorem dX3_joint_4 : decode cX3_joint 4 = .ok (.getfield 158, 3) := by decide +kernel
theorem dX3_joint_7 : decode cX3_joint 7 = .ok (.bipush 6, 2) := by decide +kernel
theorem dX3_joint_9 : decode cX3_joint 9 = .ok (.if_icmp .lt 9, 3) := by decide +kernel
theorem dX3_joint_12 : decode cX3_joint 12 = .ok (.aload_n 0, 1) := by decide +kernel
theorem dX3_joint_13 : decode cX3_joint 13 = .ok (.iconst 4, 1) := by decide +kernel
theorem dX3_joint_14 : decode cX3_joint 14 = .ok (.invokevirtual 87, 3) := by decide +kernel
theorem dX3_joint_17 : decode cX3_joint 17 = .ok (.ireturn, 1) := by decide +kernel
theorem dX3_joint_18 : decode cX3_joint 18 = .ok (.aload_n 0, 1) := by decide +kernel
theorem dX3_joint_19 : decode cX3_joint 19 = .ok (.invokevirtual 47, 3) := by decide +kernel
theorem dX3_joint_22 : decode cX3_joint 22 = .ok (.aload_n 0, 1) := by decide +kernel
theorem dX3_joint_23 : decode cX3_joint 23 = .ok (.getfield 50, 3) := by decide +kernel
theorem dX3_joint_26 : decode cX3_joint 26 = .ok (.iconst 2, 1) := by decide +kernel
theorem dX3_joint_27 : decode cX3_joint 27 = .ok (.if_icmp .eq 9, 3) := by decide +kernel
theorem dX3_joint_30 : decode cX3_joint 30 = .ok (.aload_n 0, 1) := by decide +kernel
theorem dX3_joint_31 : decode cX3_joint 31 = .ok (.iconst 1, 1) := by decide +kernel
theorem dX3_joint_32 : decode cX3_joint 32 = .ok (.invokevirtual 87, 3) := by decide +kernel
theorem dX3_joint_35 : decode cX3_joint 35 = .ok (.ireturn, 1) := by decide +kernel
theorem dX3_joint_36 : decode cX3_joint 36 = .ok (.aload_n 0, 1) := by decide +kernel
theorem dX3_joint_37 : decode cX3_joint 37 = .ok (.getfield 124, 3) := by decide +kernel
theorem dX3_joint_40 : decode cX3_joint 40 = .ok (.istore_n 1, 1) := by decide +kernel
theorem dX3_joint_41 : decode cX3_joint 41 = .ok (.aload_n 0, 1) := by decide +kernel
theorem dX3_joint_42 : decode cX3_joint 42 = .ok (.getfield 15, 3) := by decide +kernel
theorem dX3_joint_45 : decode cX3_joint 45 = .ok (.iload_n 1, 1) := by decide +kernel
theorem dX3_joint_46 : decode cX3_joint 46 = .ok (.invokevirtual 161, 3) := by decide +kernel
theorem dX3_joint_49 : decode cX3_joint 49 = .ok (.ifCond .ne 9, 3) := by decide +kernel
theorem dX3_joint_52 : decode cX3_joint 52 = .ok (.aload_n 0, 1) := by decide +kernel
theorem dX3_joint_53 : decode cX3_joint 53 = .ok (.iconst 2, 1) := by decide +kernel
theorem dX3_joint_54 : decode cX3_joint 54 = .ok (.invokevirtual 87, 3) := by decide +kernel
theorem dX3_joint_57 : decode cX3_joint 57 = .ok (.ireturn, 1) := by decide +kernel
theorem dX3_joint_58 : decode cX3_joint 58 = .ok (.aload_n 0, 1) := by decide +kernel
theorem dX3_joint_59 : decode cX3_joint 59 = .ok (.invokevirtual 47, 3) := by decide +kernel
theorem dX3_joint_62 : decode cX3_joint 62 = .ok (.aload_n 0, 1) := by decide +kernel
theorem dX3_joint_63 : decode cX3_joint 63 = .ok (.iconst 2, 1) := by decide +kernel
theorem dX3_joint_64 : decode cX3_joint 64 = .ok (.invokevirtual 98, 3) := by decide +kernel
theorem dX3_joint_67 : decode cX3_joint 67 = .ok (.ifCond .eq 10, 3) := by decide +kernel
theorem dX3_joint_70 : decode cX3_joint 70 = .ok (.aload_n 0, 1) := by decide +kernel
theorem dX3_joint_71 : decode cX3_joint 71 = .ok (.invokevirtual 149, 3) := by decide +kernel
theorem dX3_joint_74 : decode cX3_joint 74 = .ok (.ifCond .ne 5, 3) := by decide +kernel
theorem dX3_joint_77 : decode cX3_joint 77 = .ok (.iconst 0, 1) := by decide +kernel
theorem dX3_joint_78 : decode cX3_joint 78 = .ok (.ireturn, 1) := by decide +kernel
theorem dX3_joint_79 : decode cX3_joint 79 = .ok (.aload_n 0, 1) := by decide +kernel
theorem dX3_joint_80 : decode cX3_joint 80 = .ok (.getfield 15, 3) := by decide +kernel
theorem dX3_joint_83 : decode cX3_joint 83 = .ok (.iload_n 1, 1) := by decide +kernel
theorem dX3_joint_84 : decode cX3_joint 84 = .ok (.aload_n 0, 1) := by decide +kernel
theorem dX3_joint_85 : decode cX3_joint 85 = .ok (.getfield 101, 3) := by decide +kernel
theorem dX3_joint_88 : decode cX3_joint 88 = .ok (.aload_n 0, 1) := by decide +kernel
theorem dX3_joint_89 : decode cX3_joint 89 = .ok (.getfield 155, 3) := by decide +kernel
theorem dX3_joint_92 : decode cX3_joint 92 = .ok (.invokevirtual 164, 3) := by decide +kernel
theorem dX3_joint_95 : decode cX3_joint 95 = .ok (.iconst 1, 1) := by decide +kernel
theorem dX3_joint_96 : decode cX3_joint 96 = .ok (.ireturn, 1) := by decide +kernel
theorem dX3_quota_0 : decode cX3_quota 0 = .ok (.aload_n 0, 1) := by decide +kernel
theorem dX3_quota_1 : decode cX3_quota 1 = .ok (.getfield 15, 3) := by decide +kernel
theorem dX3_quota_4 : decode cX3_quota 4 = .ok (.getfield 168, 3) := by decide +kernel
theorem dX3_quota_7 : decode cX3_quota 7 = .ok (.ifCond .eq 9, 3) := by decide +kernel
theorem dX3_quota_10 : decode cX3_quota 10 = .ok (.aload_n 0, 1) := by decide +kernel
theorem dX3_quota_11 : decode cX3_quota 11 = .ok (.iconst 3, 1) := by decide +kernel
theorem dX3_quota_12 : decode cX3_quota 12 = .ok (.invokevirtual 87, 3) := by decide +kernel
theorem dX3_quota_15 : decode cX3_quota 15 = .ok (.ireturn, 1) := by decide +kernel
theorem dX3_quota_16 : decode cX3_quota 16 = .ok (.aload_n 0, 1) := by decide +kernel
theorem dX3_quota_17 : decode cX3_quota 17 = .ok (.invokevirtual 47, 3) := by decide +kernel
theorem dX3_quota_20 : decode cX3_quota 20 = .ok (.aload_n 0, 1) := by decide +kernel
theorem dX3_quota_21 : decode cX3_quota 21 = .ok (.getfield 50, 3) := by decide +kernel
theorem dX3_quota_24 : decode cX3_quota 24 = .ok (.iconst 2, 1) := by decide +kernel
theorem dX3_quota_25 : decode cX3_quota 25 = .ok (.if_icmp .eq 9, 3) := by decide +kernel
theorem dX3_quota_28 : decode cX3_quota 28 = .ok (.aload_n 0, 1) := by decide +kernel
theorem dX3_quota_29 : decode cX3_quota 29 = .ok (.iconst 1, 1) := by decide +kernel
theorem dX3_quota_30 : decode cX3_quota 30 = .ok (.invokevirtual 87, 3) := by decide +kernel
theorem dX3_quota_33 : decode cX3_quota 33 = .ok (.ireturn, 1) := by decide +kernel
theorem dX3_quota_34 : decode cX3_quota 34 = .ok (.aload_n 0, 1) := by decide +kernel
theorem dX3_quota_35 : decode cX3_quota 35 = .ok (.getfield 124, 3) := by decide +kernel
theorem dX3_quota_38 : decode cX3_quota 38 = .ok (.iconst 1, 1) := by decide +kernel
theorem dX3_quota_39 : decode cX3_quota 39 = .ok (.if_icmp .lt 12, 3) := by decide +kernel
theorem dX3_quota_42 : decode cX3_quota 42 = .ok (.aload_n 0, 1) := by decide +kernel
theorem dX3_quota_43 : decode cX3_quota 43 = .ok (.getfield 124, 3) := by decide +kernel
theorem dX3_quota_46 : decode cX3_quota 46 = .ok (.bipush 9, 2) := by decide +kernel
theorem dX3_quota_48 : decode cX3_quota 48 = .ok (.if_icmp .le 9, 3) := by decide +kernel
theorem dX3_quota_51 : decode cX3_quota 51 = .ok (.aload_n 0, 1) := by decide +kernel
theorem dX3_quota_52 : decode cX3_quota 52 = .ok (.iconst 2, 1) := by decide +kernel
theorem dX3_quota_53 : decode cX3_quota 53 = .ok (.invokevirtual 87, 3) := by decide +kernel
theorem dX3_quota_56 : decode cX3_quota 56 = .ok (.ireturn, 1) := by decide +kernel
theorem dX3_quota_57 : decode cX3_quota 57 = .ok (.aload_n 0, 1) := by decide +kernel
theorem dX3_quota_58 : decode cX3_quota 58 = .ok (.getfield 15, 3) := by decide +kernel
theorem dX3_quota_61 : decode cX3_quota 61 = .ok (.aload_n 0, 1) := by decide +kernel
theorem dX3_quota_62 : decode cX3_quota 62 = .ok (.getfield 124, 3) := by decide +kernel
theorem dX3_quota_65 : decode cX3_quota 65 = .ok (.putfield 168, 3) := by decide +kernel
theorem dX3_quota_68 : decode cX3_quota 68 = .ok (.aload_n 0, 1) := by decide +kernel
theorem dX3_quota_69 : decode cX3_quota 69 = .ok (.invokevirtual 47, 3) := by decide +kernel
theorem dX3_quota_72 : decode cX3_quota 72 = .ok (.iconst 1, 1) := by decide +kernel
theorem dX3_quota_73 : decode cX3_quota 73 = .ok (.ireturn, 1) := by decide +kernel
theorem dX3_clauseSet_0 : decode cX3_clauseSet 0 = .ok (.iconst 0, 1) := by decide +kernel
theorem dX3_clauseSet_1 : decode cX3_clauseSet 1 = .ok (.istore_n 2, 1) := by decide +kernel
theorem dX3_clauseSet_2 : decode cX3_clauseSet 2 = .ok (.aload_n 0, 1) := by decide +kernel
theorem dX3_clauseSet_3 : decode cX3_clauseSet 3 = .ok (.getfield 50, 3) := by decide +kernel
theorem dX3_clauseSet_6 : decode cX3_clauseSet 6 = .ok (.iconst 1, 1) := by decide +kernel
theorem dX3_clauseSet_7 : decode cX3_clauseSet 7 = .ok (.if_icmp .ne 16, 3) := by decide +kernel
theorem dX3_clauseSet_10 : decode cX3_clauseSet 10 = .ok (.aload_n 0, 1) := by decide +kernel
theorem dX3_clauseSet_11 : decode cX3_clauseSet 11 = .ok (.getfield 44, 3) := by decide +kernel
theorem dX3_clauseSet_14 : decode cX3_clauseSet 14 = .ok (.aload_n 0, 1) := by decide +kernel
theorem dX3_clauseSet_15 : decode cX3_clauseSet 15 = .ok (.getfield 139, 3) := by decide +kernel
theorem dX3_clauseSet_18 : decode cX3_clauseSet 18 = .ok (.isub, 1) := by decide +kernel
theorem dX3_clauseSet_19 : decode cX3_clauseSet 19 = .ok (.iload_n 1, 1) := by decide +kernel
theorem dX3_clauseSet_20 : decode cX3_clauseSet 20 = .ok (.if_icmp .ge 9, 3) := by decide +kernel
theorem dX3_clauseSet_23 : decode cX3_clauseSet 23 = .ok (.aload_n 0, 1) := by decide +kernel
theorem dX3_clauseSet_24 : decode cX3_clauseSet 24 = .ok (.iconst 1, 1) := by decide +kernel
theorem dX3_clauseSet_25 : decode cX3_clauseSet 25 = .ok (.invokevirtual 87, 3) := by decide +kernel
theorem dX3_clauseSet_28 : decode cX3_clauseSet 28 = .ok (.ireturn, 1) := by decide +kernel
theorem dX3_clauseSet_29 : decode cX3_clauseSet 29 = .ok (.aload_n 0, 1) := by decide +kernel
theorem dX3_clauseSet_30 : decode cX3_clauseSet 30 = .ok (.getfield 139, 3) := by decide +kernel
theorem dX3_clauseSet_33 : decode cX3_clauseSet 33 = .ok (.istore_n 3, 1) := by decide +kernel
theorem dX3_clauseSet_34 : decode cX3_clauseSet 34 = .ok (.iload_n 3, 1) := by decide +kernel
theorem dX3_clauseSet_35 : decode cX3_clauseSet 35 = .ok (.aload_n 0, 1) := by decide +kernel
theorem dX3_clauseSet_36 : decode cX3_clauseSet 36 = .ok (.getfield 44, 3) := by decide +kernel
theorem dX3_clauseSet_39 : decode cX3_clauseSet 39 = .ok (.if_icmp .ge 50, 3) := by decide +kernel
theorem dX3_clauseSet_42 : decode cX3_clauseSet 42 = .ok (.aload_n 0, 1) := by decide +kernel
theorem dX3_clauseSet_43 : decode cX3_clauseSet 43 = .ok (.getfield 9, 3) := by decide +kernel
theorem dX3_clauseSet_46 : decode cX3_clauseSet 46 = .ok (.iload_n 3, 1) := by decide +kernel
theorem dX3_clauseSet_47 : decode cX3_clauseSet 47 = .ok (.iaload, 1) := by decide +kernel
theorem dX3_clauseSet_48 : decode cX3_clauseSet 48 = .ok (.bipush 97, 2) := by decide +kernel
theorem dX3_clauseSet_50 : decode cX3_clauseSet 50 = .ok (.isub, 1) := by decide +kernel
theorem dX3_clauseSet_51 : decode cX3_clauseSet 51 = .ok (.istore 4, 2) := by decide +kernel
theorem dX3_clauseSet_53 : decode cX3_clauseSet 53 = .ok (.iload 4, 2) := by decide +kernel
theorem dX3_clauseSet_55 : decode cX3_clauseSet 55 = .ok (.invokestatic 142, 3) := by decide +kernel
theorem dX3_clauseSet_58 : decode cX3_clauseSet 58 = .ok (.ifCond .eq 12, 3) := by decide +kernel
theorem dX3_clauseSet_61 : decode cX3_clauseSet 61 = .ok (.iload 4, 2) := by decide +kernel
theorem dX3_clauseSet_63 : decode cX3_clauseSet 63 = .ok (.iload_n 2, 1) := by decide +kernel
theorem dX3_clauseSet_64 : decode cX3_clauseSet 64 = .ok (.invokestatic 145, 3) := by decide +kernel
theorem dX3_clauseSet_67 : decode cX3_clauseSet 67 = .ok (.ifCond .eq 9, 3) := by decide +kernel
theorem dX3_clauseSet_70 : decode cX3_clauseSet 70 = .ok (.aload_n 0, 1) := by decide +kernel
theorem dX3_clauseSet_71 : decode cX3_clauseSet 71 = .ok (.iconst 1, 1) := by decide +kernel
theorem dX3_clauseSet_72 : decode cX3_clauseSet 72 = .ok (.invokevirtual 87, 3) := by decide +kernel
theorem dX3_clauseSet_75 : decode cX3_clauseSet 75 = .ok (.ireturn, 1) := by decide +kernel
theorem dX3_clauseSet_76 : decode cX3_clauseSet 76 = .ok (.iload_n 2, 1) := by decide +kernel
theorem dX3_clauseSet_77 : decode cX3_clauseSet 77 = .ok (.iconst 1, 1) := by decide +kernel
theorem dX3_clauseSet_78 : decode cX3_clauseSet 78 = .ok (.iload 4, 2) := by decide +kernel
theorem dX3_clauseSet_80 : decode cX3_clauseSet 80 = .ok (.ishl, 1) := by decide +kernel
theorem dX3_clauseSet_81 : decode cX3_clauseSet 81 = .ok (.ior, 1) := by decide +kernel
theorem dX3_clauseSet_82 : decode cX3_clauseSet 82 = .ok (.istore_n 2, 1) := by decide +kernel
theorem dX3_clauseSet_83 : decode cX3_clauseSet 83 = .ok (.iinc 3 1, 3) := by decide +kernel
theorem dX3_clauseSet_86 : decode cX3_clauseSet 86 = .ok (.goto (-52), 3) := by decide +kernel
theorem dX3_clauseSet_89 : decode cX3_clauseSet 89 = .ok (.aload_n 0, 1) := by decide +kernel
theorem dX3_clauseSet_90 : decode cX3_clauseSet 90 = .ok (.iload_n 2, 1) := by decide +kernel
theorem dX3_clauseSet_91 : decode cX3_clauseSet 91 = .ok (.putfield 101, 3) := by decide +kernel
theorem dX3_clauseSet_94 : decode cX3_clauseSet 94 = .ok (.aload_n 0, 1) := by decide +kernel
theorem dX3_clauseSet_95 : decode cX3_clauseSet 95 = .ok (.invokevirtual 47, 3) := by decide +kernel
theorem dX3_clauseSet_98 : decode cX3_clauseSet 98 = .ok (.iconst 1, 1) := by decide +kernel
theorem dX3_clauseSet_99 : decode cX3_clauseSet 99 = .ok (.ireturn, 1) := by decide +kernel
theorem dX3_signedWeight_0 : decode cX3_signedWeight 0 = .ok (.aload_n 0, 1) := by decide +kernel
theorem dX3_signedWeight_1 : decode cX3_signedWeight 1 = .ok (.bipush 45, 2) := by decide +kernel
theorem dX3_signedWeight_3 : decode cX3_signedWeight 3 = .ok (.invokevirtual 94, 3) := by decide +kernel
theorem dX3_signedWeight_6 : decode cX3_signedWeight 6 = .ok (.istore_n 1, 1) := by decide +kernel
theorem dX3_signedWeight_7 : decode cX3_signedWeight 7 = .ok (.iload_n 1, 1) := by decide +kernel
theorem dX3_signedWeight_8 : decode cX3_signedWeight 8 = .ok (.ifCond .eq 7, 3) := by decide +kernel
theorem dX3_signedWeight_11 : decode cX3_signedWeight 11 = .ok (.aload_n 0, 1) := by decide +kernel
theorem dX3_signedWeight_12 : decode cX3_signedWeight 12 = .ok (.invokevirtual 47, 3) := by decide +kernel
theorem dX3_signedWeight_15 : decode cX3_signedWeight 15 = .ok (.aload_n 0, 1) := by decide +kernel
theorem dX3_signedWeight_16 : decode cX3_signedWeight 16 = .ok (.getfield 50, 3) := by decide +kernel
theorem dX3_signedWeight_19 : decode cX3_signedWeight 19 = .ok (.iconst 2, 1) := by decide +kernel
theorem dX3_signedWeight_20 : decode cX3_signedWeight 20 = .ok (.if_icmp .eq 9, 3) := by decide +kernel
theorem dX3_signedWeight_23 : decode cX3_signedWeight 23 = .ok (.aload_n 0, 1) := by decide +kernel
theorem dX3_signedWeight_24 : decode cX3_signedWeight 24 = .ok (.iconst 1, 1) := by decide +kernel
theorem dX3_signedWeight_25 : decode cX3_signedWeight 25 = .ok (.invokevirtual 87, 3) := by decide +kernel
theorem dX3_signedWeight_28 : decode cX3_signedWeight 28 = .ok (.ireturn, 1) := by decide +kernel
theorem dX3_signedWeight_29 : decode cX3_signedWeight 29 = .ok (.aload_n 0, 1) := by decide +kernel
theorem dX3_signedWeight_30 : decode cX3_signedWeight 30 = .ok (.getfield 124, 3) := by decide +kernel
theorem dX3_signedWeight_33 : decode cX3_signedWeight 33 = .ok (.bipush 9, 2) := by decide +kernel
theorem dX3_signedWeight_35 : decode cX3_signedWeight 35 = .ok (.if_icmp .le 9, 3) := by decide +kernel
theorem dX3_signedWeight_38 : decode cX3_signedWeight 38 = .ok (.aload_n 0, 1) := by decide +kernel
theorem dX3_signedWeight_39 : decode cX3_signedWeight 39 = .ok (.iconst 2, 1) := by decide +kernel
theorem dX3_signedWeight_40 : decode cX3_signedWeight 40 = .ok (.invokevirtual 87, 3) := by decide +kernel
theorem dX3_signedWeight_43 : decode cX3_signedWeight 43 = .ok (.ireturn, 1) := by decide +kernel
theorem dX3_signedWeight_44 : decode cX3_signedWeight 44 = .ok (.aload_n 0, 1) := by decide +kernel
theorem dX3_signedWeight_45 : decode cX3_signedWeight 45 = .ok (.iload_n 1, 1) := by decide +kernel
theorem dX3_signedWeight_46 : decode cX3_signedWeight 46 = .ok (.ifCond .eq 11, 3) := by decide +kernel
theorem dX3_signedWeight_49 : decode cX3_signedWeight 49 = .ok (.aload_n 0, 1) := by decide +kernel
theorem dX3_signedWeight_50 : decode cX3_signedWeight 50 = .ok (.getfield 124, 3) := by decide +kernel
theorem dX3_signedWeight_53 : decode cX3_signedWeight 53 = .ok (.ineg, 1) := by decide +kernel
theorem dX3_signedWeight_54 : decode cX3_signedWeight 54 = .ok (.goto 7, 3) := by decide +kernel
theorem dX3_signedWeight_57 : decode cX3_signedWeight 57 = .ok (.aload_n 0, 1) := by decide +kernel
theorem dX3_signedWeight_58 : decode cX3_signedWeight 58 = .ok (.getfield 124, 3) := by decide +kernel
theorem dX3_signedWeight_61 : decode cX3_signedWeight 61 = .ok (.putfield 155, 3) := by decide +kernel
theorem dX3_signedWeight_64 : decode cX3_signedWeight 64 = .ok (.aload_n 0, 1) := by decide +kernel
theorem dX3_signedWeight_65 : decode cX3_signedWeight 65 = .ok (.invokevirtual 47, 3) := by decide +kernel
theorem dX3_signedWeight_68 : decode cX3_signedWeight 68 = .ok (.iconst 1, 1) := by decide +kernel
theorem dX3_signedWeight_69 : decode cX3_signedWeight 69 = .ok (.ireturn, 1) := by decide +kernel
theorem dX3_refuse_0 : decode cX3_refuse 0 = .ok (.aload_n 0, 1) := by decide +kernel
theorem dX3_refuse_1 : decode cX3_refuse 1 = .ok (.iload_n 1, 1) := by decide +kernel
theorem dX3_refuse_2 : decode cX3_refuse 2 = .ok (.bipush 8, 2) := by decide +kernel
theorem dX3_refuse_4 : decode cX3_refuse 4 = .ok (.aload_n 0, 1) := by decide +kernel
theorem dX3_refuse_5 : decode cX3_refuse 5 = .ok (.getfield 139, 3) := by decide +kernel
theorem dX3_refuse_8 : decode cX3_refuse 8 = .ok (.imul, 1) := by decide +kernel
theorem dX3_refuse_9 : decode cX3_refuse 9 = .ok (.iadd, 1) := by decide +kernel
theorem dX3_refuse_10 : decode cX3_refuse 10 = .ok (.putfield 41, 3) := by decide +kernel
theorem dX3_refuse_13 : decode cX3_refuse 13 = .ok (.iconst 0, 1) := by decide +kernel
theorem dX3_refuse_14 : decode cX3_refuse 14 = .ok (.ireturn, 1) := by decide +kernel
theorem dX3_isSign_0 : decode cX3_isSign 0 = .ok (.aload_n 0, 1) := by decide +kernel
theorem dX3_isSign_1 : decode cX3_isSign 1 = .ok (.getfield 50, 3) := by decide +kernel
theorem dX3_isSign_4 : decode cX3_isSign 4 = .ok (.iconst 3, 1) := by decide +kernel
theorem dX3_isSign_5 : decode cX3_isSign 5 = .ok (.if_icmp .ne 15, 3) := by decide +kernel
theorem dX3_isSign_8 : decode cX3_isSign 8 = .ok (.aload_n 0, 1) := by decide +kernel
theorem dX3_isSign_9 : decode cX3_isSign 9 = .ok (.getfield 124, 3) := by decide +kernel
theorem dX3_isSign_12 : decode cX3_isSign 12 = .ok (.iload_n 1, 1) := by decide +kernel
theorem dX3_isSign_13 : decode cX3_isSign 13 = .ok (.if_icmp .ne 7, 3) := by decide +kernel
theorem dX3_isSign_16 : decode cX3_isSign 16 = .ok (.iconst 1, 1) := by decide +kernel
theorem dX3_isSign_17 : decode cX3_isSign 17 = .ok (.goto 4, 3) := by decide +kernel
theorem dX3_isSign_20 : decode cX3_isSign 20 = .ok (.iconst 0, 1) := by decide +kernel
theorem dX3_isSign_21 : decode cX3_isSign 21 = .ok (.ireturn, 1) := by decide +kernel
theorem dX3_isWord_0 : decode cX3_isWord 0 = .ok (.aload_n 0, 1) := by decide +kernel
theorem dX3_isWord_1 : decode cX3_isWord 1 = .ok (.getfield 50, 3) := by decide +kernel
theorem dX3_isWord_4 : decode cX3_isWord 4 = .ok (.iconst 1, 1) := by decide +kernel
theorem dX3_isWord_5 : decode cX3_isWord 5 = .ok (.if_icmp .ne 19, 3) := by decide +kernel
theorem dX3_isWord_8 : decode cX3_isWord 8 = .ok (.aload_n 0, 1) := by decide +kernel
theorem dX3_isWord_9 : decode cX3_isWord 9 = .ok (.getfield 44, 3) := by decide +kernel
theorem dX3_isWord_12 : decode cX3_isWord 12 = .ok (.aload_n 0, 1) := by decide +kernel
theorem dX3_isWord_13 : decode cX3_isWord 13 = .ok (.getfield 139, 3) := by decide +kernel
theorem dX3_isWord_16 : decode cX3_isWord 16 = .ok (.isub, 1) := by decide +kernel
theorem dX3_isWord_17 : decode cX3_isWord 17 = .ok (.aload_n 1, 1) := by decide +kernel
theorem dX3_isWord_18 : decode cX3_isWord 18 = .ok (.invokevirtual 171, 3) := by decide +kernel
theorem dX3_isWord_21 : decode cX3_isWord 21 = .ok (.if_icmp .eq 5, 3) := by decide +kernel
theorem dX3_isWord_24 : decode cX3_isWord 24 = .ok (.iconst 0, 1) := by decide +kernel
theorem dX3_isWord_25 : decode cX3_isWord 25 = .ok (.ireturn, 1) := by decide +kernel
theorem dX3_isWord_26 : decode cX3_isWord 26 = .ok (.iconst 0, 1) := by decide +kernel
theorem dX3_isWord_27 : decode cX3_isWord 27 = .ok (.istore_n 2, 1) := by decide +kernel
theorem dX3_isWord_28 : decode cX3_isWord 28 = .ok (.iload_n 2, 1) := by decide +kernel
theorem dX3_isWord_29 : decode cX3_isWord 29 = .ok (.aload_n 1, 1) := by decide +kernel
theorem dX3_isWord_30 : decode cX3_isWord 30 = .ok (.invokevirtual 171, 3) := by decide +kernel
theorem dX3_isWord_33 : decode cX3_isWord 33 = .ok (.if_icmp .ge 30, 3) := by decide +kernel
theorem dX3_isWord_36 : decode cX3_isWord 36 = .ok (.aload_n 0, 1) := by decide +kernel
theorem dX3_isWord_37 : decode cX3_isWord 37 = .ok (.getfield 9, 3) := by decide +kernel
theorem dX3_isWord_40 : decode cX3_isWord 40 = .ok (.aload_n 0, 1) := by decide +kernel
theorem dX3_isWord_41 : decode cX3_isWord 41 = .ok (.getfield 139, 3) := by decide +kernel
theorem dX3_isWord_44 : decode cX3_isWord 44 = .ok (.iload_n 2, 1) := by decide +kernel
theorem dX3_isWord_45 : decode cX3_isWord 45 = .ok (.iadd, 1) := by decide +kernel
theorem dX3_isWord_46 : decode cX3_isWord 46 = .ok (.iaload, 1) := by decide +kernel
theorem dX3_isWord_47 : decode cX3_isWord 47 = .ok (.aload_n 1, 1) := by decide +kernel
theorem dX3_isWord_48 : decode cX3_isWord 48 = .ok (.iload_n 2, 1) := by decide +kernel
theorem dX3_isWord_49 : decode cX3_isWord 49 = .ok (.invokevirtual 176, 3) := by decide +kernel
theorem dX3_isWord_52 : decode cX3_isWord 52 = .ok (.if_icmp .eq 5, 3) := by decide +kernel
theorem dX3_isWord_55 : decode cX3_isWord 55 = .ok (.iconst 0, 1) := by decide +kernel
theorem dX3_isWord_56 : decode cX3_isWord 56 = .ok (.ireturn, 1) := by decide +kernel
theorem dX3_isWord_57 : decode cX3_isWord 57 = .ok (.iinc 2 1, 3) := by decide +kernel
theorem dX3_isWord_60 : decode cX3_isWord 60 = .ok (.goto (-32), 3) := by decide +kernel
theorem dX3_isWord_63 : decode cX3_isWord 63 = .ok (.iconst 1, 1) := by decide +kernel
theorem dX3_isWord_64 : decode cX3_isWord 64 = .ok (.ireturn, 1) := by decide +kernel
theorem dX3_step_0 : decode cX3_step 0 = .ok (.aload_n 0, 1) := by decide +kernel
theorem dX3_step_1 : decode cX3_step 1 = .ok (.aload_n 0, 1) := by decide +kernel
theorem dX3_step_2 : decode cX3_step 2 = .ok (.getfield 44, 3) := by decide +kernel
theorem dX3_step_5 : decode cX3_step 5 = .ok (.putfield 139, 3) := by decide +kernel
theorem dX3_step_8 : decode cX3_step 8 = .ok (.aload_n 0, 1) := by decide +kernel
theorem dX3_step_9 : decode cX3_step 9 = .ok (.getfield 139, 3) := by decide +kernel
theorem dX3_step_12 : decode cX3_step 12 = .ok (.aload_n 0, 1) := by decide +kernel
theorem dX3_step_13 : decode cX3_step 13 = .ok (.getfield 28, 3) := by decide +kernel
theorem dX3_step_16 : decode cX3_step 16 = .ok (.if_icmp .ge 44, 3) := by decide +kernel
theorem dX3_step_19 : decode cX3_step 19 = .ok (.aload_n 0, 1) := by decide +kernel
theorem dX3_step_20 : decode cX3_step 20 = .ok (.getfield 9, 3) := by decide +kernel
theorem dX3_step_23 : decode cX3_step 23 = .ok (.aload_n 0, 1) := by decide +kernel
theorem dX3_step_24 : decode cX3_step 24 = .ok (.getfield 139, 3) := by decide +kernel
theorem dX3_step_27 : decode cX3_step 27 = .ok (.iaload, 1) := by decide +kernel
theorem dX3_step_28 : decode cX3_step 28 = .ok (.bipush 32, 2) := by decide +kernel
theorem dX3_step_30 : decode cX3_step 30 = .ok (.if_icmp .eq 17, 3) := by decide +kernel
theorem dX3_step_33 : decode cX3_step 33 = .ok (.aload_n 0, 1) := by decide +kernel
theorem dX3_step_34 : decode cX3_step 34 = .ok (.getfield 9, 3) := by decide +kernel
theorem dX3_step_37 : decode cX3_step 37 = .ok (.aload_n 0, 1) := by decide +kernel
theorem dX3_step_38 : decode cX3_step 38 = .ok (.getfield 139, 3) := by decide +kernel
theorem dX3_step_41 : decode cX3_step 41 = .ok (.iaload, 1) := by decide +kernel
theorem dX3_step_42 : decode cX3_step 42 = .ok (.bipush 10, 2) := by decide +kernel
theorem dX3_step_44 : decode cX3_step 44 = .ok (.if_icmp .ne 16, 3) := by decide +kernel
theorem dX3_step_47 : decode cX3_step 47 = .ok (.aload_n 0, 1) := by decide +kernel
theorem dX3_step_48 : decode cX3_step 48 = .ok (.dup, 1) := by decide +kernel
theorem dX3_step_49 : decode cX3_step 49 = .ok (.getfield 139, 3) := by decide +kernel
theorem dX3_step_52 : decode cX3_step 52 = .ok (.iconst 1, 1) := by decide +kernel
theorem dX3_step_53 : decode cX3_step 53 = .ok (.iadd, 1) := by decide +kernel
theorem dX3_step_54 : decode cX3_step 54 = .ok (.putfield 139, 3) := by decide +kernel
theorem dX3_step_57 : decode cX3_step 57 = .ok (.goto (-49), 3) := by decide +kernel
theorem dX3_step_60 : decode cX3_step 60 = .ok (.aload_n 0, 1) := by decide +kernel
theorem dX3_step_61 : decode cX3_step 61 = .ok (.getfield 139, 3) := by decide +kernel
theorem dX3_step_64 : decode cX3_step 64 = .ok (.aload_n 0, 1) := by decide +kernel
theorem dX3_step_65 : decode cX3_step 65 = .ok (.getfield 28, 3) := by decide +kernel
theorem dX3_step_68 : decode cX3_step 68 = .ok (.if_icmp .lt 17, 3) := by decide +kernel
theorem dX3_step_71 : decode cX3_step 71 = .ok (.aload_n 0, 1) := by decide +kernel
theorem dX3_step_72 : decode cX3_step 72 = .ok (.iconst 0, 1) := by decide +kernel
theorem dX3_step_73 : decode cX3_step 73 = .ok (.putfield 50, 3) := by decide +kernel
theorem dX3_step_76 : decode cX3_step 76 = .ok (.aload_n 0, 1) := by decide +kernel
theorem dX3_step_77 : decode cX3_step 77 = .ok (.aload_n 0, 1) := by decide +kernel
theorem dX3_step_78 : decode cX3_step 78 = .ok (.getfield 139, 3) := by decide +kernel
theorem dX3_step_81 : decode cX3_step 81 = .ok (.putfield 44, 3) := by decide +kernel
theorem dX3_step_84 : decode cX3_step 84 = .ok (.return_, 1) := by decide +kernel
theorem dX3_step_85 : decode cX3_step 85 = .ok (.aload_n 0, 1) := by decide +kernel
theorem dX3_step_86 : decode cX3_step 86 = .ok (.aload_n 0, 1) := by decide +kernel
theorem dX3_step_87 : decode cX3_step 87 = .ok (.bipush 97, 2) := by decide +kernel
theorem dX3_step_89 : decode cX3_step 89 = .ok (.bipush 122, 2) := by decide +kernel
theorem dX3_step_91 : decode cX3_step 91 = .ok (.invokevirtual 180, 3) := by decide +kernel
theorem dX3_step_94 : decode cX3_step 94 = .ok (.putfield 44, 3) := by decide +kernel
theorem dX3_step_97 : decode cX3_step 97 = .ok (.aload_n 0, 1) := by decide +kernel
theorem dX3_step_98 : decode cX3_step 98 = .ok (.getfield 44, 3) := by decide +kernel
theorem dX3_step_101 : decode cX3_step 101 = .ok (.aload_n 0, 1) := by decide +kernel
theorem dX3_step_102 : decode cX3_step 102 = .ok (.getfield 139, 3) := by decide +kernel
theorem dX3_step_105 : decode cX3_step 105 = .ok (.if_icmp .le 9, 3) := by decide +kernel
theorem dX3_step_108 : decode cX3_step 108 = .ok (.aload_n 0, 1) := by decide +kernel
theorem dX3_step_109 : decode cX3_step 109 = .ok (.iconst 1, 1) := by decide +kernel
theorem dX3_step_110 : decode cX3_step 110 = .ok (.putfield 50, 3) := by decide +kernel
theorem dX3_step_113 : decode cX3_step 113 = .ok (.return_, 1) := by decide +kernel
theorem dX3_step_114 : decode cX3_step 114 = .ok (.aload_n 0, 1) := by decide +kernel
theorem dX3_step_115 : decode cX3_step 115 = .ok (.aload_n 0, 1) := by decide +kernel
theorem dX3_step_116 : decode cX3_step 116 = .ok (.bipush 48, 2) := by decide +kernel
theorem dX3_step_118 : decode cX3_step 118 = .ok (.bipush 57, 2) := by decide +kernel
theorem dX3_step_120 : decode cX3_step 120 = .ok (.invokevirtual 180, 3) := by decide +kernel
theorem dX3_step_123 : decode cX3_step 123 = .ok (.putfield 44, 3) := by decide +kernel
theorem dX3_step_126 : decode cX3_step 126 = .ok (.aload_n 0, 1) := by decide +kernel
theorem dX3_step_127 : decode cX3_step 127 = .ok (.getfield 44, 3) := by decide +kernel
theorem dX3_step_130 : decode cX3_step 130 = .ok (.aload_n 0, 1) := by decide +kernel
theorem dX3_step_131 : decode cX3_step 131 = .ok (.getfield 139, 3) := by decide +kernel
theorem dX3_step_134 : decode cX3_step 134 = .ok (.if_icmp .le 8, 3) := by decide +kernel
theorem dX3_step_137 : decode cX3_step 137 = .ok (.aload_n 0, 1) := by decide +kernel
theorem dX3_step_138 : decode cX3_step 138 = .ok (.invokevirtual 184, 3) := by decide +kernel
theorem dX3_step_141 : decode cX3_step 141 = .ok (.return_, 1) := by decide +kernel
theorem dX3_step_142 : decode cX3_step 142 = .ok (.aload_n 0, 1) := by decide +kernel
theorem dX3_step_143 : decode cX3_step 143 = .ok (.iconst 3, 1) := by decide +kernel
theorem dX3_step_144 : decode cX3_step 144 = .ok (.putfield 50, 3) := by decide +kernel
theorem dX3_step_147 : decode cX3_step 147 = .ok (.aload_n 0, 1) := by decide +kernel
theorem dX3_step_148 : decode cX3_step 148 = .ok (.aload_n 0, 1) := by decide +kernel
theorem dX3_step_149 : decode cX3_step 149 = .ok (.getfield 9, 3) := by decide +kernel
theorem dX3_step_152 : decode cX3_step 152 = .ok (.aload_n 0, 1) := by decide +kernel
theorem dX3_step_153 : decode cX3_step 153 = .ok (.getfield 139, 3) := by decide +kernel
theorem dX3_step_156 : decode cX3_step 156 = .ok (.iaload, 1) := by decide +kernel
theorem dX3_step_157 : decode cX3_step 157 = .ok (.putfield 124, 3) := by decide +kernel
theorem dX3_step_160 : decode cX3_step 160 = .ok (.aload_n 0, 1) := by decide +kernel
theorem dX3_step_161 : decode cX3_step 161 = .ok (.aload_n 0, 1) := by decide +kernel
theorem dX3_step_162 : decode cX3_step 162 = .ok (.getfield 139, 3) := by decide +kernel
theorem dX3_step_165 : decode cX3_step 165 = .ok (.iconst 1, 1) := by decide +kernel
theorem dX3_step_166 : decode cX3_step 166 = .ok (.iadd, 1) := by decide +kernel
theorem dX3_step_167 : decode cX3_step 167 = .ok (.putfield 44, 3) := by decide +kernel
theorem dX3_step_170 : decode cX3_step 170 = .ok (.return_, 1) := by decide +kernel
theorem dX3_endOfRun_0 : decode cX3_endOfRun 0 = .ok (.aload_n 0, 1) := by decide +kernel
theorem dX3_endOfRun_1 : decode cX3_endOfRun 1 = .ok (.getfield 139, 3) := by decide +kernel
theorem dX3_endOfRun_4 : decode cX3_endOfRun 4 = .ok (.istore_n 3, 1) := by decide +kernel
theorem dX3_endOfRun_5 : decode cX3_endOfRun 5 = .ok (.iload_n 3, 1) := by decide +kernel
theorem dX3_endOfRun_6 : decode cX3_endOfRun 6 = .ok (.aload_n 0, 1) := by decide +kernel
theorem dX3_endOfRun_7 : decode cX3_endOfRun 7 = .ok (.getfield 28, 3) := by decide +kernel
theorem dX3_endOfRun_10 : decode cX3_endOfRun 10 = .ok (.if_icmp .ge 29, 3) := by decide +kernel
theorem dX3_endOfRun_13 : decode cX3_endOfRun 13 = .ok (.aload_n 0, 1) := by decide +kernel
theorem dX3_endOfRun_14 : decode cX3_endOfRun 14 = .ok (.getfield 9, 3) := by decide +kernel
theorem dX3_endOfRun_17 : decode cX3_endOfRun 17 = .ok (.iload_n 3, 1) := by decide +kernel
theorem dX3_endOfRun_18 : decode cX3_endOfRun 18 = .ok (.iaload, 1) := by decide +kernel
theorem dX3_endOfRun_19 : decode cX3_endOfRun 19 = .ok (.iload_n 1, 1) := by decide +kernel
theorem dX3_endOfRun_20 : decode cX3_endOfRun 20 = .ok (.if_icmp .lt 19, 3) := by decide +kernel
theorem dX3_endOfRun_23 : decode cX3_endOfRun 23 = .ok (.aload_n 0, 1) := by decide +kernel
theorem dX3_endOfRun_24 : decode cX3_endOfRun 24 = .ok (.getfield 9, 3) := by decide +kernel
theorem dX3_endOfRun_27 : decode cX3_endOfRun 27 = .ok (.iload_n 3, 1) := by decide +kernel
theorem dX3_endOfRun_28 : decode cX3_endOfRun 28 = .ok (.iaload, 1) := by decide +kernel
theorem dX3_endOfRun_29 : decode cX3_endOfRun 29 = .ok (.iload_n 2, 1) := by decide +kernel
theorem dX3_endOfRun_30 : decode cX3_endOfRun 30 = .ok (.if_icmp .gt 9, 3) := by decide +kernel
theorem dX3_endOfRun_33 : decode cX3_endOfRun 33 = .ok (.iinc 3 1, 3) := by decide +kernel
theorem dX3_endOfRun_36 : decode cX3_endOfRun 36 = .ok (.goto (-31), 3) := by decide +kernel
theorem dX3_endOfRun_39 : decode cX3_endOfRun 39 = .ok (.iload_n 3, 1) := by decide +kernel
theorem dX3_endOfRun_40 : decode cX3_endOfRun 40 = .ok (.ireturn, 1) := by decide +kernel
theorem dX3_takeNumber_0 : decode cX3_takeNumber 0 = .ok (.aload_n 0, 1) := by decide +kernel
theorem dX3_takeNumber_1 : decode cX3_takeNumber 1 = .ok (.iconst 0, 1) := by decide +kernel
theorem dX3_takeNumber_2 : decode cX3_takeNumber 2 = .ok (.putfield 124, 3) := by decide +kernel
theorem dX3_takeNumber_5 : decode cX3_takeNumber 5 = .ok (.aload_n 0, 1) := by decide +kernel
theorem dX3_takeNumber_6 : decode cX3_takeNumber 6 = .ok (.aload_n 0, 1) := by decide +kernel
theorem dX3_takeNumber_7 : decode cX3_takeNumber 7 = .ok (.getfield 44, 3) := by decide +kernel
theorem dX3_takeNumber_10 : decode cX3_takeNumber 10 = .ok (.aload_n 0, 1) := by decide +kernel
theorem dX3_takeNumber_11 : decode cX3_takeNumber 11 = .ok (.getfield 139, 3) := by decide +kernel
theorem dX3_takeNumber_14 : decode cX3_takeNumber 14 = .ok (.isub, 1) := by decide +kernel
theorem dX3_takeNumber_15 : decode cX3_takeNumber 15 = .ok (.iconst 3, 1) := by decide +kernel
theorem dX3_takeNumber_16 : decode cX3_takeNumber 16 = .ok (.if_icmp .le 7, 3) := by decide +kernel
theorem dX3_takeNumber_19 : decode cX3_takeNumber 19 = .ok (.iconst 4, 1) := by decide +kernel
theorem dX3_takeNumber_20 : decode cX3_takeNumber 20 = .ok (.goto 4, 3) := by decide +kernel
theorem dX3_takeNumber_23 : decode cX3_takeNumber 23 = .ok (.iconst 2, 1) := by decide +kernel
theorem dX3_takeNumber_24 : decode cX3_takeNumber 24 = .ok (.putfield 50, 3) := by decide +kernel
theorem dX3_takeNumber_27 : decode cX3_takeNumber 27 = .ok (.aload_n 0, 1) := by decide +kernel
theorem dX3_takeNumber_28 : decode cX3_takeNumber 28 = .ok (.getfield 139, 3) := by decide +kernel
theorem dX3_takeNumber_31 : decode cX3_takeNumber 31 = .ok (.istore_n 1, 1) := by decide +kernel
theorem dX3_takeNumber_32 : decode cX3_takeNumber 32 = .ok (.iload_n 1, 1) := by decide +kernel
theorem dX3_takeNumber_33 : decode cX3_takeNumber 33 = .ok (.aload_n 0, 1) := by decide +kernel
theorem dX3_takeNumber_34 : decode cX3_takeNumber 34 = .ok (.getfield 44, 3) := by decide +kernel
theorem dX3_takeNumber_37 : decode cX3_takeNumber 37 = .ok (.if_icmp .ge 38, 3) := by decide +kernel
theorem dX3_takeNumber_40 : decode cX3_takeNumber 40 = .ok (.aload_n 0, 1) := by decide +kernel
theorem dX3_takeNumber_41 : decode cX3_takeNumber 41 = .ok (.getfield 50, 3) := by decide +kernel
theorem dX3_takeNumber_44 : decode cX3_takeNumber 44 = .ok (.iconst 2, 1) := by decide +kernel
theorem dX3_takeNumber_45 : decode cX3_takeNumber 45 = .ok (.if_icmp .ne 30, 3) := by decide +kernel
theorem dX3_takeNumber_48 : decode cX3_takeNumber 48 = .ok (.aload_n 0, 1) := by decide +kernel
theorem dX3_takeNumber_49 : decode cX3_takeNumber 49 = .ok (.aload_n 0, 1) := by decide +kernel
theorem dX3_takeNumber_50 : decode cX3_takeNumber 50 = .ok (.getfield 124, 3) := by decide +kernel
theorem dX3_takeNumber_53 : decode cX3_takeNumber 53 = .ok (.bipush 10, 2) := by decide +kernel
theorem dX3_takeNumber_55 : decode cX3_takeNumber 55 = .ok (.imul, 1) := by decide +kernel
theorem dX3_takeNumber_56 : decode cX3_takeNumber 56 = .ok (.aload_n 0, 1) := by decide +kernel
theorem dX3_takeNumber_57 : decode cX3_takeNumber 57 = .ok (.getfield 9, 3) := by decide +kernel
theorem dX3_takeNumber_60 : decode cX3_takeNumber 60 = .ok (.iload_n 1, 1) := by decide +kernel
theorem dX3_takeNumber_61 : decode cX3_takeNumber 61 = .ok (.iaload, 1) := by decide +kernel
theorem dX3_takeNumber_62 : decode cX3_takeNumber 62 = .ok (.iadd, 1) := by decide +kernel
theorem dX3_takeNumber_63 : decode cX3_takeNumber 63 = .ok (.bipush 48, 2) := by decide +kernel
theorem dX3_takeNumber_65 : decode cX3_takeNumber 65 = .ok (.isub, 1) := by decide +kernel
theorem dX3_takeNumber_66 : decode cX3_takeNumber 66 = .ok (.putfield 124, 3) := by decide +kernel
theorem dX3_takeNumber_69 : decode cX3_takeNumber 69 = .ok (.iinc 1 1, 3) := by decide +kernel
theorem dX3_takeNumber_72 : decode cX3_takeNumber 72 = .ok (.goto (-40), 3) := by decide +kernel
theorem dX3_takeNumber_75 : decode cX3_takeNumber 75 = .ok (.return_, 1) := by decide +kernel
theorem dX8_init_0 : decode cX8_init 0 = .ok (.aload_n 0, 1) := by decide +kernel
theorem dX8_init_1 : decode cX8_init 1 = .ok (.invokespecial 1, 3) := by decide +kernel
theorem dX8_init_4 : decode cX8_init 4 = .ok (.aload_n 0, 1) := by decide +kernel
theorem dX8_init_5 : decode cX8_init 5 = .ok (.bipush 6, 2) := by decide +kernel
theorem dX8_init_7 : decode cX8_init 7 = .ok (.newarray .int, 2) := by decide +kernel
theorem dX8_init_9 : decode cX8_init 9 = .ok (.dup, 1) := by decide +kernel
theorem dX8_init_10 : decode cX8_init 10 = .ok (.iconst 0, 1) := by decide +kernel
theorem dX8_init_11 : decode cX8_init 11 = .ok (.iconst 0, 1) := by decide +kernel
theorem dX8_init_12 : decode cX8_init 12 = .ok (.iastore, 1) := by decide +kernel
theorem dX8_init_13 : decode cX8_init 13 = .ok (.dup, 1) := by decide +kernel
theorem dX8_init_14 : decode cX8_init 14 = .ok (.iconst 1, 1) := by decide +kernel
theorem dX8_init_15 : decode cX8_init 15 = .ok (.iconst 0, 1) := by decide +kernel
theorem dX8_init_16 : decode cX8_init 16 = .ok (.iastore, 1) := by decide +kernel
theorem dX8_init_17 : decode cX8_init 17 = .ok (.dup, 1) := by decide +kernel
theorem dX8_init_18 : decode cX8_init 18 = .ok (.iconst 2, 1) := by decide +kernel
theorem dX8_init_19 : decode cX8_init 19 = .ok (.iconst (-1), 1) := by decide +kernel
theorem dX8_init_20 : decode cX8_init 20 = .ok (.iastore, 1) := by decide +kernel
theorem dX8_init_21 : decode cX8_init 21 = .ok (.dup, 1) := by decide +kernel
theorem dX8_init_22 : decode cX8_init 22 = .ok (.iconst 3, 1) := by decide +kernel
theorem dX8_init_23 : decode cX8_init 23 = .ok (.iconst 0, 1) := by decide +kernel
theorem dX8_init_24 : decode cX8_init 24 = .ok (.iastore, 1) := by decide +kernel
theorem dX8_init_25 : decode cX8_init 25 = .ok (.dup, 1) := by decide +kernel
theorem dX8_init_26 : decode cX8_init 26 = .ok (.iconst 4, 1) := by decide +kernel
theorem dX8_init_27 : decode cX8_init 27 = .ok (.iconst 0, 1) := by decide +kernel
theorem dX8_init_28 : decode cX8_init 28 = .ok (.iastore, 1) := by decide +kernel
theorem dX8_init_29 : decode cX8_init 29 = .ok (.dup, 1) := by decide +kernel
theorem dX8_init_30 : decode cX8_init 30 = .ok (.iconst 5, 1) := by decide +kernel
theorem dX8_init_31 : decode cX8_init 31 = .ok (.iconst 0, 1) := by decide +kernel
theorem dX8_init_32 : decode cX8_init 32 = .ok (.iastore, 1) := by decide +kernel
theorem dX8_init_33 : decode cX8_init 33 = .ok (.putfield 7, 3) := by decide +kernel
theorem dX8_init_36 : decode cX8_init 36 = .ok (.aload_n 0, 1) := by decide +kernel
theorem dX8_init_37 : decode cX8_init 37 = .ok (.bipush 6, 2) := by decide +kernel
theorem dX8_init_39 : decode cX8_init 39 = .ok (.newarray .int, 2) := by decide +kernel
theorem dX8_init_41 : decode cX8_init 41 = .ok (.putfield 13, 3) := by decide +kernel
theorem dX8_init_44 : decode cX8_init 44 = .ok (.aload_n 0, 1) := by decide +kernel
theorem dX8_init_45 : decode cX8_init 45 = .ok (.bipush 6, 2) := by decide +kernel
theorem dX8_init_47 : decode cX8_init 47 = .ok (.newarray .int, 2) := by decide +kernel
theorem dX8_init_49 : decode cX8_init 49 = .ok (.putfield 16, 3) := by decide +kernel
theorem dX8_init_52 : decode cX8_init 52 = .ok (.aload_n 0, 1) := by decide +kernel
theorem dX8_init_53 : decode cX8_init 53 = .ok (.bipush 6, 2) := by decide +kernel
theorem dX8_init_55 : decode cX8_init 55 = .ok (.newarray .int, 2) := by decide +kernel
theorem dX8_init_57 : decode cX8_init 57 = .ok (.putfield 19, 3) := by decide +kernel
theorem dX8_init_60 : decode cX8_init 60 = .ok (.aload_n 0, 1) := by decide +kernel
theorem dX8_init_61 : decode cX8_init 61 = .ok (.bipush 6, 2) := by decide +kernel
theorem dX8_init_63 : decode cX8_init 63 = .ok (.newarray .int, 2) := by decide +kernel
theorem dX8_init_65 : decode cX8_init 65 = .ok (.putfield 22, 3) := by decide +kernel
theorem dX8_init_68 : decode cX8_init 68 = .ok (.aload_n 0, 1) := by decide +kernel
theorem dX8_init_69 : decode cX8_init 69 = .ok (.bipush 6, 2) := by decide +kernel
theorem dX8_init_71 : decode cX8_init 71 = .ok (.newarray .int, 2) := by decide +kernel
theorem dX8_init_73 : decode cX8_init 73 = .ok (.putfield 25, 3) := by decide +kernel
theorem dX8_init_76 : decode cX8_init 76 = .ok (.aload_n 0, 1) := by decide +kernel
theorem dX8_init_77 : decode cX8_init 77 = .ok (.bipush 6, 2) := by decide +kernel
theorem dX8_init_79 : decode cX8_init 79 = .ok (.newarray .int, 2) := by decide +kernel
theorem dX8_init_81 : decode cX8_init 81 = .ok (.putfield 28, 3) := by decide +kernel
theorem dX8_init_84 : decode cX8_init 84 = .ok (.aload_n 0, 1) := by decide +kernel
theorem dX8_init_85 : decode cX8_init 85 = .ok (.bipush 6, 2) := by decide +kernel
theorem dX8_init_87 : decode cX8_init 87 = .ok (.newarray .int, 2) := by decide +kernel
theorem dX8_init_89 : decode cX8_init 89 = .ok (.putfield 31, 3) := by decide +kernel
theorem dX8_init_92 : decode cX8_init 92 = .ok (.aload_n 0, 1) := by decide +kernel
theorem dX8_init_93 : decode cX8_init 93 = .ok (.bipush 6, 2) := by decide +kernel
theorem dX8_init_95 : decode cX8_init 95 = .ok (.newarray .int, 2) := by decide +kernel
theorem dX8_init_97 : decode cX8_init 97 = .ok (.putfield 34, 3) := by decide +kernel
theorem dX8_init_100 : decode cX8_init 100 = .ok (.aload_n 0, 1) := by decide +kernel
theorem dX8_init_101 : decode cX8_init 101 = .ok (.bipush 6, 2) := by decide +kernel
theorem dX8_init_103 : decode cX8_init 103 = .ok (.newarray .int, 2) := by decide +kernel
theorem dX8_init_105 : decode cX8_init 105 = .ok (.putfield 37, 3) := by decide +kernel
theorem dX8_init_108 : decode cX8_init 108 = .ok (.aload_n 0, 1) := by decide +kernel
theorem dX8_init_109 : decode cX8_init 109 = .ok (.bipush 72, 2) := by decide +kernel
theorem dX8_init_111 : decode cX8_init 111 = .ok (.newarray .int, 2) := by decide +kernel
theorem dX8_init_113 : decode cX8_init 113 = .ok (.putfield 40, 3) := by decide +kernel
theorem dX8_init_116 : decode cX8_init 116 = .ok (.aload_n 0, 1) := by decide +kernel
theorem dX8_init_117 : decode cX8_init 117 = .ok (.bipush 72, 2) := by decide +kernel
theorem dX8_init_119 : decode cX8_init 119 = .ok (.newarray .int, 2) := by decide +kernel
theorem dX8_init_121 : decode cX8_init 121 = .ok (.putfield 43, 3) := by decide +kernel
theorem dX8_init_124 : decode cX8_init 124 = .ok (.aload_n 0, 1) := by decide +kernel
theorem dX8_init_125 : decode cX8_init 125 = .ok (.bipush 6, 2) := by decide +kernel
theorem dX8_init_127 : decode cX8_init 127 = .ok (.newarray .int, 2) := by decide +kernel
theorem dX8_init_129 : decode cX8_init 129 = .ok (.putfield 46, 3) := by decide +kernel
theorem dX8_init_132 : decode cX8_init 132 = .ok (.aload_n 0, 1) := by decide +kernel
theorem dX8_init_133 : decode cX8_init 133 = .ok (.bipush 6, 2) := by decide +kernel
theorem dX8_init_135 : decode cX8_init 135 = .ok (.newarray .int, 2) := by decide +kernel
theorem dX8_init_137 : decode cX8_init 137 = .ok (.putfield 49, 3) := by decide +kernel
theorem dX8_init_140 : decode cX8_init 140 = .ok (.aload_n 0, 1) := by decide +kernel
theorem dX8_init_141 : decode cX8_init 141 = .ok (.bipush 6, 2) := by decide +kernel
theorem dX8_init_143 : decode cX8_init 143 = .ok (.newarray .int, 2) := by decide +kernel
theorem dX8_init_145 : decode cX8_init 145 = .ok (.putfield 52, 3) := by decide +kernel
theorem dX8_init_148 : decode cX8_init 148 = .ok (.aload_n 0, 1) := by decide +kernel
theorem dX8_init_149 : decode cX8_init 149 = .ok (.bipush 6, 2) := by decide +kernel
theorem dX8_init_151 : decode cX8_init 151 = .ok (.newarray .int, 2) := by decide +kernel
theorem dX8_init_153 : decode cX8_init 153 = .ok (.putfield 55, 3) := by decide +kernel
theorem dX8_init_156 : decode cX8_init 156 = .ok (.aload_n 0, 1) := by decide +kernel
theorem dX8_init_157 : decode cX8_init 157 = .ok (.bipush 6, 2) := by decide +kernel
theorem dX8_init_159 : decode cX8_init 159 = .ok (.newarray .int, 2) := by decide +kernel
theorem dX8_init_161 : decode cX8_init 161 = .ok (.putfield 58, 3) := by decide +kernel
theorem dX8_init_164 : decode cX8_init 164 = .ok (.aload_n 0, 1) := by decide +kernel
theorem dX8_init_165 : decode cX8_init 165 = .ok (.bipush 6, 2) := by decide +kernel
theorem dX8_init_167 : decode cX8_init 167 = .ok (.newarray .int, 2) := by decide +kernel
theorem dX8_init_169 : decode cX8_init 169 = .ok (.putfield 61, 3) := by decide +kernel
theorem dX8_init_172 : decode cX8_init 172 = .ok (.aload_n 0, 1) := by decide +kernel
theorem dX8_init_173 : decode cX8_init 173 = .ok (.bipush 6, 2) := by decide +kernel
theorem dX8_init_175 : decode cX8_init 175 = .ok (.newarray .int, 2) := by decide +kernel
theorem dX8_init_177 : decode cX8_init 177 = .ok (.putfield 64, 3) := by decide +kernel
theorem dX8_init_180 : decode cX8_init 180 = .ok (.aload_n 0, 1) := by decide +kernel
theorem dX8_init_181 : decode cX8_init 181 = .ok (.sipush 400, 3) := by decide +kernel
theorem dX8_init_184 : decode cX8_init 184 = .ok (.newarray .int, 2) := by decide +kernel
theorem dX8_init_186 : decode cX8_init 186 = .ok (.putfield 67, 3) := by decide +kernel
theorem dX8_init_189 : decode cX8_init 189 = .ok (.aload_n 0, 1) := by decide +kernel
theorem dX8_init_190 : decode cX8_init 190 = .ok (.bipush 6, 2) := by decide +kernel
theorem dX8_init_192 : decode cX8_init 192 = .ok (.newarray .int, 2) := by decide +kernel
theorem dX8_init_194 : decode cX8_init 194 = .ok (.putfield 70, 3) := by decide +kernel
theorem dX8_init_197 : decode cX8_init 197 = .ok (.aload_n 0, 1) := by decide +kernel
theorem dX8_init_198 : decode cX8_init 198 = .ok (.sipush 2304, 3) := by decide +kernel
theorem dX8_init_201 : decode cX8_init 201 = .ok (.newarray .int, 2) := by decide +kernel
theorem dX8_init_203 : decode cX8_init 203 = .ok (.putfield 73, 3) := by decide +kernel
theorem dX8_init_206 : decode cX8_init 206 = .ok (.aload_n 0, 1) := by decide +kernel
theorem dX8_init_207 : decode cX8_init 207 = .ok (.sipush 448, 3) := by decide +kernel
theorem dX8_init_210 : decode cX8_init 210 = .ok (.newarray .int, 2) := by decide +kernel
theorem dX8_init_212 : decode cX8_init 212 = .ok (.putfield 76, 3) := by decide +kernel
theorem dX8_init_215 : decode cX8_init 215 = .ok (.aload_n 0, 1) := by decide +kernel
theorem dX8_init_216 : decode cX8_init 216 = .ok (.sipush 448, 3) := by decide +kernel
theorem dX8_init_219 : decode cX8_init 219 = .ok (.newarray .int, 2) := by decide +kernel
theorem dX8_init_221 : decode cX8_init 221 = .ok (.putfield 79, 3) := by decide +kernel
theorem dX8_init_224 : decode cX8_init 224 = .ok (.aload_n 0, 1) := by decide +kernel
theorem dX8_init_225 : decode cX8_init 225 = .ok (.bipush 80, 2) := by decide +kernel
theorem dX8_init_227 : decode cX8_init 227 = .ok (.newarray .int, 2) := by decide +kernel
theorem dX8_init_229 : decode cX8_init 229 = .ok (.putfield 82, 3) := by decide +kernel
theorem dX8_init_232 : decode cX8_init 232 = .ok (.aload_n 0, 1) := by decide +kernel
theorem dX8_init_233 : decode cX8_init 233 = .ok (.sipush 256, 3) := by decide +kernel
theorem dX8_init_236 : decode cX8_init 236 = .ok (.newarray .boolean, 2) := by decide +kernel
theorem dX8_init_238 : decode cX8_init 238 = .ok (.putfield 85, 3) := by decide +kernel
theorem dX8_init_241 : decode cX8_init 241 = .ok (.aload_n 0, 1) := by decide +kernel
theorem dX8_init_242 : decode cX8_init 242 = .ok (.sipush 256, 3) := by decide +kernel
theorem dX8_init_245 : decode cX8_init 245 = .ok (.newarray .boolean, 2) := by decide +kernel
theorem dX8_init_247 : decode cX8_init 247 = .ok (.putfield 89, 3) := by decide +kernel
theorem dX8_init_250 : decode cX8_init 250 = .ok (.aload_n 0, 1) := by decide +kernel
theorem dX8_init_251 : decode cX8_init 251 = .ok (.sipush 256, 3) := by decide +kernel
theorem dX8_init_254 : decode cX8_init 254 = .ok (.newarray .boolean, 2) := by decide +kernel
theorem dX8_init_256 : decode cX8_init 256 = .ok (.putfield 92, 3) := by decide +kernel
theorem dX8_init_259 : decode cX8_init 259 = .ok (.return_, 1) := by decide +kernel
theorem dX8_thrown_0 : decode cX8_thrown 0 = .ok (.aload_n 0, 1) := by decide +kernel
theorem dX8_thrown_1 : decode cX8_thrown 1 = .ok (.getfield 95, 3) := by decide +kernel
theorem dX8_thrown_4 : decode cX8_thrown 4 = .ok (.ireturn, 1) := by decide +kernel
theorem dX8_in_0 : decode cX8_in 0 = .ok (.iload_n 0, 1) := by decide +kernel
theorem dX8_in_1 : decode cX8_in 1 = .ok (.iload_n 1, 1) := by decide +kernel
theorem dX8_in_2 : decode cX8_in 2 = .ok (.if_icmp .lt 12, 3) := by decide +kernel
theorem dX8_in_5 : decode cX8_in 5 = .ok (.iload_n 0, 1) := by decide +kernel
theorem dX8_in_6 : decode cX8_in 6 = .ok (.iload_n 2, 1) := by decide +kernel
theorem dX8_in_7 : decode cX8_in 7 = .ok (.if_icmp .gt 7, 3) := by decide +kernel
theorem dX8_in_10 : decode cX8_in 10 = .ok (.iconst 1, 1) := by decide +kernel
theorem dX8_in_11 : decode cX8_in 11 = .ok (.goto 4, 3) := by decide +kernel
theorem dX8_in_14 : decode cX8_in 14 = .ok (.iconst 0, 1) := by decide +kernel
theorem dX8_in_15 : decode cX8_in 15 = .ok (.ireturn, 1) := by decide +kernel
theorem dX8_has_0 : decode cX8_has 0 = .ok (.iload_n 0, 1) := by decide +kernel
theorem dX8_has_1 : decode cX8_has 1 = .ok (.iload_n 1, 1) := by decide +kernel
theorem dX8_has_2 : decode cX8_has 2 = .ok (.ishr, 1) := by decide +kernel
theorem dX8_has_3 : decode cX8_has 3 = .ok (.iconst 1, 1) := by decide +kernel
theorem dX8_has_4 : decode cX8_has 4 = .ok (.iand, 1) := by decide +kernel
theorem dX8_has_5 : decode cX8_has 5 = .ok (.iconst 1, 1) := by decide +kernel
theorem dX8_has_6 : decode cX8_has 6 = .ok (.if_icmp .ne 7, 3) := by decide +kernel
theorem dX8_has_9 : decode cX8_has 9 = .ok (.iconst 1, 1) := by decide +kernel
theorem dX8_has_10 : decode cX8_has 10 = .ok (.goto 4, 3) := by decide +kernel
theorem dX8_has_13 : decode cX8_has 13 = .ok (.iconst 0, 1) := by decide +kernel
theorem dX8_has_14 : decode cX8_has 14 = .ok (.ireturn, 1) := by decide +kernel
theorem dX8_four_0 : decode cX8_four 0 = .ok (.bipush 24, 2) := by decide +kernel
theorem dX8_four_2 : decode cX8_four 2 = .ok (.istore_n 2, 1) := by decide +kernel
theorem dX8_four_3 : decode cX8_four 3 = .ok (.iload_n 2, 1) := by decide +kernel
theorem dX8_four_4 : decode cX8_four 4 = .ok (.ifCond .lt 35, 3) := by decide +kernel
theorem dX8_four_7 : decode cX8_four 7 = .ok (.aload_n 0, 1) := by decide +kernel
theorem dX8_four_8 : decode cX8_four 8 = .ok (.getfield 67, 3) := by decide +kernel
theorem dX8_four_11 : decode cX8_four 11 = .ok (.aload_n 0, 1) := by decide +kernel
theorem dX8_four_12 : decode cX8_four 12 = .ok (.getfield 99, 3) := by decide +kernel
theorem dX8_four_15 : decode cX8_four 15 = .ok (.iload_n 1, 1) := by decide +kernel
theorem dX8_four_16 : decode cX8_four 16 = .ok (.iload_n 2, 1) := by decide +kernel
theorem dX8_four_17 : decode cX8_four 17 = .ok (.ishr, 1) := by decide +kernel
theorem dX8_four_18 : decode cX8_four 18 = .ok (.sipush 255, 3) := by decide +kernel
theorem dX8_four_21 : decode cX8_four 21 = .ok (.iand, 1) := by decide +kernel
theorem dX8_four_22 : decode cX8_four 22 = .ok (.iastore, 1) := by decide +kernel
theorem dX8_four_23 : decode cX8_four 23 = .ok (.aload_n 0, 1) := by decide +kernel
theorem dX8_four_24 : decode cX8_four 24 = .ok (.dup, 1) := by decide +kernel
theorem dX8_four_25 : decode cX8_four 25 = .ok (.getfield 99, 3) := by decide +kernel
theorem dX8_four_28 : decode cX8_four 28 = .ok (.iconst 1, 1) := by decide +kernel
theorem dX8_four_29 : decode cX8_four 29 = .ok (.iadd, 1) := by decide +kernel
theorem dX8_four_30 : decode cX8_four 30 = .ok (.putfield 99, 3) := by decide +kernel
theorem dX8_four_33 : decode cX8_four 33 = .ok (.iinc 2 (-8), 3) := by decide +kernel
theorem dX8_four_36 : decode cX8_four 36 = .ok (.goto (-33), 3) := by decide +kernel
theorem dX8_four_39 : decode cX8_four 39 = .ok (.return_, 1) := by decide +kernel
theorem dX8_feed_0 : decode cX8_feed 0 = .ok (.aload_n 0, 1) := by decide +kernel
theorem dX8_feed_1 : decode cX8_feed 1 = .ok (.iconst 0, 1) := by decide +kernel
theorem dX8_feed_2 : decode cX8_feed 2 = .ok (.putfield 95, 3) := by decide +kernel
theorem dX8_feed_5 : decode cX8_feed 5 = .ok (.aload_n 0, 1) := by decide +kernel
theorem dX8_feed_6 : decode cX8_feed 6 = .ok (.getfield 99, 3) := by decide +kernel
theorem dX8_feed_9 : decode cX8_feed 9 = .ok (.bipush 20, 2) := by decide +kernel
theorem dX8_feed_11 : decode cX8_feed 11 = .ok (.iadd, 1) := by decide +kernel
theorem dX8_feed_12 : decode cX8_feed 12 = .ok (.sipush 400, 3) := by decide +kernel
theorem dX8_feed_15 : decode cX8_feed 15 = .ok (.if_icmp .le 5, 3) := by decide +kernel
theorem dX8_feed_18 : decode cX8_feed 18 = .ok (.iconst (-1), 1) := by decide +kernel
theorem dX8_feed_19 : decode cX8_feed 19 = .ok (.ireturn, 1) := by decide +kernel
theorem dX8_feed_20 : decode cX8_feed 20 = .ok (.aload_n 0, 1) := by decide +kernel
theorem dX8_feed_21 : decode cX8_feed 21 = .ok (.iload_n 1, 1) := by decide +kernel
theorem dX8_feed_22 : decode cX8_feed 22 = .ok (.invokevirtual 102, 3) := by decide +kernel
theorem dX8_feed_25 : decode cX8_feed 25 = .ok (.aload_n 0, 1) := by decide +kernel
theorem dX8_feed_26 : decode cX8_feed 26 = .ok (.iload_n 2, 1) := by decide +kernel
theorem dX8_feed_27 : decode cX8_feed 27 = .ok (.invokevirtual 102, 3) := by decide +kernel
theorem dX8_feed_30 : decode cX8_feed 30 = .ok (.aload_n 0, 1) := by decide +kernel
theorem dX8_feed_31 : decode cX8_feed 31 = .ok (.iload_n 3, 1) := by decide +kernel
theorem dX8_feed_32 : decode cX8_feed 32 = .ok (.invokevirtual 102, 3) := by decide +kernel
theorem dX8_feed_35 : decode cX8_feed 35 = .ok (.aload_n 0, 1) := by decide +kernel
theorem dX8_feed_36 : decode cX8_feed 36 = .ok (.iload 4, 2) := by decide +kernel
theorem dX8_feed_38 : decode cX8_feed 38 = .ok (.invokevirtual 102, 3) := by decide +kernel
theorem dX8_feed_41 : decode cX8_feed 41 = .ok (.aload_n 0, 1) := by decide +kernel
theorem dX8_feed_42 : decode cX8_feed 42 = .ok (.iload 5, 2) := by decide +kernel
theorem dX8_feed_44 : decode cX8_feed 44 = .ok (.invokevirtual 102, 3) := by decide +kernel
theorem dX8_feed_47 : decode cX8_feed 47 = .ok (.aload_n 0, 1) := by decide +kernel
theorem dX8_feed_48 : decode cX8_feed 48 = .ok (.getfield 99, 3) := by decide +kernel
theorem dX8_feed_51 : decode cX8_feed 51 = .ok (.ireturn, 1) := by decide +kernel
theorem dX8_end_0 : decode cX8_end 0 = .ok (.aload_n 0, 1) := by decide +kernel
theorem dX8_end_1 : decode cX8_end 1 = .ok (.iconst 0, 1) := by decide +kernel
theorem dX8_end_2 : decode cX8_end 2 = .ok (.putfield 95, 3) := by decide +kernel
theorem dX8_end_5 : decode cX8_end 5 = .ok (.iload_n 1, 1) := by decide +kernel
theorem dX8_end_6 : decode cX8_end 6 = .ok (.iconst 0, 1) := by decide +kernel
theorem dX8_end_7 : decode cX8_end 7 = .ok (.aload_n 0, 1) := by decide +kernel
theorem dX8_end_8 : decode cX8_end 8 = .ok (.getfield 99, 3) := by decide +kernel
theorem dX8_end_11 : decode cX8_end 11 = .ok (.invokestatic 106, 3) := by decide +kernel
theorem dX8_end_14 : decode cX8_end 14 = .ok (.ifCond .ne 5, 3) := by decide +kernel
theorem dX8_end_17 : decode cX8_end 17 = .ok (.iconst 0, 1) := by decide +kernel
theorem dX8_end_18 : decode cX8_end 18 = .ok (.ireturn, 1) := by decide +kernel
theorem dX8_end_19 : decode cX8_end 19 = .ok (.aload_n 0, 1) := by decide +kernel
theorem dX8_end_20 : decode cX8_end 20 = .ok (.iload_n 1, 1) := by decide +kernel
theorem dX8_end_21 : decode cX8_end 21 = .ok (.putfield 99, 3) := by decide +kernel
theorem dX8_end_24 : decode cX8_end 24 = .ok (.iconst 1, 1) := by decide +kernel
theorem dX8_end_25 : decode cX8_end 25 = .ok (.ireturn, 1) := by decide +kernel
theorem dX8_here_0 : decode cX8_here 0 = .ok (.aload_n 0, 1) := by decide +kernel
theorem dX8_here_1 : decode cX8_here 1 = .ok (.getfield 110, 3) := by decide +kernel
theorem dX8_here_4 : decode cX8_here 4 = .ok (.aload_n 0, 1) := by decide +kernel
theorem dX8_here_5 : decode cX8_here 5 = .ok (.getfield 99, 3) := by decide +kernel
theorem dX8_here_8 : decode cX8_here 8 = .ok (.if_icmp .ge 44, 3) := by decide +kernel
theorem dX8_here_11 : decode cX8_here 11 = .ok (.aload_n 0, 1) := by decide +kernel
theorem dX8_here_12 : decode cX8_here 12 = .ok (.getfield 67, 3) := by decide +kernel
theorem dX8_here_15 : decode cX8_here 15 = .ok (.aload_n 0, 1) := by decide +kernel
theorem dX8_here_16 : decode cX8_here 16 = .ok (.getfield 110, 3) := by decide +kernel
theorem dX8_here_19 : decode cX8_here 19 = .ok (.iaload, 1) := by decide +kernel
theorem dX8_here_20 : decode cX8_here 20 = .ok (.bipush 32, 2) := by decide +kernel
theorem dX8_here_22 : decode cX8_here 22 = .ok (.if_icmp .eq 17, 3) := by decide +kernel
theorem dX8_here_25 : decode cX8_here 25 = .ok (.aload_n 0, 1) := by decide +kernel
theorem dX8_here_26 : decode cX8_here 26 = .ok (.getfield 67, 3) := by decide +kernel
theorem dX8_here_29 : decode cX8_here 29 = .ok (.aload_n 0, 1) := by decide +kernel
theorem dX8_here_30 : decode cX8_here 30 = .ok (.getfield 110, 3) := by decide +kernel
theorem dX8_here_33 : decode cX8_here 33 = .ok (.iaload, 1) := by decide +kernel
theorem dX8_here_34 : decode cX8_here 34 = .ok (.bipush 10, 2) := by decide +kernel
theorem dX8_here_36 : decode cX8_here 36 = .ok (.if_icmp .ne 16, 3) := by decide +kernel
theorem dX8_here_39 : decode cX8_here 39 = .ok (.aload_n 0, 1) := by decide +kernel
theorem dX8_here_40 : decode cX8_here 40 = .ok (.dup, 1) := by decide +kernel
theorem dX8_here_41 : decode cX8_here 41 = .ok (.getfield 110, 3) := by decide +kernel
theorem dX8_here_44 : decode cX8_here 44 = .ok (.iconst 1, 1) := by decide +kernel
theorem dX8_here_45 : decode cX8_here 45 = .ok (.iadd, 1) := by decide +kernel
theorem dX8_here_46 : decode cX8_here 46 = .ok (.putfield 110, 3) := by decide +kernel
theorem dX8_here_49 : decode cX8_here 49 = .ok (.goto (-49), 3) := by decide +kernel
theorem dX8_here_52 : decode cX8_here 52 = .ok (.aload_n 0, 1) := by decide +kernel
theorem dX8_here_53 : decode cX8_here 53 = .ok (.getfield 110, 3) := by decide +kernel
theorem dX8_here_56 : decode cX8_here 56 = .ok (.aload_n 0, 1) := by decide +kernel
theorem dX8_here_57 : decode cX8_here 57 = .ok (.getfield 99, 3) := by decide +kernel
theorem dX8_here_60 : decode cX8_here 60 = .ok (.if_icmp .ge 15, 3) := by decide +kernel
theorem dX8_here_63 : decode cX8_here 63 = .ok (.aload_n 0, 1) := by decide +kernel
theorem dX8_here_64 : decode cX8_here 64 = .ok (.getfield 67, 3) := by decide +kernel
theorem dX8_here_67 : decode cX8_here 67 = .ok (.aload_n 0, 1) := by decide +kernel
theorem dX8_here_68 : decode cX8_here 68 = .ok (.getfield 110, 3) := by decide +kernel
theorem dX8_here_71 : decode cX8_here 71 = .ok (.iaload, 1) := by decide +kernel
theorem dX8_here_72 : decode cX8_here 72 = .ok (.goto 4, 3) := by decide +kernel
theorem dX8_here_75 : decode cX8_here 75 = .ok (.iconst (-1), 1) := by decide +kernel
theorem dX8_here_76 : decode cX8_here 76 = .ok (.ireturn, 1) := by decide +kernel
theorem dX8_fails_0 : decode cX8_fails 0 = .ok (.aload_n 0, 1) := by decide +kernel
theorem dX8_fails_1 : decode cX8_fails 1 = .ok (.iload_n 1, 1) := by decide +kernel
theorem dX8_fails_2 : decode cX8_fails 2 = .ok (.bipush 8, 2) := by decide +kernel
theorem dX8_fails_4 : decode cX8_fails 4 = .ok (.iload_n 2, 1) := by decide +kernel
theorem dX8_fails_5 : decode cX8_fails 5 = .ok (.imul, 1) := by decide +kernel
theorem dX8_fails_6 : decode cX8_fails 6 = .ok (.iadd, 1) := by decide +kernel
theorem dX8_fails_7 : decode cX8_fails 7 = .ok (.putfield 113, 3) := by decide +kernel
theorem dX8_fails_10 : decode cX8_fails 10 = .ok (.iconst 0, 1) := by decide +kernel
theorem dX8_fails_11 : decode cX8_fails 11 = .ok (.ireturn, 1) := by decide +kernel
theorem dX8_isWord_0 : decode cX8_isWord 0 = .ok (.aload_n 0, 1) := by decide +kernel
theorem dX8_isWord_1 : decode cX8_isWord 1 = .ok (.invokevirtual 116, 3) := by decide +kernel
theorem dX8_isWord_4 : decode cX8_isWord 4 = .ok (.bipush 97, 2) := by decide +kernel
theorem dX8_isWord_6 : decode cX8_isWord 6 = .ok (.bipush 122, 2) := by decide +kernel
theorem dX8_isWord_8 : decode cX8_isWord 8 = .ok (.invokestatic 106, 3) := by decide +kernel
theorem dX8_isWord_11 : decode cX8_isWord 11 = .ok (.ireturn, 1) := by decide +kernel
theorem dX8_readWord_0 : decode cX8_readWord 0 = .ok (.lconst 0, 1) := by decide +kernel
theorem dX8_readWord_1 : decode cX8_readWord 1 = .ok (.lstore_n 1, 1) := by decide +kernel
theorem dX8_readWord_2 : decode cX8_readWord 2 = .ok (.aload_n 0, 1) := by decide +kernel
theorem dX8_readWord_3 : decode cX8_readWord 3 = .ok (.iconst 0, 1) := by decide +kernel
theorem dX8_readWord_4 : decode cX8_readWord 4 = .ok (.putfield 120, 3) := by decide +kernel
theorem dX8_readWord_7 : decode cX8_readWord 7 = .ok (.aload_n 0, 1) := by decide +kernel
theorem dX8_readWord_8 : decode cX8_readWord 8 = .ok (.iconst 0, 1) := by decide +kernel
theorem dX8_readWord_9 : decode cX8_readWord 9 = .ok (.putfield 123, 3) := by decide +kernel
theorem dX8_readWord_12 : decode cX8_readWord 12 = .ok (.aload_n 0, 1) := by decide +kernel
theorem dX8_readWord_13 : decode cX8_readWord 13 = .ok (.aload_n 0, 1) := by decide +kernel
theorem dX8_readWord_14 : decode cX8_readWord 14 = .ok (.getfield 110, 3) := by decide +kernel
theorem dX8_readWord_17 : decode cX8_readWord 17 = .ok (.putfield 126, 3) := by decide +kernel
theorem dX8_readWord_20 : decode cX8_readWord 20 = .ok (.aload_n 0, 1) := by decide +kernel
theorem dX8_readWord_21 : decode cX8_readWord 21 = .ok (.getfield 110, 3) := by decide +kernel
theorem dX8_readWord_24 : decode cX8_readWord 24 = .ok (.aload_n 0, 1) := by decide +kernel
theorem dX8_readWord_25 : decode cX8_readWord 25 = .ok (.getfield 99, 3) := by decide +kernel
theorem dX8_readWord_28 : decode cX8_readWord 28 = .ok (.if_icmp .ge 124, 3) := by decide +kernel
theorem dX8_readWord_31 : decode cX8_readWord 31 = .ok (.aload_n 0, 1) := by decide +kernel
theorem dX8_readWord_32 : decode cX8_readWord 32 = .ok (.getfield 67, 3) := by decide +kernel
theorem dX8_readWord_35 : decode cX8_readWord 35 = .ok (.aload_n 0, 1) := by decide +kernel
theorem dX8_readWord_36 : decode cX8_readWord 36 = .ok (.getfield 110, 3) := by decide +kernel
theorem dX8_readWord_39 : decode cX8_readWord 39 = .ok (.iaload, 1) := by decide +kernel
theorem dX8_readWord_40 : decode cX8_readWord 40 = .ok (.bipush 97, 2) := by decide +kernel
theorem dX8_readWord_42 : decode cX8_readWord 42 = .ok (.bipush 122, 2) := by decide +kernel
theorem dX8_readWord_44 : decode cX8_readWord 44 = .ok (.invokestatic 106, 3) := by decide +kernel
theorem dX8_readWord_47 : decode cX8_readWord 47 = .ok (.ifCond .eq 105, 3) := by decide +kernel
theorem dX8_readWord_50 : decode cX8_readWord 50 = .ok (.aload_n 0, 1) := by decide +kernel
theorem dX8_readWord_51 : decode cX8_readWord 51 = .ok (.getfield 67, 3) := by decide +kernel
theorem dX8_readWord_54 : decode cX8_readWord 54 = .ok (.aload_n 0, 1) := by decide +kernel
theorem dX8_readWord_55 : decode cX8_readWord 55 = .ok (.getfield 110, 3) := by decide +kernel
theorem dX8_readWord_58 : decode cX8_readWord 58 = .ok (.iaload, 1) := by decide +kernel
theorem dX8_readWord_59 : decode cX8_readWord 59 = .ok (.bipush 97, 2) := by decide +kernel
theorem dX8_readWord_61 : decode cX8_readWord 61 = .ok (.isub, 1) := by decide +kernel
theorem dX8_readWord_62 : decode cX8_readWord 62 = .ok (.istore_n 3, 1) := by decide +kernel
theorem dX8_readWord_63 : decode cX8_readWord 63 = .ok (.aload_n 0, 1) := by decide +kernel
theorem dX8_readWord_64 : decode cX8_readWord 64 = .ok (.getfield 120, 3) := by decide +kernel
theorem dX8_readWord_67 : decode cX8_readWord 67 = .ok (.bipush 7, 2) := by decide +kernel
theorem dX8_readWord_69 : decode cX8_readWord 69 = .ok (.if_icmp .ge 16, 3) := by decide +kernel
theorem dX8_readWord_72 : decode cX8_readWord 72 = .ok (.lload_n 1, 1) := by decide +kernel
theorem dX8_readWord_73 : decode cX8_readWord 73 = .ok (.ldc2_w 129, 3) := by decide +kernel
theorem dX8_readWord_76 : decode cX8_readWord 76 = .ok (.lmul, 1) := by decide +kernel
theorem dX8_readWord_77 : decode cX8_readWord 77 = .ok (.iload_n 3, 1) := by decide +kernel
theorem dX8_readWord_78 : decode cX8_readWord 78 = .ok (.i2l, 1) := by decide +kernel
theorem dX8_readWord_79 : decode cX8_readWord 79 = .ok (.ladd, 1) := by decide +kernel
theorem dX8_readWord_80 : decode cX8_readWord 80 = .ok (.lconst 1, 1) := by decide +kernel
theorem dX8_readWord_81 : decode cX8_readWord 81 = .ok (.ladd, 1) := by decide +kernel
theorem dX8_readWord_82 : decode cX8_readWord 82 = .ok (.goto 6, 3) := by decide +kernel
theorem dX8_readWord_85 : decode cX8_readWord 85 = .ok (.ldc2_w 131, 3) := by decide +kernel
theorem dX8_readWord_88 : decode cX8_readWord 88 = .ok (.lstore_n 1, 1) := by decide +kernel
theorem dX8_readWord_89 : decode cX8_readWord 89 = .ok (.aload_n 0, 1) := by decide +kernel
theorem dX8_readWord_90 : decode cX8_readWord 90 = .ok (.aload_n 0, 1) := by decide +kernel
theorem dX8_readWord_91 : decode cX8_readWord 91 = .ok (.getfield 123, 3) := by decide +kernel
theorem dX8_readWord_94 : decode cX8_readWord 94 = .ok (.ifCond .lt 20, 3) := by decide +kernel
theorem dX8_readWord_97 : decode cX8_readWord 97 = .ok (.iload_n 3, 1) := by decide +kernel
theorem dX8_readWord_98 : decode cX8_readWord 98 = .ok (.bipush 7, 2) := by decide +kernel
theorem dX8_readWord_100 : decode cX8_readWord 100 = .ok (.if_icmp .gt 14, 3) := by decide +kernel
theorem dX8_readWord_103 : decode cX8_readWord 103 = .ok (.aload_n 0, 1) := by decide +kernel
theorem dX8_readWord_104 : decode cX8_readWord 104 = .ok (.getfield 123, 3) := by decide +kernel
theorem dX8_readWord_107 : decode cX8_readWord 107 = .ok (.iload_n 3, 1) := by decide +kernel
theorem dX8_readWord_108 : decode cX8_readWord 108 = .ok (.invokestatic 133, 3) := by decide +kernel
theorem dX8_readWord_111 : decode cX8_readWord 111 = .ok (.ifCond .eq 7, 3) := by decide +kernel
theorem dX8_readWord_114 : decode cX8_readWord 114 = .ok (.iconst (-1), 1) := by decide +kernel
theorem dX8_readWord_115 : decode cX8_readWord 115 = .ok (.goto 11, 3) := by decide +kernel
theorem dX8_readWord_118 : decode cX8_readWord 118 = .ok (.aload_n 0, 1) := by decide +kernel
theorem dX8_readWord_119 : decode cX8_readWord 119 = .ok (.getfield 123, 3) := by decide +kernel
theorem dX8_readWord_122 : decode cX8_readWord 122 = .ok (.iconst 1, 1) := by decide +kernel
theorem dX8_readWord_123 : decode cX8_readWord 123 = .ok (.iload_n 3, 1) := by decide +kernel
theorem dX8_readWord_124 : decode cX8_readWord 124 = .ok (.ishl, 1) := by decide +kernel
theorem dX8_readWord_125 : decode cX8_readWord 125 = .ok (.ior, 1) := by decide +kernel
theorem dX8_readWord_126 : decode cX8_readWord 126 = .ok (.putfield 123, 3) := by decide +kernel
theorem dX8_readWord_129 : decode cX8_readWord 129 = .ok (.aload_n 0, 1) := by decide +kernel
theorem dX8_readWord_130 : decode cX8_readWord 130 = .ok (.dup, 1) := by decide +kernel
theorem dX8_readWord_131 : decode cX8_readWord 131 = .ok (.getfield 120, 3) := by decide +kernel
theorem dX8_readWord_134 : decode cX8_readWord 134 = .ok (.iconst 1, 1) := by decide +kernel
theorem dX8_readWord_135 : decode cX8_readWord 135 = .ok (.iadd, 1) := by decide +kernel
theorem dX8_readWord_136 : decode cX8_readWord 136 = .ok (.putfield 120, 3) := by decide +kernel
theorem dX8_readWord_139 : decode cX8_readWord 139 = .ok (.aload_n 0, 1) := by decide +kernel
theorem dX8_readWord_140 : decode cX8_readWord 140 = .ok (.dup, 1) := by decide +kernel
theorem dX8_readWord_141 : decode cX8_readWord 141 = .ok (.getfield 110, 3) := by decide +kernel
theorem dX8_readWord_144 : decode cX8_readWord 144 = .ok (.iconst 1, 1) := by decide +kernel
theorem dX8_readWord_145 : decode cX8_readWord 145 = .ok (.iadd, 1) := by decide +kernel
theorem dX8_readWord_146 : decode cX8_readWord 146 = .ok (.putfield 110, 3) := by decide +kernel
theorem dX8_readWord_149 : decode cX8_readWord 149 = .ok (.goto (-129), 3) := by decide +kernel
theorem dX8_readWord_152 : decode cX8_readWord 152 = .ok (.lload_n 1, 1) := by decide +kernel
theorem dX8_readWord_153 : decode cX8_readWord 153 = .ok (.lreturn, 1) := by decide +kernel
theorem dX8_readNumber_0 : decode cX8_readNumber 0 = .ok (.aload_n 0, 1) := by decide +kernel
theorem dX8_readNumber_1 : decode cX8_readNumber 1 = .ok (.invokevirtual 116, 3) := by decide +kernel
theorem dX8_readNumber_4 : decode cX8_readNumber 4 = .ok (.bipush 48, 2) := by decide +kernel
theorem dX8_readNumber_6 : decode cX8_readNumber 6 = .ok (.bipush 57, 2) := by decide +kernel
theorem dX8_readNumber_8 : decode cX8_readNumber 8 = .ok (.invokestatic 106, 3) := by decide +kernel
theorem dX8_readNumber_11 : decode cX8_readNumber 11 = .ok (.ifCond .ne 13, 3) := by decide +kernel
theorem dX8_readNumber_14 : decode cX8_readNumber 14 = .ok (.aload_n 0, 1) := by decide +kernel
theorem dX8_readNumber_15 : decode cX8_readNumber 15 = .ok (.iconst 1, 1) := by decide +kernel
theorem dX8_readNumber_16 : decode cX8_readNumber 16 = .ok (.aload_n 0, 1) := by decide +kernel
theorem dX8_readNumber_17 : decode cX8_readNumber 17 = .ok (.getfield 110, 3) := by decide +kernel
theorem dX8_readNumber_20 : decode cX8_readNumber 20 = .ok (.invokevirtual 137, 3) := by decide +kernel
theorem dX8_readNumber_23 : decode cX8_readNumber 23 = .ok (.ireturn, 1) := by decide +kernel
theorem dX8_readNumber_24 : decode cX8_readNumber 24 = .ok (.aload_n 0, 1) := by decide +kernel
theorem dX8_readNumber_25 : decode cX8_readNumber 25 = .ok (.getfield 110, 3) := by decide +kernel
theorem dX8_readNumber_28 : decode cX8_readNumber 28 = .ok (.istore_n 3, 1) := by decide +kernel
theorem dX8_readNumber_29 : decode cX8_readNumber 29 = .ok (.aload_n 0, 1) := by decide +kernel
theorem dX8_readNumber_30 : decode cX8_readNumber 30 = .ok (.iconst 0, 1) := by decide +kernel
theorem dX8_readNumber_31 : decode cX8_readNumber 31 = .ok (.putfield 140, 3) := by decide +kernel
theorem dX8_readNumber_34 : decode cX8_readNumber 34 = .ok (.aload_n 0, 1) := by decide +kernel
theorem dX8_readNumber_35 : decode cX8_readNumber 35 = .ok (.getfield 110, 3) := by decide +kernel
theorem dX8_readNumber_38 : decode cX8_readNumber 38 = .ok (.aload_n 0, 1) := by decide +kernel
theorem dX8_readNumber_39 : decode cX8_readNumber 39 = .ok (.getfield 99, 3) := by decide +kernel
theorem dX8_readNumber_42 : decode cX8_readNumber 42 = .ok (.if_icmp .ge 76, 3) := by decide +kernel
theorem dX8_readNumber_45 : decode cX8_readNumber 45 = .ok (.aload_n 0, 1) := by decide +kernel
theorem dX8_readNumber_46 : decode cX8_readNumber 46 = .ok (.getfield 67, 3) := by decide +kernel
theorem dX8_readNumber_49 : decode cX8_readNumber 49 = .ok (.aload_n 0, 1) := by decide +kernel
theorem dX8_readNumber_50 : decode cX8_readNumber 50 = .ok (.getfield 110, 3) := by decide +kernel
theorem dX8_readNumber_53 : decode cX8_readNumber 53 = .ok (.iaload, 1) := by decide +kernel
theorem dX8_readNumber_54 : decode cX8_readNumber 54 = .ok (.bipush 48, 2) := by decide +kernel
theorem dX8_readNumber_56 : decode cX8_readNumber 56 = .ok (.bipush 57, 2) := by decide +kernel
theorem dX8_readNumber_58 : decode cX8_readNumber 58 = .ok (.invokestatic 106, 3) := by decide +kernel
theorem dX8_readNumber_61 : decode cX8_readNumber 61 = .ok (.ifCond .eq 57, 3) := by decide +kernel
theorem dX8_readNumber_64 : decode cX8_readNumber 64 = .ok (.aload_n 0, 1) := by decide +kernel
theorem dX8_readNumber_65 : decode cX8_readNumber 65 = .ok (.aload_n 0, 1) := by decide +kernel
theorem dX8_readNumber_66 : decode cX8_readNumber 66 = .ok (.getfield 110, 3) := by decide +kernel
theorem dX8_readNumber_69 : decode cX8_readNumber 69 = .ok (.iload_n 3, 1) := by decide +kernel
theorem dX8_readNumber_70 : decode cX8_readNumber 70 = .ok (.isub, 1) := by decide +kernel
theorem dX8_readNumber_71 : decode cX8_readNumber 71 = .ok (.iconst 3, 1) := by decide +kernel
theorem dX8_readNumber_72 : decode cX8_readNumber 72 = .ok (.if_icmp .ge 26, 3) := by decide +kernel
theorem dX8_readNumber_75 : decode cX8_readNumber 75 = .ok (.bipush 10, 2) := by decide +kernel
theorem dX8_readNumber_77 : decode cX8_readNumber 77 = .ok (.aload_n 0, 1) := by decide +kernel
theorem dX8_readNumber_78 : decode cX8_readNumber 78 = .ok (.getfield 140, 3) := by decide +kernel
theorem dX8_readNumber_81 : decode cX8_readNumber 81 = .ok (.imul, 1) := by decide +kernel
theorem dX8_readNumber_82 : decode cX8_readNumber 82 = .ok (.aload_n 0, 1) := by decide +kernel
theorem dX8_readNumber_83 : decode cX8_readNumber 83 = .ok (.getfield 67, 3) := by decide +kernel
theorem dX8_readNumber_86 : decode cX8_readNumber 86 = .ok (.aload_n 0, 1) := by decide +kernel
theorem dX8_readNumber_87 : decode cX8_readNumber 87 = .ok (.getfield 110, 3) := by decide +kernel
theorem dX8_readNumber_90 : decode cX8_readNumber 90 = .ok (.iaload, 1) := by decide +kernel
theorem dX8_readNumber_91 : decode cX8_readNumber 91 = .ok (.iadd, 1) := by decide +kernel
theorem dX8_readNumber_92 : decode cX8_readNumber 92 = .ok (.bipush 48, 2) := by decide +kernel
theorem dX8_readNumber_94 : decode cX8_readNumber 94 = .ok (.isub, 1) := by decide +kernel
theorem dX8_readNumber_95 : decode cX8_readNumber 95 = .ok (.goto 7, 3) := by decide +kernel
theorem dX8_readNumber_98 : decode cX8_readNumber 98 = .ok (.aload_n 0, 1) := by decide +kernel
theorem dX8_readNumber_99 : decode cX8_readNumber 99 = .ok (.getfield 140, 3) := by decide +kernel
theorem dX8_readNumber_102 : decode cX8_readNumber 102 = .ok (.putfield 140, 3) := by decide +kernel
theorem dX8_readNumber_105 : decode cX8_readNumber 105 = .ok (.aload_n 0, 1) := by decide +kernel
theorem dX8_readNumber_106 : decode cX8_readNumber 106 = .ok (.dup, 1) := by decide +kernel
theorem dX8_readNumber_107 : decode cX8_readNumber 107 = .ok (.getfield 110, 3) := by decide +kernel
theorem dX8_readNumber_110 : decode cX8_readNumber 110 = .ok (.iconst 1, 1) := by decide +kernel
theorem dX8_readNumber_111 : decode cX8_readNumber 111 = .ok (.iadd, 1) := by decide +kernel
theorem dX8_readNumber_112 : decode cX8_readNumber 112 = .ok (.putfield 110, 3) := by decide +kernel
theorem dX8_readNumber_115 : decode cX8_readNumber 115 = .ok (.goto (-81), 3) := by decide +kernel
theorem dX8_readNumber_118 : decode cX8_readNumber 118 = .ok (.aload_n 0, 1) := by decide +kernel
theorem dX8_readNumber_119 : decode cX8_readNumber 119 = .ok (.getfield 110, 3) := by decide +kernel
theorem dX8_readNumber_122 : decode cX8_readNumber 122 = .ok (.iload_n 3, 1) := by decide +kernel
theorem dX8_readNumber_123 : decode cX8_readNumber 123 = .ok (.isub, 1) := by decide +kernel
theorem dX8_readNumber_124 : decode cX8_readNumber 124 = .ok (.iconst 3, 1) := by decide +kernel
theorem dX8_readNumber_125 : decode cX8_readNumber 125 = .ok (.if_icmp .le 10, 3) := by decide +kernel
theorem dX8_readNumber_128 : decode cX8_readNumber 128 = .ok (.aload_n 0, 1) := by decide +kernel
theorem dX8_readNumber_129 : decode cX8_readNumber 129 = .ok (.iconst 1, 1) := by decide +kernel
theorem dX8_readNumber_130 : decode cX8_readNumber 130 = .ok (.iload_n 3, 1) := by decide +kernel
theorem dX8_readNumber_131 : decode cX8_readNumber 131 = .ok (.invokevirtual 137, 3) := by decide +kernel
theorem dX8_readNumber_134 : decode cX8_readNumber 134 = .ok (.ireturn, 1) := by decide +kernel
theorem dX8_readNumber_135 : decode cX8_readNumber 135 = .ok (.aload_n 0, 1) := by decide +kernel
theorem dX8_readNumber_136 : decode cX8_readNumber 136 = .ok (.getfield 140, 3) := by decide +kernel
theorem dX8_readNumber_139 : decode cX8_readNumber 139 = .ok (.iload_n 1, 1) := by decide +kernel
theorem dX8_readNumber_140 : decode cX8_readNumber 140 = .ok (.iload_n 2, 1) := by decide +kernel
theorem dX8_readNumber_141 : decode cX8_readNumber 141 = .ok (.invokestatic 106, 3) := by decide +kernel
theorem dX8_readNumber_144 : decode cX8_readNumber 144 = .ok (.ifCond .ne 12, 3) := by decide +kernel
theorem dX8_readNumber_147 : decode cX8_readNumber 147 = .ok (.aload_n 0, 1) := by decide +kernel
theorem dX8_readNumber_148 : decode cX8_readNumber 148 = .ok (.iconst 2, 1) := by decide +kernel
theorem dX8_readNumber_149 : decode cX8_readNumber 149 = .ok (.iload_n 3, 1) := by decide +kernel
theorem dX8_readNumber_150 : decode cX8_readNumber 150 = .ok (.invokevirtual 137, 3) := by decide +kernel
theorem dX8_readNumber_153 : decode cX8_readNumber 153 = .ok (.ifCond .eq 7, 3) := by decide +kernel
theorem dX8_readNumber_156 : decode cX8_readNumber 156 = .ok (.iconst 1, 1) := by decide +kernel
theorem dX8_readNumber_157 : decode cX8_readNumber 157 = .ok (.goto 4, 3) := by decide +kernel
theorem dX8_readNumber_160 : decode cX8_readNumber 160 = .ok (.iconst 0, 1) := by decide +kernel
theorem dX8_readNumber_161 : decode cX8_readNumber 161 = .ok (.ireturn, 1) := by decide +kernel
theorem dX8_readSet_0 : decode cX8_readSet 0 = .ok (.aload_n 0, 1) := by decide +kernel
theorem dX8_readSet_1 : decode cX8_readSet 1 = .ok (.invokevirtual 143, 3) := by decide +kernel
theorem dX8_readSet_4 : decode cX8_readSet 4 = .ok (.ifCond .ne 13, 3) := by decide +kernel
theorem dX8_readSet_7 : decode cX8_readSet 7 = .ok (.aload_n 0, 1) := by decide +kernel
theorem dX8_readSet_8 : decode cX8_readSet 8 = .ok (.iconst 1, 1) := by decide +kernel
theorem dX8_readSet_9 : decode cX8_readSet 9 = .ok (.aload_n 0, 1) := by decide +kernel
theorem dX8_readSet_10 : decode cX8_readSet 10 = .ok (.getfield 110, 3) := by decide +kernel
theorem dX8_readSet_13 : decode cX8_readSet 13 = .ok (.invokevirtual 137, 3) := by decide +kernel
theorem dX8_readSet_16 : decode cX8_readSet 16 = .ok (.ireturn, 1) := by decide +kernel
theorem dX8_readSet_17 : decode cX8_readSet 17 = .ok (.aload_n 0, 1) := by decide +kernel
theorem dX8_readSet_18 : decode cX8_readSet 18 = .ok (.invokevirtual 147, 3) := by decide +kernel
theorem dX8_readSet_21 : decode cX8_readSet 21 = .ok (.pop2, 1) := by decide +kernel
theorem dX8_readSet_22 : decode cX8_readSet 22 = .ok (.aload_n 0, 1) := by decide +kernel
theorem dX8_readSet_23 : decode cX8_readSet 23 = .ok (.getfield 123, 3) := by decide +kernel
theorem dX8_readSet_26 : decode cX8_readSet 26 = .ok (.ifCond .lt 11, 3) := by decide +kernel
theorem dX8_readSet_29 : decode cX8_readSet 29 = .ok (.aload_n 0, 1) := by decide +kernel
theorem dX8_readSet_30 : decode cX8_readSet 30 = .ok (.getfield 120, 3) := by decide +kernel
theorem dX8_readSet_33 : decode cX8_readSet 33 = .ok (.iload_n 1, 1) := by decide +kernel
theorem dX8_readSet_34 : decode cX8_readSet 34 = .ok (.if_icmp .ge 15, 3) := by decide +kernel
theorem dX8_readSet_37 : decode cX8_readSet 37 = .ok (.aload_n 0, 1) := by decide +kernel
theorem dX8_readSet_38 : decode cX8_readSet 38 = .ok (.iconst 1, 1) := by decide +kernel
theorem dX8_readSet_39 : decode cX8_readSet 39 = .ok (.aload_n 0, 1) := by decide +kernel
theorem dX8_readSet_40 : decode cX8_readSet 40 = .ok (.getfield 126, 3) := by decide +kernel
theorem dX8_readSet_43 : decode cX8_readSet 43 = .ok (.invokevirtual 137, 3) := by decide +kernel
theorem dX8_readSet_46 : decode cX8_readSet 46 = .ok (.ifCond .eq 7, 3) := by decide +kernel
theorem dX8_readSet_49 : decode cX8_readSet 49 = .ok (.iconst 1, 1) := by decide +kernel
theorem dX8_readSet_50 : decode cX8_readSet 50 = .ok (.goto 4, 3) := by decide +kernel
theorem dX8_readSet_53 : decode cX8_readSet 53 = .ok (.iconst 0, 1) := by decide +kernel
theorem dX8_readSet_54 : decode cX8_readSet 54 = .ok (.ireturn, 1) := by decide +kernel
theorem dX8_readWeight_0 : decode cX8_readWeight 0 = .ok (.aload_n 0, 1) := by decide +kernel
theorem dX8_readWeight_1 : decode cX8_readWeight 1 = .ok (.invokevirtual 116, 3) := by decide +kernel
theorem dX8_readWeight_4 : decode cX8_readWeight 4 = .ok (.bipush 45, 2) := by decide +kernel
theorem dX8_readWeight_6 : decode cX8_readWeight 6 = .ok (.if_icmp .ne 7, 3) := by decide +kernel
theorem dX8_readWeight_9 : decode cX8_readWeight 9 = .ok (.iconst 1, 1) := by decide +kernel
theorem dX8_readWeight_10 : decode cX8_readWeight 10 = .ok (.goto 4, 3) := by decide +kernel
theorem dX8_readWeight_13 : decode cX8_readWeight 13 = .ok (.iconst 0, 1) := by decide +kernel
theorem dX8_readWeight_14 : decode cX8_readWeight 14 = .ok (.istore_n 1, 1) := by decide +kernel
theorem dX8_readWeight_15 : decode cX8_readWeight 15 = .ok (.aload_n 0, 1) := by decide +kernel
theorem dX8_readWeight_16 : decode cX8_readWeight 16 = .ok (.dup, 1) := by decide +kernel
theorem dX8_readWeight_17 : decode cX8_readWeight 17 = .ok (.getfield 110, 3) := by decide +kernel
theorem dX8_readWeight_20 : decode cX8_readWeight 20 = .ok (.iload_n 1, 1) := by decide +kernel
theorem dX8_readWeight_21 : decode cX8_readWeight 21 = .ok (.ifCond .eq 7, 3) := by decide +kernel
theorem dX8_readWeight_24 : decode cX8_readWeight 24 = .ok (.iconst 1, 1) := by decide +kernel
theorem dX8_readWeight_25 : decode cX8_readWeight 25 = .ok (.goto 4, 3) := by decide +kernel
theorem dX8_readWeight_28 : decode cX8_readWeight 28 = .ok (.iconst 0, 1) := by decide +kernel
theorem dX8_readWeight_29 : decode cX8_readWeight 29 = .ok (.iadd, 1) := by decide +kernel
theorem dX8_readWeight_30 : decode cX8_readWeight 30 = .ok (.putfield 110, 3) := by decide +kernel
theorem dX8_readWeight_33 : decode cX8_readWeight 33 = .ok (.aload_n 0, 1) := by decide +kernel
theorem dX8_readWeight_34 : decode cX8_readWeight 34 = .ok (.iconst 0, 1) := by decide +kernel
theorem dX8_readWeight_35 : decode cX8_readWeight 35 = .ok (.bipush 9, 2) := by decide +kernel
theorem dX8_readWeight_37 : decode cX8_readWeight 37 = .ok (.invokevirtual 151, 3) := by decide +kernel
theorem dX8_readWeight_40 : decode cX8_readWeight 40 = .ok (.ifCond .ne 5, 3) := by decide +kernel
theorem dX8_readWeight_43 : decode cX8_readWeight 43 = .ok (.iconst 0, 1) := by decide +kernel
theorem dX8_readWeight_44 : decode cX8_readWeight 44 = .ok (.ireturn, 1) := by decide +kernel
theorem dX8_readWeight_45 : decode cX8_readWeight 45 = .ok (.aload_n 0, 1) := by decide +kernel
theorem dX8_readWeight_46 : decode cX8_readWeight 46 = .ok (.iload_n 1, 1) := by decide +kernel
theorem dX8_readWeight_47 : decode cX8_readWeight 47 = .ok (.ifCond .eq 11, 3) := by decide +kernel
theorem dX8_readWeight_50 : decode cX8_readWeight 50 = .ok (.aload_n 0, 1) := by decide +kernel
theorem dX8_readWeight_51 : decode cX8_readWeight 51 = .ok (.getfield 140, 3) := by decide +kernel
theorem dX8_readWeight_54 : decode cX8_readWeight 54 = .ok (.ineg, 1) := by decide +kernel
theorem dX8_readWeight_55 : decode cX8_readWeight 55 = .ok (.goto 7, 3) := by decide +kernel
theorem dX8_readWeight_58 : decode cX8_readWeight 58 = .ok (.aload_n 0, 1) := by decide +kernel
theorem dX8_readWeight_59 : decode cX8_readWeight 59 = .ok (.getfield 140, 3) := by decide +kernel
theorem dX8_readWeight_62 : decode cX8_readWeight 62 = .ok (.putfield 140, 3) := by decide +kernel
theorem dX8_readWeight_65 : decode cX8_readWeight 65 = .ok (.iconst 1, 1) := by decide +kernel
theorem dX8_readWeight_66 : decode cX8_readWeight 66 = .ok (.ireturn, 1) := by decide +kernel
theorem dX8_readBill_0 : decode cX8_readBill 0 = .ok (.aload_n 0, 1) := by decide +kernel
theorem dX8_readBill_1 : decode cX8_readBill 1 = .ok (.getfield 154, 3) := by decide +kernel
theorem dX8_readBill_4 : decode cX8_readBill 4 = .ok (.ifCond .eq 10, 3) := by decide +kernel
theorem dX8_readBill_7 : decode cX8_readBill 7 = .ok (.aload_n 0, 1) := by decide +kernel
theorem dX8_readBill_8 : decode cX8_readBill 8 = .ok (.iconst 3, 1) := by decide +kernel
theorem dX8_readBill_9 : decode cX8_readBill 9 = .ok (.iload_n 1, 1) := by decide +kernel
theorem dX8_readBill_10 : decode cX8_readBill 10 = .ok (.invokevirtual 137, 3) := by decide +kernel
theorem dX8_readBill_13 : decode cX8_readBill 13 = .ok (.ireturn, 1) := by decide +kernel
theorem dX8_readBill_14 : decode cX8_readBill 14 = .ok (.aload_n 0, 1) := by decide +kernel
theorem dX8_readBill_15 : decode cX8_readBill 15 = .ok (.iconst 1, 1) := by decide +kernel
theorem dX8_readBill_16 : decode cX8_readBill 16 = .ok (.invokevirtual 158, 3) := by decide +kernel
theorem dX8_readBill_19 : decode cX8_readBill 19 = .ok (.ifCond .ne 5, 3) := by decide +kernel
theorem dX8_readBill_22 : decode cX8_readBill 22 = .ok (.iconst 0, 1) := by decide +kernel
theorem dX8_readBill_23 : decode cX8_readBill 23 = .ok (.ireturn, 1) := by decide +kernel
theorem dX8_readBill_24 : decode cX8_readBill 24 = .ok (.aload_n 0, 1) := by decide +kernel
theorem dX8_readBill_25 : decode cX8_readBill 25 = .ok (.iconst 1, 1) := by decide +kernel
theorem dX8_readBill_26 : decode cX8_readBill 26 = .ok (.putfield 154, 3) := by decide +kernel
theorem dX8_readBill_29 : decode cX8_readBill 29 = .ok (.aload_n 0, 1) := by decide +kernel
theorem dX8_readBill_30 : decode cX8_readBill 30 = .ok (.getfield 13, 3) := by decide +kernel
theorem dX8_readBill_33 : decode cX8_readBill 33 = .ok (.iconst 0, 1) := by decide +kernel
theorem dX8_readBill_34 : decode cX8_readBill 34 = .ok (.aload_n 0, 1) := by decide +kernel
theorem dX8_readBill_35 : decode cX8_readBill 35 = .ok (.getfield 123, 3) := by decide +kernel
theorem dX8_readBill_38 : decode cX8_readBill 38 = .ok (.iastore, 1) := by decide +kernel
theorem dX8_readBill_39 : decode cX8_readBill 39 = .ok (.iconst 1, 1) := by decide +kernel
theorem dX8_readBill_40 : decode cX8_readBill 40 = .ok (.ireturn, 1) := by decide +kernel
theorem dX8_comes_0 : decode cX8_comes 0 = .ok (.aload_n 0, 1) := by decide +kernel
theorem dX8_comes_1 : decode cX8_comes 1 = .ok (.getfield 13, 3) := by decide +kernel
theorem dX8_comes_4 : decode cX8_comes 4 = .ok (.iconst 1, 1) := by decide +kernel
theorem dX8_comes_5 : decode cX8_comes 5 = .ok (.iaload, 1) := by decide +kernel
theorem dX8_comes_6 : decode cX8_comes 6 = .ok (.istore 5, 2) := by decide +kernel
theorem dX8_comes_8 : decode cX8_comes 8 = .ok (.aload_n 0, 1) := by decide +kernel
theorem dX8_comes_9 : decode cX8_comes 9 = .ok (.getfield 28, 3) := by decide +kernel
theorem dX8_comes_12 : decode cX8_comes 12 = .ok (.iload 5, 2) := by decide +kernel
theorem dX8_comes_14 : decode cX8_comes 14 = .ok (.iload_n 1, 1) := by decide +kernel
theorem dX8_comes_15 : decode cX8_comes 15 = .ok (.iastore, 1) := by decide +kernel
theorem dX8_comes_16 : decode cX8_comes 16 = .ok (.aload_n 0, 1) := by decide +kernel
theorem dX8_comes_17 : decode cX8_comes 17 = .ok (.getfield 31, 3) := by decide +kernel
end
section
theorem dX8_comes_20 : decode cX8_comes 20 = .ok (.iload 5, 2) := by decide +kernel
theorem dX8_comes_22 : decode cX8_comes 22 = .ok (.iload_n 2, 1) := by decide +kernel
theorem dX8_comes_23 : decode cX8_comes 23 = .ok (.iastore, 1) := by decide +kernel
theorem dX8_comes_24 : decode cX8_comes 24 = .ok (.aload_n 0, 1) := by decide +kernel
theorem dX8_comes_25 : decode cX8_comes 25 = .ok (.getfield 34, 3) := by decide +kernel
theorem dX8_comes_28 : decode cX8_comes 28 = .ok (.iload 5, 2) := by decide +kernel
theorem dX8_comes_30 : decode cX8_comes 30 = .ok (.iload_n 3, 1) := by decide +kernel
theorem dX8_comes_31 : decode cX8_comes 31 = .ok (.iastore, 1) := by decide +kernel
theorem dX8_comes_32 : decode cX8_comes 32 = .ok (.aload_n 0, 1) := by decide +kernel
theorem dX8_comes_33 : decode cX8_comes 33 = .ok (.getfield 37, 3) := by decide +kernel
theorem dX8_comes_36 : decode cX8_comes 36 = .ok (.iload 5, 2) := by decide +kernel
theorem dX8_comes_38 : decode cX8_comes 38 = .ok (.iload 4, 2) := by decide +kernel
theorem dX8_comes_40 : decode cX8_comes 40 = .ok (.iastore, 1) := by decide +kernel
theorem dX8_comes_41 : decode cX8_comes 41 = .ok (.aload_n 0, 1) := by decide +kernel
theorem dX8_comes_42 : decode cX8_comes 42 = .ok (.getfield 13, 3) := by decide +kernel
theorem dX8_comes_45 : decode cX8_comes 45 = .ok (.iconst 1, 1) := by decide +kernel
theorem dX8_comes_46 : decode cX8_comes 46 = .ok (.dup2, 1) := by decide +kernel
theorem dX8_comes_47 : decode cX8_comes 47 = .ok (.iaload, 1) := by decide +kernel
theorem dX8_comes_48 : decode cX8_comes 48 = .ok (.iconst 1, 1) := by decide +kernel
theorem dX8_comes_49 : decode cX8_comes 49 = .ok (.iadd, 1) := by decide +kernel
theorem dX8_comes_50 : decode cX8_comes 50 = .ok (.iastore, 1) := by decide +kernel
theorem dX8_comes_51 : decode cX8_comes 51 = .ok (.return_, 1) := by decide +kernel
theorem dX8_readSub_0 : decode cX8_readSub 0 = .ok (.aload_n 0, 1) := by decide +kernel
theorem dX8_readSub_1 : decode cX8_readSub 1 = .ok (.getfield 13, 3) := by decide +kernel
theorem dX8_readSub_4 : decode cX8_readSub 4 = .ok (.iconst 2, 1) := by decide +kernel
theorem dX8_readSub_5 : decode cX8_readSub 5 = .ok (.iaload, 1) := by decide +kernel
theorem dX8_readSub_6 : decode cX8_readSub 6 = .ok (.iconst (-1), 1) := by decide +kernel
theorem dX8_readSub_7 : decode cX8_readSub 7 = .ok (.if_icmp .eq 10, 3) := by decide +kernel
theorem dX8_readSub_10 : decode cX8_readSub 10 = .ok (.aload_n 0, 1) := by decide +kernel
theorem dX8_readSub_11 : decode cX8_readSub 11 = .ok (.iconst 3, 1) := by decide +kernel
theorem dX8_readSub_12 : decode cX8_readSub 12 = .ok (.iload_n 1, 1) := by decide +kernel
theorem dX8_readSub_13 : decode cX8_readSub 13 = .ok (.invokevirtual 137, 3) := by decide +kernel
theorem dX8_readSub_16 : decode cX8_readSub 16 = .ok (.ireturn, 1) := by decide +kernel
theorem dX8_readSub_17 : decode cX8_readSub 17 = .ok (.aload_n 0, 1) := by decide +kernel
theorem dX8_readSub_18 : decode cX8_readSub 18 = .ok (.getfield 13, 3) := by decide +kernel
theorem dX8_readSub_21 : decode cX8_readSub 21 = .ok (.iconst 1, 1) := by decide +kernel
theorem dX8_readSub_22 : decode cX8_readSub 22 = .ok (.iaload, 1) := by decide +kernel
theorem dX8_readSub_23 : decode cX8_readSub 23 = .ok (.bipush 6, 2) := by decide +kernel
theorem dX8_readSub_25 : decode cX8_readSub 25 = .ok (.if_icmp .ne 10, 3) := by decide +kernel
theorem dX8_readSub_28 : decode cX8_readSub 28 = .ok (.aload_n 0, 1) := by decide +kernel
theorem dX8_readSub_29 : decode cX8_readSub 29 = .ok (.iconst 4, 1) := by decide +kernel
theorem dX8_readSub_30 : decode cX8_readSub 30 = .ok (.iload_n 1, 1) := by decide +kernel
theorem dX8_readSub_31 : decode cX8_readSub 31 = .ok (.invokevirtual 137, 3) := by decide +kernel
theorem dX8_readSub_34 : decode cX8_readSub 34 = .ok (.ireturn, 1) := by decide +kernel
theorem dX8_readSub_35 : decode cX8_readSub 35 = .ok (.aload_n 0, 1) := by decide +kernel
theorem dX8_readSub_36 : decode cX8_readSub 36 = .ok (.iconst 1, 1) := by decide +kernel
theorem dX8_readSub_37 : decode cX8_readSub 37 = .ok (.invokevirtual 158, 3) := by decide +kernel
theorem dX8_readSub_40 : decode cX8_readSub 40 = .ok (.ifCond .ne 5, 3) := by decide +kernel
theorem dX8_readSub_43 : decode cX8_readSub 43 = .ok (.iconst 0, 1) := by decide +kernel
theorem dX8_readSub_44 : decode cX8_readSub 44 = .ok (.ireturn, 1) := by decide +kernel
theorem dX8_readSub_45 : decode cX8_readSub 45 = .ok (.aload_n 0, 1) := by decide +kernel
theorem dX8_readSub_46 : decode cX8_readSub 46 = .ok (.getfield 13, 3) := by decide +kernel
theorem dX8_readSub_49 : decode cX8_readSub 49 = .ok (.iconst 2, 1) := by decide +kernel
theorem dX8_readSub_50 : decode cX8_readSub 50 = .ok (.aload_n 0, 1) := by decide +kernel
theorem dX8_readSub_51 : decode cX8_readSub 51 = .ok (.getfield 13, 3) := by decide +kernel
theorem dX8_readSub_54 : decode cX8_readSub 54 = .ok (.iconst 1, 1) := by decide +kernel
theorem dX8_readSub_55 : decode cX8_readSub 55 = .ok (.iaload, 1) := by decide +kernel
theorem dX8_readSub_56 : decode cX8_readSub 56 = .ok (.iastore, 1) := by decide +kernel
theorem dX8_readSub_57 : decode cX8_readSub 57 = .ok (.aload_n 0, 1) := by decide +kernel
theorem dX8_readSub_58 : decode cX8_readSub 58 = .ok (.iconst 1, 1) := by decide +kernel
theorem dX8_readSub_59 : decode cX8_readSub 59 = .ok (.iconst (-1), 1) := by decide +kernel
theorem dX8_readSub_60 : decode cX8_readSub 60 = .ok (.aload_n 0, 1) := by decide +kernel
theorem dX8_readSub_61 : decode cX8_readSub 61 = .ok (.getfield 123, 3) := by decide +kernel
theorem dX8_readSub_64 : decode cX8_readSub 64 = .ok (.iconst 0, 1) := by decide +kernel
theorem dX8_readSub_65 : decode cX8_readSub 65 = .ok (.invokevirtual 162, 3) := by decide +kernel
theorem dX8_readSub_68 : decode cX8_readSub 68 = .ok (.iconst 1, 1) := by decide +kernel
theorem dX8_readSub_69 : decode cX8_readSub 69 = .ok (.ireturn, 1) := by decide +kernel
theorem dX8_readOf_0 : decode cX8_readOf 0 = .ok (.aload_n 0, 1) := by decide +kernel
theorem dX8_readOf_1 : decode cX8_readOf 1 = .ok (.iconst (-1), 1) := by decide +kernel
theorem dX8_readOf_2 : decode cX8_readOf 2 = .ok (.putfield 166, 3) := by decide +kernel
theorem dX8_readOf_5 : decode cX8_readOf 5 = .ok (.aload_n 0, 1) := by decide +kernel
theorem dX8_readOf_6 : decode cX8_readOf 6 = .ok (.invokevirtual 143, 3) := by decide +kernel
theorem dX8_readOf_9 : decode cX8_readOf 9 = .ok (.ifCond .eq 76, 3) := by decide +kernel
theorem dX8_readOf_12 : decode cX8_readOf 12 = .ok (.aload_n 0, 1) := by decide +kernel
theorem dX8_readOf_13 : decode cX8_readOf 13 = .ok (.invokevirtual 147, 3) := by decide +kernel
theorem dX8_readOf_16 : decode cX8_readOf 16 = .ok (.lstore_n 1, 1) := by decide +kernel
theorem dX8_readOf_17 : decode cX8_readOf 17 = .ok (.lload_n 1, 1) := by decide +kernel
theorem dX8_readOf_18 : decode cX8_readOf 18 = .ok (.ldc2_w 169, 3) := by decide +kernel
theorem dX8_readOf_21 : decode cX8_readOf 21 = .ok (.lcmp, 1) := by decide +kernel
theorem dX8_readOf_22 : decode cX8_readOf 22 = .ok (.ifCond .ne 10, 3) := by decide +kernel
theorem dX8_readOf_25 : decode cX8_readOf 25 = .ok (.aload_n 0, 1) := by decide +kernel
theorem dX8_readOf_26 : decode cX8_readOf 26 = .ok (.iconst 0, 1) := by decide +kernel
theorem dX8_readOf_27 : decode cX8_readOf 27 = .ok (.putfield 171, 3) := by decide +kernel
theorem dX8_readOf_30 : decode cX8_readOf 30 = .ok (.iconst 1, 1) := by decide +kernel
theorem dX8_readOf_31 : decode cX8_readOf 31 = .ok (.ireturn, 1) := by decide +kernel
theorem dX8_readOf_32 : decode cX8_readOf 32 = .ok (.aload_n 0, 1) := by decide +kernel
theorem dX8_readOf_33 : decode cX8_readOf 33 = .ok (.iconst 2, 1) := by decide +kernel
theorem dX8_readOf_34 : decode cX8_readOf 34 = .ok (.putfield 171, 3) := by decide +kernel
theorem dX8_readOf_37 : decode cX8_readOf 37 = .ok (.lload_n 1, 1) := by decide +kernel
theorem dX8_readOf_38 : decode cX8_readOf 38 = .ok (.ldc2_w 174, 3) := by decide +kernel
theorem dX8_readOf_41 : decode cX8_readOf 41 = .ok (.lcmp, 1) := by decide +kernel
theorem dX8_readOf_42 : decode cX8_readOf 42 = .ok (.ifCond .ne 33, 3) := by decide +kernel
theorem dX8_readOf_45 : decode cX8_readOf 45 = .ok (.aload_n 0, 1) := by decide +kernel
theorem dX8_readOf_46 : decode cX8_readOf 46 = .ok (.getfield 13, 3) := by decide +kernel
theorem dX8_readOf_49 : decode cX8_readOf 49 = .ok (.iconst 2, 1) := by decide +kernel
theorem dX8_readOf_50 : decode cX8_readOf 50 = .ok (.iaload, 1) := by decide +kernel
theorem dX8_readOf_51 : decode cX8_readOf 51 = .ok (.iconst (-1), 1) := by decide +kernel
theorem dX8_readOf_52 : decode cX8_readOf 52 = .ok (.if_icmp .ne 15, 3) := by decide +kernel
theorem dX8_readOf_55 : decode cX8_readOf 55 = .ok (.aload_n 0, 1) := by decide +kernel
theorem dX8_readOf_56 : decode cX8_readOf 56 = .ok (.iconst 3, 1) := by decide +kernel
theorem dX8_readOf_57 : decode cX8_readOf 57 = .ok (.aload_n 0, 1) := by decide +kernel
theorem dX8_readOf_58 : decode cX8_readOf 58 = .ok (.getfield 126, 3) := by decide +kernel
theorem dX8_readOf_61 : decode cX8_readOf 61 = .ok (.invokevirtual 137, 3) := by decide +kernel
theorem dX8_readOf_64 : decode cX8_readOf 64 = .ok (.ifCond .eq 7, 3) := by decide +kernel
theorem dX8_readOf_67 : decode cX8_readOf 67 = .ok (.iconst 1, 1) := by decide +kernel
theorem dX8_readOf_68 : decode cX8_readOf 68 = .ok (.goto 16, 3) := by decide +kernel
theorem dX8_readOf_71 : decode cX8_readOf 71 = .ok (.iconst 0, 1) := by decide +kernel
theorem dX8_readOf_72 : decode cX8_readOf 72 = .ok (.goto 12, 3) := by decide +kernel
theorem dX8_readOf_75 : decode cX8_readOf 75 = .ok (.aload_n 0, 1) := by decide +kernel
theorem dX8_readOf_76 : decode cX8_readOf 76 = .ok (.iconst 1, 1) := by decide +kernel
theorem dX8_readOf_77 : decode cX8_readOf 77 = .ok (.aload_n 0, 1) := by decide +kernel
theorem dX8_readOf_78 : decode cX8_readOf 78 = .ok (.getfield 126, 3) := by decide +kernel
theorem dX8_readOf_81 : decode cX8_readOf 81 = .ok (.invokevirtual 137, 3) := by decide +kernel
theorem dX8_readOf_84 : decode cX8_readOf 84 = .ok (.ireturn, 1) := by decide +kernel
theorem dX8_readOf_85 : decode cX8_readOf 85 = .ok (.aload_n 0, 1) := by decide +kernel
theorem dX8_readOf_86 : decode cX8_readOf 86 = .ok (.getfield 110, 3) := by decide +kernel
theorem dX8_readOf_89 : decode cX8_readOf 89 = .ok (.istore_n 1, 1) := by decide +kernel
theorem dX8_readOf_90 : decode cX8_readOf 90 = .ok (.aload_n 0, 1) := by decide +kernel
theorem dX8_readOf_91 : decode cX8_readOf 91 = .ok (.iconst 0, 1) := by decide +kernel
theorem dX8_readOf_92 : decode cX8_readOf 92 = .ok (.aload_n 0, 1) := by decide +kernel
theorem dX8_readOf_93 : decode cX8_readOf 93 = .ok (.getfield 13, 3) := by decide +kernel
theorem dX8_readOf_96 : decode cX8_readOf 96 = .ok (.iconst 1, 1) := by decide +kernel
theorem dX8_readOf_97 : decode cX8_readOf 97 = .ok (.iaload, 1) := by decide +kernel
theorem dX8_readOf_98 : decode cX8_readOf 98 = .ok (.iconst 1, 1) := by decide +kernel
theorem dX8_readOf_99 : decode cX8_readOf 99 = .ok (.isub, 1) := by decide +kernel
theorem dX8_readOf_100 : decode cX8_readOf 100 = .ok (.invokevirtual 151, 3) := by decide +kernel
theorem dX8_readOf_103 : decode cX8_readOf 103 = .ok (.ifCond .ne 5, 3) := by decide +kernel
theorem dX8_readOf_106 : decode cX8_readOf 106 = .ok (.iconst 0, 1) := by decide +kernel
theorem dX8_readOf_107 : decode cX8_readOf 107 = .ok (.ireturn, 1) := by decide +kernel
theorem dX8_readOf_108 : decode cX8_readOf 108 = .ok (.aload_n 0, 1) := by decide +kernel
theorem dX8_readOf_109 : decode cX8_readOf 109 = .ok (.iconst 3, 1) := by decide +kernel
theorem dX8_readOf_110 : decode cX8_readOf 110 = .ok (.putfield 171, 3) := by decide +kernel
theorem dX8_readOf_113 : decode cX8_readOf 113 = .ok (.aload_n 0, 1) := by decide +kernel
theorem dX8_readOf_114 : decode cX8_readOf 114 = .ok (.aload_n 0, 1) := by decide +kernel
theorem dX8_readOf_115 : decode cX8_readOf 115 = .ok (.getfield 140, 3) := by decide +kernel
theorem dX8_readOf_118 : decode cX8_readOf 118 = .ok (.putfield 166, 3) := by decide +kernel
theorem dX8_readOf_121 : decode cX8_readOf 121 = .ok (.aload_n 0, 1) := by decide +kernel
theorem dX8_readOf_122 : decode cX8_readOf 122 = .ok (.getfield 28, 3) := by decide +kernel
theorem dX8_readOf_125 : decode cX8_readOf 125 = .ok (.aload_n 0, 1) := by decide +kernel
theorem dX8_readOf_126 : decode cX8_readOf 126 = .ok (.getfield 140, 3) := by decide +kernel
theorem dX8_readOf_129 : decode cX8_readOf 129 = .ok (.iaload, 1) := by decide +kernel
theorem dX8_readOf_130 : decode cX8_readOf 130 = .ok (.ifCond .eq 25, 3) := by decide +kernel
theorem dX8_readOf_133 : decode cX8_readOf 133 = .ok (.aload_n 0, 1) := by decide +kernel
theorem dX8_readOf_134 : decode cX8_readOf 134 = .ok (.getfield 28, 3) := by decide +kernel
theorem dX8_readOf_137 : decode cX8_readOf 137 = .ok (.aload_n 0, 1) := by decide +kernel
theorem dX8_readOf_138 : decode cX8_readOf 138 = .ok (.getfield 140, 3) := by decide +kernel
theorem dX8_readOf_141 : decode cX8_readOf 141 = .ok (.iaload, 1) := by decide +kernel
theorem dX8_readOf_142 : decode cX8_readOf 142 = .ok (.iconst 2, 1) := by decide +kernel
theorem dX8_readOf_143 : decode cX8_readOf 143 = .ok (.if_icmp .eq 12, 3) := by decide +kernel
theorem dX8_readOf_146 : decode cX8_readOf 146 = .ok (.aload_n 0, 1) := by decide +kernel
theorem dX8_readOf_147 : decode cX8_readOf 147 = .ok (.iconst 2, 1) := by decide +kernel
theorem dX8_readOf_148 : decode cX8_readOf 148 = .ok (.iload_n 1, 1) := by decide +kernel
theorem dX8_readOf_149 : decode cX8_readOf 149 = .ok (.invokevirtual 137, 3) := by decide +kernel
theorem dX8_readOf_152 : decode cX8_readOf 152 = .ok (.ifCond .eq 7, 3) := by decide +kernel
theorem dX8_readOf_155 : decode cX8_readOf 155 = .ok (.iconst 1, 1) := by decide +kernel
theorem dX8_readOf_156 : decode cX8_readOf 156 = .ok (.goto 4, 3) := by decide +kernel
theorem dX8_readOf_159 : decode cX8_readOf 159 = .ok (.iconst 0, 1) := by decide +kernel
theorem dX8_readOf_160 : decode cX8_readOf 160 = .ok (.ireturn, 1) := by decide +kernel
theorem dX8_readAmend_0 : decode cX8_readAmend 0 = .ok (.aload_n 0, 1) := by decide +kernel
theorem dX8_readAmend_1 : decode cX8_readAmend 1 = .ok (.getfield 13, 3) := by decide +kernel
theorem dX8_readAmend_4 : decode cX8_readAmend 4 = .ok (.iconst 1, 1) := by decide +kernel
theorem dX8_readAmend_5 : decode cX8_readAmend 5 = .ok (.iaload, 1) := by decide +kernel
theorem dX8_readAmend_6 : decode cX8_readAmend 6 = .ok (.bipush 6, 2) := by decide +kernel
theorem dX8_readAmend_8 : decode cX8_readAmend 8 = .ok (.if_icmp .ne 10, 3) := by decide +kernel
theorem dX8_readAmend_11 : decode cX8_readAmend 11 = .ok (.aload_n 0, 1) := by decide +kernel
theorem dX8_readAmend_12 : decode cX8_readAmend 12 = .ok (.iconst 4, 1) := by decide +kernel
theorem dX8_readAmend_13 : decode cX8_readAmend 13 = .ok (.iload_n 1, 1) := by decide +kernel
theorem dX8_readAmend_14 : decode cX8_readAmend 14 = .ok (.invokevirtual 137, 3) := by decide +kernel
theorem dX8_readAmend_17 : decode cX8_readAmend 17 = .ok (.ireturn, 1) := by decide +kernel
theorem dX8_readAmend_18 : decode cX8_readAmend 18 = .ok (.aload_n 0, 1) := by decide +kernel
theorem dX8_readAmend_19 : decode cX8_readAmend 19 = .ok (.invokevirtual 176, 3) := by decide +kernel
theorem dX8_readAmend_22 : decode cX8_readAmend 22 = .ok (.ifCond .ne 5, 3) := by decide +kernel
theorem dX8_readAmend_25 : decode cX8_readAmend 25 = .ok (.iconst 0, 1) := by decide +kernel
theorem dX8_readAmend_26 : decode cX8_readAmend 26 = .ok (.ireturn, 1) := by decide +kernel
theorem dX8_readAmend_27 : decode cX8_readAmend 27 = .ok (.iconst 0, 1) := by decide +kernel
theorem dX8_readAmend_28 : decode cX8_readAmend 28 = .ok (.istore_n 2, 1) := by decide +kernel
theorem dX8_readAmend_29 : decode cX8_readAmend 29 = .ok (.iconst 0, 1) := by decide +kernel
theorem dX8_readAmend_30 : decode cX8_readAmend 30 = .ok (.istore_n 3, 1) := by decide +kernel
theorem dX8_readAmend_31 : decode cX8_readAmend 31 = .ok (.iconst 0, 1) := by decide +kernel
theorem dX8_readAmend_32 : decode cX8_readAmend 32 = .ok (.istore 4, 2) := by decide +kernel
theorem dX8_readAmend_34 : decode cX8_readAmend 34 = .ok (.aload_n 0, 1) := by decide +kernel
theorem dX8_readAmend_35 : decode cX8_readAmend 35 = .ok (.invokevirtual 116, 3) := by decide +kernel
theorem dX8_readAmend_38 : decode cX8_readAmend 38 = .ok (.bipush 43, 2) := by decide +kernel
theorem dX8_readAmend_40 : decode cX8_readAmend 40 = .ok (.if_icmp .ne 31, 3) := by decide +kernel
theorem dX8_readAmend_43 : decode cX8_readAmend 43 = .ok (.aload_n 0, 1) := by decide +kernel
theorem dX8_readAmend_44 : decode cX8_readAmend 44 = .ok (.dup, 1) := by decide +kernel
theorem dX8_readAmend_45 : decode cX8_readAmend 45 = .ok (.getfield 110, 3) := by decide +kernel
theorem dX8_readAmend_48 : decode cX8_readAmend 48 = .ok (.iconst 1, 1) := by decide +kernel
theorem dX8_readAmend_49 : decode cX8_readAmend 49 = .ok (.iadd, 1) := by decide +kernel
theorem dX8_readAmend_50 : decode cX8_readAmend 50 = .ok (.putfield 110, 3) := by decide +kernel
theorem dX8_readAmend_53 : decode cX8_readAmend 53 = .ok (.aload_n 0, 1) := by decide +kernel
theorem dX8_readAmend_54 : decode cX8_readAmend 54 = .ok (.iconst 1, 1) := by decide +kernel
theorem dX8_readAmend_55 : decode cX8_readAmend 55 = .ok (.invokevirtual 158, 3) := by decide +kernel
theorem dX8_readAmend_58 : decode cX8_readAmend 58 = .ok (.ifCond .ne 5, 3) := by decide +kernel
theorem dX8_readAmend_61 : decode cX8_readAmend 61 = .ok (.iconst 0, 1) := by decide +kernel
theorem dX8_readAmend_62 : decode cX8_readAmend 62 = .ok (.ireturn, 1) := by decide +kernel
theorem dX8_readAmend_63 : decode cX8_readAmend 63 = .ok (.aload_n 0, 1) := by decide +kernel
theorem dX8_readAmend_64 : decode cX8_readAmend 64 = .ok (.getfield 123, 3) := by decide +kernel
theorem dX8_readAmend_67 : decode cX8_readAmend 67 = .ok (.istore_n 2, 1) := by decide +kernel
theorem dX8_readAmend_68 : decode cX8_readAmend 68 = .ok (.iconst 1, 1) := by decide +kernel
theorem dX8_readAmend_69 : decode cX8_readAmend 69 = .ok (.istore 4, 2) := by decide +kernel
theorem dX8_readAmend_71 : decode cX8_readAmend 71 = .ok (.aload_n 0, 1) := by decide +kernel
theorem dX8_readAmend_72 : decode cX8_readAmend 72 = .ok (.invokevirtual 116, 3) := by decide +kernel
theorem dX8_readAmend_75 : decode cX8_readAmend 75 = .ok (.bipush 45, 2) := by decide +kernel
theorem dX8_readAmend_77 : decode cX8_readAmend 77 = .ok (.if_icmp .ne 31, 3) := by decide +kernel
theorem dX8_readAmend_80 : decode cX8_readAmend 80 = .ok (.aload_n 0, 1) := by decide +kernel
theorem dX8_readAmend_81 : decode cX8_readAmend 81 = .ok (.dup, 1) := by decide +kernel
theorem dX8_readAmend_82 : decode cX8_readAmend 82 = .ok (.getfield 110, 3) := by decide +kernel
theorem dX8_readAmend_85 : decode cX8_readAmend 85 = .ok (.iconst 1, 1) := by decide +kernel
theorem dX8_readAmend_86 : decode cX8_readAmend 86 = .ok (.iadd, 1) := by decide +kernel
theorem dX8_readAmend_87 : decode cX8_readAmend 87 = .ok (.putfield 110, 3) := by decide +kernel
theorem dX8_readAmend_90 : decode cX8_readAmend 90 = .ok (.aload_n 0, 1) := by decide +kernel
theorem dX8_readAmend_91 : decode cX8_readAmend 91 = .ok (.iconst 1, 1) := by decide +kernel
theorem dX8_readAmend_92 : decode cX8_readAmend 92 = .ok (.invokevirtual 158, 3) := by decide +kernel
theorem dX8_readAmend_95 : decode cX8_readAmend 95 = .ok (.ifCond .ne 5, 3) := by decide +kernel
theorem dX8_readAmend_98 : decode cX8_readAmend 98 = .ok (.iconst 0, 1) := by decide +kernel
theorem dX8_readAmend_99 : decode cX8_readAmend 99 = .ok (.ireturn, 1) := by decide +kernel
theorem dX8_readAmend_100 : decode cX8_readAmend 100 = .ok (.aload_n 0, 1) := by decide +kernel
theorem dX8_readAmend_101 : decode cX8_readAmend 101 = .ok (.getfield 123, 3) := by decide +kernel
theorem dX8_readAmend_104 : decode cX8_readAmend 104 = .ok (.istore_n 3, 1) := by decide +kernel
theorem dX8_readAmend_105 : decode cX8_readAmend 105 = .ok (.iconst 1, 1) := by decide +kernel
theorem dX8_readAmend_106 : decode cX8_readAmend 106 = .ok (.istore 4, 2) := by decide +kernel
theorem dX8_readAmend_108 : decode cX8_readAmend 108 = .ok (.iload 4, 2) := by decide +kernel
theorem dX8_readAmend_110 : decode cX8_readAmend 110 = .ok (.ifCond .ne 13, 3) := by decide +kernel
theorem dX8_readAmend_113 : decode cX8_readAmend 113 = .ok (.aload_n 0, 1) := by decide +kernel
theorem dX8_readAmend_114 : decode cX8_readAmend 114 = .ok (.iconst 1, 1) := by decide +kernel
theorem dX8_readAmend_115 : decode cX8_readAmend 115 = .ok (.aload_n 0, 1) := by decide +kernel
theorem dX8_readAmend_116 : decode cX8_readAmend 116 = .ok (.getfield 110, 3) := by decide +kernel
theorem dX8_readAmend_119 : decode cX8_readAmend 119 = .ok (.invokevirtual 137, 3) := by decide +kernel
theorem dX8_readAmend_122 : decode cX8_readAmend 122 = .ok (.ireturn, 1) := by decide +kernel
theorem dX8_readAmend_123 : decode cX8_readAmend 123 = .ok (.aload_n 0, 1) := by decide +kernel
theorem dX8_readAmend_124 : decode cX8_readAmend 124 = .ok (.aload_n 0, 1) := by decide +kernel
theorem dX8_readAmend_125 : decode cX8_readAmend 125 = .ok (.getfield 171, 3) := by decide +kernel
theorem dX8_readAmend_128 : decode cX8_readAmend 128 = .ok (.aload_n 0, 1) := by decide +kernel
theorem dX8_readAmend_129 : decode cX8_readAmend 129 = .ok (.getfield 171, 3) := by decide +kernel
theorem dX8_readAmend_132 : decode cX8_readAmend 132 = .ok (.iconst 2, 1) := by decide +kernel
theorem dX8_readAmend_133 : decode cX8_readAmend 133 = .ok (.if_icmp .ne 12, 3) := by decide +kernel
theorem dX8_readAmend_136 : decode cX8_readAmend 136 = .ok (.aload_n 0, 1) := by decide +kernel
theorem dX8_readAmend_137 : decode cX8_readAmend 137 = .ok (.getfield 13, 3) := by decide +kernel
theorem dX8_readAmend_140 : decode cX8_readAmend 140 = .ok (.iconst 2, 1) := by decide +kernel
theorem dX8_readAmend_141 : decode cX8_readAmend 141 = .ok (.iaload, 1) := by decide +kernel
theorem dX8_readAmend_142 : decode cX8_readAmend 142 = .ok (.goto 7, 3) := by decide +kernel
theorem dX8_readAmend_145 : decode cX8_readAmend 145 = .ok (.aload_n 0, 1) := by decide +kernel
theorem dX8_readAmend_146 : decode cX8_readAmend 146 = .ok (.getfield 166, 3) := by decide +kernel
theorem dX8_readAmend_149 : decode cX8_readAmend 149 = .ok (.iload_n 2, 1) := by decide +kernel
theorem dX8_readAmend_150 : decode cX8_readAmend 150 = .ok (.iload_n 3, 1) := by decide +kernel
theorem dX8_readAmend_151 : decode cX8_readAmend 151 = .ok (.invokevirtual 162, 3) := by decide +kernel
theorem dX8_readAmend_154 : decode cX8_readAmend 154 = .ok (.iconst 1, 1) := by decide +kernel
theorem dX8_readAmend_155 : decode cX8_readAmend 155 = .ok (.ireturn, 1) := by decide +kernel
theorem dX8_readVoter_0 : decode cX8_readVoter 0 = .ok (.aload_n 0, 1) := by decide +kernel
theorem dX8_readVoter_1 : decode cX8_readVoter 1 = .ok (.getfield 13, 3) := by decide +kernel
theorem dX8_readVoter_4 : decode cX8_readVoter 4 = .ok (.iconst 3, 1) := by decide +kernel
theorem dX8_readVoter_5 : decode cX8_readVoter 5 = .ok (.iaload, 1) := by decide +kernel
theorem dX8_readVoter_6 : decode cX8_readVoter 6 = .ok (.istore_n 2, 1) := by decide +kernel
theorem dX8_readVoter_7 : decode cX8_readVoter 7 = .ok (.iload_n 2, 1) := by decide +kernel
theorem dX8_readVoter_8 : decode cX8_readVoter 8 = .ok (.bipush 9, 2) := by decide +kernel
theorem dX8_readVoter_10 : decode cX8_readVoter 10 = .ok (.if_icmp .ne 10, 3) := by decide +kernel
theorem dX8_readVoter_13 : decode cX8_readVoter 13 = .ok (.aload_n 0, 1) := by decide +kernel
theorem dX8_readVoter_14 : decode cX8_readVoter 14 = .ok (.iconst 4, 1) := by decide +kernel
theorem dX8_readVoter_15 : decode cX8_readVoter 15 = .ok (.iload_n 1, 1) := by decide +kernel
theorem dX8_readVoter_16 : decode cX8_readVoter 16 = .ok (.invokevirtual 137, 3) := by decide +kernel
theorem dX8_readVoter_19 : decode cX8_readVoter 19 = .ok (.ireturn, 1) := by decide +kernel
theorem dX8_readVoter_20 : decode cX8_readVoter 20 = .ok (.iconst 0, 1) := by decide +kernel
theorem dX8_readVoter_21 : decode cX8_readVoter 21 = .ok (.istore_n 3, 1) := by decide +kernel
theorem dX8_readVoter_22 : decode cX8_readVoter 22 = .ok (.iconst 0, 1) := by decide +kernel
theorem dX8_readVoter_23 : decode cX8_readVoter 23 = .ok (.istore 4, 2) := by decide +kernel
theorem dX8_readVoter_25 : decode cX8_readVoter 25 = .ok (.iload 4, 2) := by decide +kernel
theorem dX8_readVoter_27 : decode cX8_readVoter 27 = .ok (.bipush 8, 2) := by decide +kernel
theorem dX8_readVoter_29 : decode cX8_readVoter 29 = .ok (.if_icmp .ge 22, 3) := by decide +kernel
theorem dX8_readVoter_32 : decode cX8_readVoter 32 = .ok (.aload_n 0, 1) := by decide +kernel
theorem dX8_readVoter_33 : decode cX8_readVoter 33 = .ok (.getfield 43, 3) := by decide +kernel
theorem dX8_readVoter_36 : decode cX8_readVoter 36 = .ok (.bipush 8, 2) := by decide +kernel
theorem dX8_readVoter_38 : decode cX8_readVoter 38 = .ok (.iload_n 2, 1) := by decide +kernel
theorem dX8_readVoter_39 : decode cX8_readVoter 39 = .ok (.imul, 1) := by decide +kernel
theorem dX8_readVoter_40 : decode cX8_readVoter 40 = .ok (.iload 4, 2) := by decide +kernel
theorem dX8_readVoter_42 : decode cX8_readVoter 42 = .ok (.iadd, 1) := by decide +kernel
theorem dX8_readVoter_43 : decode cX8_readVoter 43 = .ok (.iconst 0, 1) := by decide +kernel
theorem dX8_readVoter_44 : decode cX8_readVoter 44 = .ok (.iastore, 1) := by decide +kernel
theorem dX8_readVoter_45 : decode cX8_readVoter 45 = .ok (.iinc 4 1, 3) := by decide +kernel
theorem dX8_readVoter_48 : decode cX8_readVoter 48 = .ok (.goto (-23), 3) := by decide +kernel
theorem dX8_readVoter_51 : decode cX8_readVoter 51 = .ok (.aload_n 0, 1) := by decide +kernel
theorem dX8_readVoter_52 : decode cX8_readVoter 52 = .ok (.invokevirtual 143, 3) := by decide +kernel
theorem dX8_readVoter_55 : decode cX8_readVoter 55 = .ok (.ifCond .eq 101, 3) := by decide +kernel
theorem dX8_readVoter_58 : decode cX8_readVoter 58 = .ok (.aload_n 0, 1) := by decide +kernel
theorem dX8_readVoter_59 : decode cX8_readVoter 59 = .ok (.invokevirtual 147, 3) := by decide +kernel
theorem dX8_readVoter_62 : decode cX8_readVoter 62 = .ok (.pop2, 1) := by decide +kernel
theorem dX8_readVoter_63 : decode cX8_readVoter 63 = .ok (.aload_n 0, 1) := by decide +kernel
theorem dX8_readVoter_64 : decode cX8_readVoter 64 = .ok (.getfield 123, 3) := by decide +kernel
theorem dX8_readVoter_67 : decode cX8_readVoter 67 = .ok (.ifCond .lt 11, 3) := by decide +kernel
theorem dX8_readVoter_70 : decode cX8_readVoter 70 = .ok (.aload_n 0, 1) := by decide +kernel
theorem dX8_readVoter_71 : decode cX8_readVoter 71 = .ok (.getfield 120, 3) := by decide +kernel
theorem dX8_readVoter_74 : decode cX8_readVoter 74 = .ok (.iconst 1, 1) := by decide +kernel
theorem dX8_readVoter_75 : decode cX8_readVoter 75 = .ok (.if_icmp .eq 13, 3) := by decide +kernel
theorem dX8_readVoter_78 : decode cX8_readVoter 78 = .ok (.aload_n 0, 1) := by decide +kernel
theorem dX8_readVoter_79 : decode cX8_readVoter 79 = .ok (.iconst 1, 1) := by decide +kernel
theorem dX8_readVoter_80 : decode cX8_readVoter 80 = .ok (.aload_n 0, 1) := by decide +kernel
theorem dX8_readVoter_81 : decode cX8_readVoter 81 = .ok (.getfield 126, 3) := by decide +kernel
theorem dX8_readVoter_84 : decode cX8_readVoter 84 = .ok (.invokevirtual 137, 3) := by decide +kernel
theorem dX8_readVoter_87 : decode cX8_readVoter 87 = .ok (.ireturn, 1) := by decide +kernel
theorem dX8_readVoter_88 : decode cX8_readVoter 88 = .ok (.iload_n 3, 1) := by decide +kernel
theorem dX8_readVoter_89 : decode cX8_readVoter 89 = .ok (.aload_n 0, 1) := by decide +kernel
theorem dX8_readVoter_90 : decode cX8_readVoter 90 = .ok (.getfield 123, 3) := by decide +kernel
theorem dX8_readVoter_93 : decode cX8_readVoter 93 = .ok (.iand, 1) := by decide +kernel
theorem dX8_readVoter_94 : decode cX8_readVoter 94 = .ok (.ifCond .eq 13, 3) := by decide +kernel
theorem dX8_readVoter_97 : decode cX8_readVoter 97 = .ok (.aload_n 0, 1) := by decide +kernel
theorem dX8_readVoter_98 : decode cX8_readVoter 98 = .ok (.iconst 3, 1) := by decide +kernel
theorem dX8_readVoter_99 : decode cX8_readVoter 99 = .ok (.aload_n 0, 1) := by decide +kernel
theorem dX8_readVoter_100 : decode cX8_readVoter 100 = .ok (.getfield 126, 3) := by decide +kernel
theorem dX8_readVoter_103 : decode cX8_readVoter 103 = .ok (.invokevirtual 137, 3) := by decide +kernel
theorem dX8_readVoter_106 : decode cX8_readVoter 106 = .ok (.ireturn, 1) := by decide +kernel
theorem dX8_readVoter_107 : decode cX8_readVoter 107 = .ok (.aload_n 0, 1) := by decide +kernel
theorem dX8_readVoter_108 : decode cX8_readVoter 108 = .ok (.getfield 67, 3) := by decide +kernel
theorem dX8_readVoter_111 : decode cX8_readVoter 111 = .ok (.aload_n 0, 1) := by decide +kernel
theorem dX8_readVoter_112 : decode cX8_readVoter 112 = .ok (.getfield 126, 3) := by decide +kernel
theorem dX8_readVoter_115 : decode cX8_readVoter 115 = .ok (.iaload, 1) := by decide +kernel
theorem dX8_readVoter_116 : decode cX8_readVoter 116 = .ok (.bipush 97, 2) := by decide +kernel
theorem dX8_readVoter_118 : decode cX8_readVoter 118 = .ok (.isub, 1) := by decide +kernel
theorem dX8_readVoter_119 : decode cX8_readVoter 119 = .ok (.istore 4, 2) := by decide +kernel
theorem dX8_readVoter_121 : decode cX8_readVoter 121 = .ok (.iload_n 3, 1) := by decide +kernel
theorem dX8_readVoter_122 : decode cX8_readVoter 122 = .ok (.aload_n 0, 1) := by decide +kernel
theorem dX8_readVoter_123 : decode cX8_readVoter 123 = .ok (.getfield 123, 3) := by decide +kernel
theorem dX8_readVoter_126 : decode cX8_readVoter 126 = .ok (.ior, 1) := by decide +kernel
theorem dX8_readVoter_127 : decode cX8_readVoter 127 = .ok (.istore_n 3, 1) := by decide +kernel
theorem dX8_readVoter_128 : decode cX8_readVoter 128 = .ok (.aload_n 0, 1) := by decide +kernel
theorem dX8_readVoter_129 : decode cX8_readVoter 129 = .ok (.invokevirtual 179, 3) := by decide +kernel
theorem dX8_readVoter_132 : decode cX8_readVoter 132 = .ok (.ifCond .ne 5, 3) := by decide +kernel
theorem dX8_readVoter_135 : decode cX8_readVoter 135 = .ok (.iconst 0, 1) := by decide +kernel
theorem dX8_readVoter_136 : decode cX8_readVoter 136 = .ok (.ireturn, 1) := by decide +kernel
theorem dX8_readVoter_137 : decode cX8_readVoter 137 = .ok (.aload_n 0, 1) := by decide +kernel
theorem dX8_readVoter_138 : decode cX8_readVoter 138 = .ok (.getfield 43, 3) := by decide +kernel
theorem dX8_readVoter_141 : decode cX8_readVoter 141 = .ok (.bipush 8, 2) := by decide +kernel
theorem dX8_readVoter_143 : decode cX8_readVoter 143 = .ok (.iload_n 2, 1) := by decide +kernel
theorem dX8_readVoter_144 : decode cX8_readVoter 144 = .ok (.imul, 1) := by decide +kernel
theorem dX8_readVoter_145 : decode cX8_readVoter 145 = .ok (.iload 4, 2) := by decide +kernel
theorem dX8_readVoter_147 : decode cX8_readVoter 147 = .ok (.iadd, 1) := by decide +kernel
theorem dX8_readVoter_148 : decode cX8_readVoter 148 = .ok (.aload_n 0, 1) := by decide +kernel
theorem dX8_readVoter_149 : decode cX8_readVoter 149 = .ok (.getfield 140, 3) := by decide +kernel
theorem dX8_readVoter_152 : decode cX8_readVoter 152 = .ok (.iastore, 1) := by decide +kernel
theorem dX8_readVoter_153 : decode cX8_readVoter 153 = .ok (.goto (-102), 3) := by decide +kernel
theorem dX8_readVoter_156 : decode cX8_readVoter 156 = .ok (.aload_n 0, 1) := by decide +kernel
theorem dX8_readVoter_157 : decode cX8_readVoter 157 = .ok (.getfield 13, 3) := by decide +kernel
theorem dX8_readVoter_160 : decode cX8_readVoter 160 = .ok (.iconst 3, 1) := by decide +kernel
theorem dX8_readVoter_161 : decode cX8_readVoter 161 = .ok (.dup2, 1) := by decide +kernel
theorem dX8_readVoter_162 : decode cX8_readVoter 162 = .ok (.iaload, 1) := by decide +kernel
theorem dX8_readVoter_163 : decode cX8_readVoter 163 = .ok (.iconst 1, 1) := by decide +kernel
theorem dX8_readVoter_164 : decode cX8_readVoter 164 = .ok (.iadd, 1) := by decide +kernel
theorem dX8_readVoter_165 : decode cX8_readVoter 165 = .ok (.iastore, 1) := by decide +kernel
theorem dX8_readVoter_166 : decode cX8_readVoter 166 = .ok (.iconst 1, 1) := by decide +kernel
theorem dX8_readVoter_167 : decode cX8_readVoter 167 = .ok (.ireturn, 1) := by decide +kernel
theorem dX8_readJoint_0 : decode cX8_readJoint 0 = .ok (.aload_n 0, 1) := by decide +kernel
theorem dX8_readJoint_1 : decode cX8_readJoint 1 = .ok (.getfield 13, 3) := by decide +kernel
theorem dX8_readJoint_4 : decode cX8_readJoint 4 = .ok (.iconst 4, 1) := by decide +kernel
theorem dX8_readJoint_5 : decode cX8_readJoint 5 = .ok (.iaload, 1) := by decide +kernel
theorem dX8_readJoint_6 : decode cX8_readJoint 6 = .ok (.istore_n 2, 1) := by decide +kernel
theorem dX8_readJoint_7 : decode cX8_readJoint 7 = .ok (.iload_n 2, 1) := by decide +kernel
theorem dX8_readJoint_8 : decode cX8_readJoint 8 = .ok (.bipush 6, 2) := by decide +kernel
theorem dX8_readJoint_10 : decode cX8_readJoint 10 = .ok (.if_icmp .ne 10, 3) := by decide +kernel
theorem dX8_readJoint_13 : decode cX8_readJoint 13 = .ok (.aload_n 0, 1) := by decide +kernel
theorem dX8_readJoint_14 : decode cX8_readJoint 14 = .ok (.iconst 4, 1) := by decide +kernel
theorem dX8_readJoint_15 : decode cX8_readJoint 15 = .ok (.iload_n 1, 1) := by decide +kernel
theorem dX8_readJoint_16 : decode cX8_readJoint 16 = .ok (.invokevirtual 137, 3) := by decide +kernel
theorem dX8_readJoint_19 : decode cX8_readJoint 19 = .ok (.ireturn, 1) := by decide +kernel
theorem dX8_readJoint_20 : decode cX8_readJoint 20 = .ok (.aload_n 0, 1) := by decide +kernel
theorem dX8_readJoint_21 : decode cX8_readJoint 21 = .ok (.iconst 0, 1) := by decide +kernel
theorem dX8_readJoint_22 : decode cX8_readJoint 22 = .ok (.aload_n 0, 1) := by decide +kernel
theorem dX8_readJoint_23 : decode cX8_readJoint 23 = .ok (.getfield 13, 3) := by decide +kernel
theorem dX8_readJoint_26 : decode cX8_readJoint 26 = .ok (.iconst 3, 1) := by decide +kernel
theorem dX8_readJoint_27 : decode cX8_readJoint 27 = .ok (.iaload, 1) := by decide +kernel
theorem dX8_readJoint_28 : decode cX8_readJoint 28 = .ok (.iconst 1, 1) := by decide +kernel
theorem dX8_readJoint_29 : decode cX8_readJoint 29 = .ok (.isub, 1) := by decide +kernel
theorem dX8_readJoint_30 : decode cX8_readJoint 30 = .ok (.invokevirtual 151, 3) := by decide +kernel
theorem dX8_readJoint_33 : decode cX8_readJoint 33 = .ok (.ifCond .ne 5, 3) := by decide +kernel
theorem dX8_readJoint_36 : decode cX8_readJoint 36 = .ok (.iconst 0, 1) := by decide +kernel
theorem dX8_readJoint_37 : decode cX8_readJoint 37 = .ok (.ireturn, 1) := by decide +kernel
theorem dX8_readJoint_38 : decode cX8_readJoint 38 = .ok (.aload_n 0, 1) := by decide +kernel
theorem dX8_readJoint_39 : decode cX8_readJoint 39 = .ok (.getfield 55, 3) := by decide +kernel
theorem dX8_readJoint_42 : decode cX8_readJoint 42 = .ok (.iload_n 2, 1) := by decide +kernel
theorem dX8_readJoint_43 : decode cX8_readJoint 43 = .ok (.aload_n 0, 1) := by decide +kernel
theorem dX8_readJoint_44 : decode cX8_readJoint 44 = .ok (.getfield 140, 3) := by decide +kernel
theorem dX8_readJoint_47 : decode cX8_readJoint 47 = .ok (.iastore, 1) := by decide +kernel
theorem dX8_readJoint_48 : decode cX8_readJoint 48 = .ok (.aload_n 0, 1) := by decide +kernel
theorem dX8_readJoint_49 : decode cX8_readJoint 49 = .ok (.iconst 2, 1) := by decide +kernel
theorem dX8_readJoint_50 : decode cX8_readJoint 50 = .ok (.invokevirtual 158, 3) := by decide +kernel
theorem dX8_readJoint_53 : decode cX8_readJoint 53 = .ok (.ifCond .ne 5, 3) := by decide +kernel
theorem dX8_readJoint_56 : decode cX8_readJoint 56 = .ok (.iconst 0, 1) := by decide +kernel
theorem dX8_readJoint_57 : decode cX8_readJoint 57 = .ok (.ireturn, 1) := by decide +kernel
theorem dX8_readJoint_58 : decode cX8_readJoint 58 = .ok (.aload_n 0, 1) := by decide +kernel
theorem dX8_readJoint_59 : decode cX8_readJoint 59 = .ok (.getfield 58, 3) := by decide +kernel
theorem dX8_readJoint_62 : decode cX8_readJoint 62 = .ok (.iload_n 2, 1) := by decide +kernel
theorem dX8_readJoint_63 : decode cX8_readJoint 63 = .ok (.aload_n 0, 1) := by decide +kernel
theorem dX8_readJoint_64 : decode cX8_readJoint 64 = .ok (.getfield 123, 3) := by decide +kernel
theorem dX8_readJoint_67 : decode cX8_readJoint 67 = .ok (.iastore, 1) := by decide +kernel
theorem dX8_readJoint_68 : decode cX8_readJoint 68 = .ok (.aload_n 0, 1) := by decide +kernel
theorem dX8_readJoint_69 : decode cX8_readJoint 69 = .ok (.invokevirtual 179, 3) := by decide +kernel
theorem dX8_readJoint_72 : decode cX8_readJoint 72 = .ok (.ifCond .ne 5, 3) := by decide +kernel
theorem dX8_readJoint_75 : decode cX8_readJoint 75 = .ok (.iconst 0, 1) := by decide +kernel
theorem dX8_readJoint_76 : decode cX8_readJoint 76 = .ok (.ireturn, 1) := by decide +kernel
theorem dX8_readJoint_77 : decode cX8_readJoint 77 = .ok (.aload_n 0, 1) := by decide +kernel
theorem dX8_readJoint_78 : decode cX8_readJoint 78 = .ok (.getfield 61, 3) := by decide +kernel
theorem dX8_readJoint_81 : decode cX8_readJoint 81 = .ok (.iload_n 2, 1) := by decide +kernel
theorem dX8_readJoint_82 : decode cX8_readJoint 82 = .ok (.aload_n 0, 1) := by decide +kernel
theorem dX8_readJoint_83 : decode cX8_readJoint 83 = .ok (.getfield 140, 3) := by decide +kernel
theorem dX8_readJoint_86 : decode cX8_readJoint 86 = .ok (.iastore, 1) := by decide +kernel
theorem dX8_readJoint_87 : decode cX8_readJoint 87 = .ok (.aload_n 0, 1) := by decide +kernel
theorem dX8_readJoint_88 : decode cX8_readJoint 88 = .ok (.getfield 13, 3) := by decide +kernel
theorem dX8_readJoint_91 : decode cX8_readJoint 91 = .ok (.iconst 4, 1) := by decide +kernel
theorem dX8_readJoint_92 : decode cX8_readJoint 92 = .ok (.dup2, 1) := by decide +kernel
theorem dX8_readJoint_93 : decode cX8_readJoint 93 = .ok (.iaload, 1) := by decide +kernel
theorem dX8_readJoint_94 : decode cX8_readJoint 94 = .ok (.iconst 1, 1) := by decide +kernel
theorem dX8_readJoint_95 : decode cX8_readJoint 95 = .ok (.iadd, 1) := by decide +kernel
theorem dX8_readJoint_96 : decode cX8_readJoint 96 = .ok (.iastore, 1) := by decide +kernel
theorem dX8_readJoint_97 : decode cX8_readJoint 97 = .ok (.iconst 1, 1) := by decide +kernel
theorem dX8_readJoint_98 : decode cX8_readJoint 98 = .ok (.ireturn, 1) := by decide +kernel
theorem dX8_readQuota_0 : decode cX8_readQuota 0 = .ok (.aload_n 0, 1) := by decide +kernel
theorem dX8_readQuota_1 : decode cX8_readQuota 1 = .ok (.getfield 13, 3) := by decide +kernel
theorem dX8_readQuota_4 : decode cX8_readQuota 4 = .ok (.iconst 5, 1) := by decide +kernel
theorem dX8_readQuota_5 : decode cX8_readQuota 5 = .ok (.iaload, 1) := by decide +kernel
theorem dX8_readQuota_6 : decode cX8_readQuota 6 = .ok (.ifCond .le 10, 3) := by decide +kernel
theorem dX8_readQuota_9 : decode cX8_readQuota 9 = .ok (.aload_n 0, 1) := by decide +kernel
theorem dX8_readQuota_10 : decode cX8_readQuota 10 = .ok (.iconst 3, 1) := by decide +kernel
theorem dX8_readQuota_11 : decode cX8_readQuota 11 = .ok (.iload_n 1, 1) := by decide +kernel
theorem dX8_readQuota_12 : decode cX8_readQuota 12 = .ok (.invokevirtual 137, 3) := by decide +kernel
theorem dX8_readQuota_15 : decode cX8_readQuota 15 = .ok (.ireturn, 1) := by decide +kernel
theorem dX8_readQuota_16 : decode cX8_readQuota 16 = .ok (.aload_n 0, 1) := by decide +kernel
theorem dX8_readQuota_17 : decode cX8_readQuota 17 = .ok (.iconst 1, 1) := by decide +kernel
theorem dX8_readQuota_18 : decode cX8_readQuota 18 = .ok (.bipush 9, 2) := by decide +kernel
theorem dX8_readQuota_20 : decode cX8_readQuota 20 = .ok (.invokevirtual 151, 3) := by decide +kernel
theorem dX8_readQuota_23 : decode cX8_readQuota 23 = .ok (.ifCond .ne 5, 3) := by decide +kernel
theorem dX8_readQuota_26 : decode cX8_readQuota 26 = .ok (.iconst 0, 1) := by decide +kernel
theorem dX8_readQuota_27 : decode cX8_readQuota 27 = .ok (.ireturn, 1) := by decide +kernel
theorem dX8_readQuota_28 : decode cX8_readQuota 28 = .ok (.aload_n 0, 1) := by decide +kernel
theorem dX8_readQuota_29 : decode cX8_readQuota 29 = .ok (.getfield 13, 3) := by decide +kernel
theorem dX8_readQuota_32 : decode cX8_readQuota 32 = .ok (.iconst 5, 1) := by decide +kernel
theorem dX8_readQuota_33 : decode cX8_readQuota 33 = .ok (.aload_n 0, 1) := by decide +kernel
theorem dX8_readQuota_34 : decode cX8_readQuota 34 = .ok (.getfield 140, 3) := by decide +kernel
theorem dX8_readQuota_37 : decode cX8_readQuota 37 = .ok (.iastore, 1) := by decide +kernel
theorem dX8_readQuota_38 : decode cX8_readQuota 38 = .ok (.iconst 1, 1) := by decide +kernel
theorem dX8_readQuota_39 : decode cX8_readQuota 39 = .ok (.ireturn, 1) := by decide +kernel
theorem dX8_readStatement_0 : decode cX8_readStatement 0 = .ok (.aload_n 0, 1) := by decide +kernel
theorem dX8_readStatement_1 : decode cX8_readStatement 1 = .ok (.invokevirtual 143, 3) := by decide +kernel
theorem dX8_readStatement_4 : decode cX8_readStatement 4 = .ok (.ifCond .ne 13, 3) := by decide +kernel
theorem dX8_readStatement_7 : decode cX8_readStatement 7 = .ok (.aload_n 0, 1) := by decide +kernel
theorem dX8_readStatement_8 : decode cX8_readStatement 8 = .ok (.iconst 1, 1) := by decide +kernel
theorem dX8_readStatement_9 : decode cX8_readStatement 9 = .ok (.aload_n 0, 1) := by decide +kernel
theorem dX8_readStatement_10 : decode cX8_readStatement 10 = .ok (.getfield 110, 3) := by decide +kernel
theorem dX8_readStatement_13 : decode cX8_readStatement 13 = .ok (.invokevirtual 137, 3) := by decide +kernel
theorem dX8_readStatement_16 : decode cX8_readStatement 16 = .ok (.ireturn, 1) := by decide +kernel
theorem dX8_readStatement_17 : decode cX8_readStatement 17 = .ok (.aload_n 0, 1) := by decide +kernel
theorem dX8_readStatement_18 : decode cX8_readStatement 18 = .ok (.invokevirtual 147, 3) := by decide +kernel
theorem dX8_readStatement_21 : decode cX8_readStatement 21 = .ok (.lstore_n 1, 1) := by decide +kernel
theorem dX8_readStatement_22 : decode cX8_readStatement 22 = .ok (.aload_n 0, 1) := by decide +kernel
theorem dX8_readStatement_23 : decode cX8_readStatement 23 = .ok (.getfield 126, 3) := by decide +kernel
theorem dX8_readStatement_26 : decode cX8_readStatement 26 = .ok (.istore_n 3, 1) := by decide +kernel
theorem dX8_readStatement_27 : decode cX8_readStatement 27 = .ok (.lload_n 1, 1) := by decide +kernel
theorem dX8_readStatement_28 : decode cX8_readStatement 28 = .ok (.ldc2_w 169, 3) := by decide +kernel
theorem dX8_readStatement_31 : decode cX8_readStatement 31 = .ok (.lcmp, 1) := by decide +kernel
theorem dX8_readStatement_32 : decode cX8_readStatement 32 = .ok (.ifCond .ne 9, 3) := by decide +kernel
theorem dX8_readStatement_35 : decode cX8_readStatement 35 = .ok (.aload_n 0, 1) := by decide +kernel
theorem dX8_readStatement_36 : decode cX8_readStatement 36 = .ok (.iload_n 3, 1) := by decide +kernel
theorem dX8_readStatement_37 : decode cX8_readStatement 37 = .ok (.invokevirtual 182, 3) := by decide +kernel
theorem dX8_readStatement_40 : decode cX8_readStatement 40 = .ok (.ireturn, 1) := by decide +kernel
theorem dX8_readStatement_41 : decode cX8_readStatement 41 = .ok (.lload_n 1, 1) := by decide +kernel
theorem dX8_readStatement_42 : decode cX8_readStatement 42 = .ok (.ldc2_w 185, 3) := by decide +kernel
theorem dX8_readStatement_45 : decode cX8_readStatement 45 = .ok (.lcmp, 1) := by decide +kernel
theorem dX8_readStatement_46 : decode cX8_readStatement 46 = .ok (.ifCond .ne 9, 3) := by decide +kernel
theorem dX8_readStatement_49 : decode cX8_readStatement 49 = .ok (.aload_n 0, 1) := by decide +kernel
theorem dX8_readStatement_50 : decode cX8_readStatement 50 = .ok (.iload_n 3, 1) := by decide +kernel
theorem dX8_readStatement_51 : decode cX8_readStatement 51 = .ok (.invokevirtual 187, 3) := by decide +kernel
theorem dX8_readStatement_54 : decode cX8_readStatement 54 = .ok (.ireturn, 1) := by decide +kernel
theorem dX8_readStatement_55 : decode cX8_readStatement 55 = .ok (.lload_n 1, 1) := by decide +kernel
theorem dX8_readStatement_56 : decode cX8_readStatement 56 = .ok (.ldc2_w 174, 3) := by decide +kernel
theorem dX8_readStatement_59 : decode cX8_readStatement 59 = .ok (.lcmp, 1) := by decide +kernel
theorem dX8_readStatement_60 : decode cX8_readStatement 60 = .ok (.ifCond .ne 9, 3) := by decide +kernel
theorem dX8_readStatement_63 : decode cX8_readStatement 63 = .ok (.aload_n 0, 1) := by decide +kernel
theorem dX8_readStatement_64 : decode cX8_readStatement 64 = .ok (.iload_n 3, 1) := by decide +kernel
theorem dX8_readStatement_65 : decode cX8_readStatement 65 = .ok (.invokevirtual 190, 3) := by decide +kernel
theorem dX8_readStatement_68 : decode cX8_readStatement 68 = .ok (.ireturn, 1) := by decide +kernel
theorem dX8_readStatement_69 : decode cX8_readStatement 69 = .ok (.lload_n 1, 1) := by decide +kernel
theorem dX8_readStatement_70 : decode cX8_readStatement 70 = .ok (.ldc2_w 193, 3) := by decide +kernel
theorem dX8_readStatement_73 : decode cX8_readStatement 73 = .ok (.lcmp, 1) := by decide +kernel
theorem dX8_readStatement_74 : decode cX8_readStatement 74 = .ok (.ifCond .ne 9, 3) := by decide +kernel
theorem dX8_readStatement_77 : decode cX8_readStatement 77 = .ok (.aload_n 0, 1) := by decide +kernel
theorem dX8_readStatement_78 : decode cX8_readStatement 78 = .ok (.iload_n 3, 1) := by decide +kernel
theorem dX8_readStatement_79 : decode cX8_readStatement 79 = .ok (.invokevirtual 195, 3) := by decide +kernel
theorem dX8_readStatement_82 : decode cX8_readStatement 82 = .ok (.ireturn, 1) := by decide +kernel
theorem dX8_readStatement_83 : decode cX8_readStatement 83 = .ok (.lload_n 1, 1) := by decide +kernel
theorem dX8_readStatement_84 : decode cX8_readStatement 84 = .ok (.ldc2_w 198, 3) := by decide +kernel
theorem dX8_readStatement_87 : decode cX8_readStatement 87 = .ok (.lcmp, 1) := by decide +kernel
theorem dX8_readStatement_88 : decode cX8_readStatement 88 = .ok (.ifCond .ne 9, 3) := by decide +kernel
theorem dX8_readStatement_91 : decode cX8_readStatement 91 = .ok (.aload_n 0, 1) := by decide +kernel
theorem dX8_readStatement_92 : decode cX8_readStatement 92 = .ok (.iload_n 3, 1) := by decide +kernel
theorem dX8_readStatement_93 : decode cX8_readStatement 93 = .ok (.invokevirtual 200, 3) := by decide +kernel
theorem dX8_readStatement_96 : decode cX8_readStatement 96 = .ok (.ireturn, 1) := by decide +kernel
theorem dX8_readStatement_97 : decode cX8_readStatement 97 = .ok (.lload_n 1, 1) := by decide +kernel
theorem dX8_readStatement_98 : decode cX8_readStatement 98 = .ok (.ldc2_w 203, 3) := by decide +kernel
theorem dX8_readStatement_101 : decode cX8_readStatement 101 = .ok (.lcmp, 1) := by decide +kernel
theorem dX8_readStatement_102 : decode cX8_readStatement 102 = .ok (.ifCond .ne 11, 3) := by decide +kernel
theorem dX8_readStatement_105 : decode cX8_readStatement 105 = .ok (.aload_n 0, 1) := by decide +kernel
theorem dX8_readStatement_106 : decode cX8_readStatement 106 = .ok (.iload_n 3, 1) := by decide +kernel
theorem dX8_readStatement_107 : decode cX8_readStatement 107 = .ok (.invokevirtual 205, 3) := by decide +kernel
theorem dX8_readStatement_110 : decode cX8_readStatement 110 = .ok (.goto 9, 3) := by decide +kernel
theorem dX8_readStatement_113 : decode cX8_readStatement 113 = .ok (.aload_n 0, 1) := by decide +kernel
theorem dX8_readStatement_114 : decode cX8_readStatement 114 = .ok (.iconst 1, 1) := by decide +kernel
theorem dX8_readStatement_115 : decode cX8_readStatement 115 = .ok (.iload_n 3, 1) := by decide +kernel
theorem dX8_readStatement_116 : decode cX8_readStatement 116 = .ok (.invokevirtual 137, 3) := by decide +kernel
theorem dX8_readStatement_119 : decode cX8_readStatement 119 = .ok (.ireturn, 1) := by decide +kernel
theorem dX8_readText_0 : decode cX8_readText 0 = .ok (.aload_n 0, 1) := by decide +kernel
theorem dX8_readText_1 : decode cX8_readText 1 = .ok (.iconst 0, 1) := by decide +kernel
theorem dX8_readText_2 : decode cX8_readText 2 = .ok (.putfield 208, 3) := by decide +kernel
theorem dX8_readText_5 : decode cX8_readText 5 = .ok (.aload_n 0, 1) := by decide +kernel
theorem dX8_readText_6 : decode cX8_readText 6 = .ok (.iconst 0, 1) := by decide +kernel
theorem dX8_readText_7 : decode cX8_readText 7 = .ok (.putfield 110, 3) := by decide +kernel
theorem dX8_readText_10 : decode cX8_readText 10 = .ok (.aload_n 0, 1) := by decide +kernel
theorem dX8_readText_11 : decode cX8_readText 11 = .ok (.iconst 0, 1) := by decide +kernel
theorem dX8_readText_12 : decode cX8_readText 12 = .ok (.putfield 113, 3) := by decide +kernel
theorem dX8_readText_15 : decode cX8_readText 15 = .ok (.aload_n 0, 1) := by decide +kernel
theorem dX8_readText_16 : decode cX8_readText 16 = .ok (.iconst 0, 1) := by decide +kernel
theorem dX8_readText_17 : decode cX8_readText 17 = .ok (.putfield 154, 3) := by decide +kernel
theorem dX8_readText_20 : decode cX8_readText 20 = .ok (.iconst 0, 1) := by decide +kernel
theorem dX8_readText_21 : decode cX8_readText 21 = .ok (.istore_n 1, 1) := by decide +kernel
theorem dX8_readText_22 : decode cX8_readText 22 = .ok (.iload_n 1, 1) := by decide +kernel
theorem dX8_readText_23 : decode cX8_readText 23 = .ok (.bipush 6, 2) := by decide +kernel
theorem dX8_readText_25 : decode cX8_readText 25 = .ok (.if_icmp .ge 25, 3) := by decide +kernel
theorem dX8_readText_28 : decode cX8_readText 28 = .ok (.aload_n 0, 1) := by decide +kernel
theorem dX8_readText_29 : decode cX8_readText 29 = .ok (.getfield 13, 3) := by decide +kernel
theorem dX8_readText_32 : decode cX8_readText 32 = .ok (.iload_n 1, 1) := by decide +kernel
theorem dX8_readText_33 : decode cX8_readText 33 = .ok (.iload_n 1, 1) := by decide +kernel
theorem dX8_readText_34 : decode cX8_readText 34 = .ok (.iconst 2, 1) := by decide +kernel
theorem dX8_readText_35 : decode cX8_readText 35 = .ok (.if_icmp .ne 7, 3) := by decide +kernel
theorem dX8_readText_38 : decode cX8_readText 38 = .ok (.iconst (-1), 1) := by decide +kernel
theorem dX8_readText_39 : decode cX8_readText 39 = .ok (.goto 4, 3) := by decide +kernel
theorem dX8_readText_42 : decode cX8_readText 42 = .ok (.iconst 0, 1) := by decide +kernel
theorem dX8_readText_43 : decode cX8_readText 43 = .ok (.iastore, 1) := by decide +kernel
theorem dX8_readText_44 : decode cX8_readText 44 = .ok (.iinc 1 1, 3) := by decide +kernel
theorem dX8_readText_47 : decode cX8_readText 47 = .ok (.goto (-25), 3) := by decide +kernel
theorem dX8_readText_50 : decode cX8_readText 50 = .ok (.aload_n 0, 1) := by decide +kernel
theorem dX8_readText_51 : decode cX8_readText 51 = .ok (.invokevirtual 116, 3) := by decide +kernel
theorem dX8_readText_54 : decode cX8_readText 54 = .ok (.iconst (-1), 1) := by decide +kernel
theorem dX8_readText_55 : decode cX8_readText 55 = .ok (.if_icmp .eq 54, 3) := by decide +kernel
theorem dX8_readText_58 : decode cX8_readText 58 = .ok (.aload_n 0, 1) := by decide +kernel
theorem dX8_readText_59 : decode cX8_readText 59 = .ok (.invokevirtual 211, 3) := by decide +kernel
theorem dX8_readText_62 : decode cX8_readText 62 = .ok (.ifCond .ne 5, 3) := by decide +kernel
theorem dX8_readText_65 : decode cX8_readText 65 = .ok (.iconst 0, 1) := by decide +kernel
theorem dX8_readText_66 : decode cX8_readText 66 = .ok (.ireturn, 1) := by decide +kernel
theorem dX8_readText_67 : decode cX8_readText 67 = .ok (.aload_n 0, 1) := by decide +kernel
theorem dX8_readText_68 : decode cX8_readText 68 = .ok (.invokevirtual 116, 3) := by decide +kernel
theorem dX8_readText_71 : decode cX8_readText 71 = .ok (.bipush 59, 2) := by decide +kernel
theorem dX8_readText_73 : decode cX8_readText 73 = .ok (.if_icmp .eq 13, 3) := by decide +kernel
theorem dX8_readText_76 : decode cX8_readText 76 = .ok (.aload_n 0, 1) := by decide +kernel
theorem dX8_readText_77 : decode cX8_readText 77 = .ok (.iconst 1, 1) := by decide +kernel
theorem dX8_readText_78 : decode cX8_readText 78 = .ok (.aload_n 0, 1) := by decide +kernel
theorem dX8_readText_79 : decode cX8_readText 79 = .ok (.getfield 110, 3) := by decide +kernel
theorem dX8_readText_82 : decode cX8_readText 82 = .ok (.invokevirtual 137, 3) := by decide +kernel
theorem dX8_readText_85 : decode cX8_readText 85 = .ok (.ireturn, 1) := by decide +kernel
theorem dX8_readText_86 : decode cX8_readText 86 = .ok (.aload_n 0, 1) := by decide +kernel
theorem dX8_readText_87 : decode cX8_readText 87 = .ok (.dup, 1) := by decide +kernel
theorem dX8_readText_88 : decode cX8_readText 88 = .ok (.getfield 110, 3) := by decide +kernel
theorem dX8_readText_91 : decode cX8_readText 91 = .ok (.iconst 1, 1) := by decide +kernel
theorem dX8_readText_92 : decode cX8_readText 92 = .ok (.iadd, 1) := by decide +kernel
theorem dX8_readText_93 : decode cX8_readText 93 = .ok (.putfield 110, 3) := by decide +kernel
theorem dX8_readText_96 : decode cX8_readText 96 = .ok (.aload_n 0, 1) := by decide +kernel
theorem dX8_readText_97 : decode cX8_readText 97 = .ok (.dup, 1) := by decide +kernel
theorem dX8_readText_98 : decode cX8_readText 98 = .ok (.getfield 208, 3) := by decide +kernel
theorem dX8_readText_101 : decode cX8_readText 101 = .ok (.iconst 1, 1) := by decide +kernel
theorem dX8_readText_102 : decode cX8_readText 102 = .ok (.iadd, 1) := by decide +kernel
theorem dX8_readText_103 : decode cX8_readText 103 = .ok (.putfield 208, 3) := by decide +kernel
theorem dX8_readText_106 : decode cX8_readText 106 = .ok (.goto (-56), 3) := by decide +kernel
theorem dX8_readText_109 : decode cX8_readText 109 = .ok (.iconst 1, 1) := by decide +kernel
theorem dX8_readText_110 : decode cX8_readText 110 = .ok (.ireturn, 1) := by decide +kernel
theorem dX8_tell_0 : decode cX8_tell 0 = .ok (.aload_n 0, 1) := by decide +kernel
theorem dX8_tell_1 : decode cX8_tell 1 = .ok (.iconst 0, 1) := by decide +kernel
theorem dX8_tell_2 : decode cX8_tell 2 = .ok (.putfield 95, 3) := by decide +kernel
theorem dX8_tell_5 : decode cX8_tell 5 = .ok (.aload_n 0, 1) := by decide +kernel
theorem dX8_tell_6 : decode cX8_tell 6 = .ok (.invokevirtual 214, 3) := by decide +kernel
theorem dX8_tell_9 : decode cX8_tell 9 = .ok (.istore_n 1, 1) := by decide +kernel
theorem dX8_tell_10 : decode cX8_tell 10 = .ok (.aload_n 0, 1) := by decide +kernel
theorem dX8_tell_11 : decode cX8_tell 11 = .ok (.iconst 0, 1) := by decide +kernel
theorem dX8_tell_12 : decode cX8_tell 12 = .ok (.putfield 99, 3) := by decide +kernel
theorem dX8_tell_15 : decode cX8_tell 15 = .ok (.aload_n 0, 1) := by decide +kernel
theorem dX8_tell_16 : decode cX8_tell 16 = .ok (.aload_n 0, 1) := by decide +kernel
theorem dX8_tell_17 : decode cX8_tell 17 = .ok (.getfield 113, 3) := by decide +kernel
theorem dX8_tell_20 : decode cX8_tell 20 = .ok (.putfield 217, 3) := by decide +kernel
theorem dX8_tell_23 : decode cX8_tell 23 = .ok (.iload_n 1, 1) := by decide +kernel
theorem dX8_tell_24 : decode cX8_tell 24 = .ok (.ifCond .ne 5, 3) := by decide +kernel
theorem dX8_tell_27 : decode cX8_tell 27 = .ok (.iconst (-1), 1) := by decide +kernel
theorem dX8_tell_28 : decode cX8_tell 28 = .ok (.ireturn, 1) := by decide +kernel
theorem dX8_tell_29 : decode cX8_tell 29 = .ok (.iconst 0, 1) := by decide +kernel
theorem dX8_tell_30 : decode cX8_tell 30 = .ok (.istore_n 2, 1) := by decide +kernel
theorem dX8_tell_31 : decode cX8_tell 31 = .ok (.iload_n 2, 1) := by decide +kernel
theorem dX8_tell_32 : decode cX8_tell 32 = .ok (.bipush 6, 2) := by decide +kernel
theorem dX8_tell_34 : decode cX8_tell 34 = .ok (.if_icmp .ge 105, 3) := by decide +kernel
theorem dX8_tell_37 : decode cX8_tell 37 = .ok (.aload_n 0, 1) := by decide +kernel
theorem dX8_tell_38 : decode cX8_tell 38 = .ok (.getfield 7, 3) := by decide +kernel
theorem dX8_tell_41 : decode cX8_tell 41 = .ok (.iload_n 2, 1) := by decide +kernel
theorem dX8_tell_42 : decode cX8_tell 42 = .ok (.aload_n 0, 1) := by decide +kernel
theorem dX8_tell_43 : decode cX8_tell 43 = .ok (.getfield 13, 3) := by decide +kernel
theorem dX8_tell_46 : decode cX8_tell 46 = .ok (.iload_n 2, 1) := by decide +kernel
theorem dX8_tell_47 : decode cX8_tell 47 = .ok (.iaload, 1) := by decide +kernel
theorem dX8_tell_48 : decode cX8_tell 48 = .ok (.iastore, 1) := by decide +kernel
theorem dX8_tell_49 : decode cX8_tell 49 = .ok (.aload_n 0, 1) := by decide +kernel
theorem dX8_tell_50 : decode cX8_tell 50 = .ok (.getfield 16, 3) := by decide +kernel
theorem dX8_tell_53 : decode cX8_tell 53 = .ok (.iload_n 2, 1) := by decide +kernel
theorem dX8_tell_54 : decode cX8_tell 54 = .ok (.aload_n 0, 1) := by decide +kernel
theorem dX8_tell_55 : decode cX8_tell 55 = .ok (.getfield 28, 3) := by decide +kernel
theorem dX8_tell_58 : decode cX8_tell 58 = .ok (.iload_n 2, 1) := by decide +kernel
theorem dX8_tell_59 : decode cX8_tell 59 = .ok (.iaload, 1) := by decide +kernel
theorem dX8_tell_60 : decode cX8_tell 60 = .ok (.iastore, 1) := by decide +kernel
theorem dX8_tell_61 : decode cX8_tell 61 = .ok (.aload_n 0, 1) := by decide +kernel
theorem dX8_tell_62 : decode cX8_tell 62 = .ok (.getfield 19, 3) := by decide +kernel
theorem dX8_tell_65 : decode cX8_tell 65 = .ok (.iload_n 2, 1) := by decide +kernel
theorem dX8_tell_66 : decode cX8_tell 66 = .ok (.aload_n 0, 1) := by decide +kernel
theorem dX8_tell_67 : decode cX8_tell 67 = .ok (.getfield 31, 3) := by decide +kernel
theorem dX8_tell_70 : decode cX8_tell 70 = .ok (.iload_n 2, 1) := by decide +kernel
theorem dX8_tell_71 : decode cX8_tell 71 = .ok (.iaload, 1) := by decide +kernel
theorem dX8_tell_72 : decode cX8_tell 72 = .ok (.iastore, 1) := by decide +kernel
theorem dX8_tell_73 : decode cX8_tell 73 = .ok (.aload_n 0, 1) := by decide +kernel
theorem dX8_tell_74 : decode cX8_tell 74 = .ok (.getfield 22, 3) := by decide +kernel
theorem dX8_tell_77 : decode cX8_tell 77 = .ok (.iload_n 2, 1) := by decide +kernel
theorem dX8_tell_78 : decode cX8_tell 78 = .ok (.aload_n 0, 1) := by decide +kernel
theorem dX8_tell_79 : decode cX8_tell 79 = .ok (.getfield 34, 3) := by decide +kernel
theorem dX8_tell_82 : decode cX8_tell 82 = .ok (.iload_n 2, 1) := by decide +kernel
theorem dX8_tell_83 : decode cX8_tell 83 = .ok (.iaload, 1) := by decide +kernel
theorem dX8_tell_84 : decode cX8_tell 84 = .ok (.iastore, 1) := by decide +kernel
theorem dX8_tell_85 : decode cX8_tell 85 = .ok (.aload_n 0, 1) := by decide +kernel
theorem dX8_tell_86 : decode cX8_tell 86 = .ok (.getfield 25, 3) := by decide +kernel
theorem dX8_tell_89 : decode cX8_tell 89 = .ok (.iload_n 2, 1) := by decide +kernel
theorem dX8_tell_90 : decode cX8_tell 90 = .ok (.aload_n 0, 1) := by decide +kernel
theorem dX8_tell_91 : decode cX8_tell 91 = .ok (.getfield 37, 3) := by decide +kernel
theorem dX8_tell_94 : decode cX8_tell 94 = .ok (.iload_n 2, 1) := by decide +kernel
theorem dX8_tell_95 : decode cX8_tell 95 = .ok (.iaload, 1) := by decide +kernel
theorem dX8_tell_96 : decode cX8_tell 96 = .ok (.iastore, 1) := by decide +kernel
theorem dX8_tell_97 : decode cX8_tell 97 = .ok (.aload_n 0, 1) := by decide +kernel
theorem dX8_tell_98 : decode cX8_tell 98 = .ok (.getfield 46, 3) := by decide +kernel
theorem dX8_tell_101 : decode cX8_tell 101 = .ok (.iload_n 2, 1) := by decide +kernel
theorem dX8_tell_102 : decode cX8_tell 102 = .ok (.aload_n 0, 1) := by decide +kernel
theorem dX8_tell_103 : decode cX8_tell 103 = .ok (.getfield 55, 3) := by decide +kernel
theorem dX8_tell_106 : decode cX8_tell 106 = .ok (.iload_n 2, 1) := by decide +kernel
theorem dX8_tell_107 : decode cX8_tell 107 = .ok (.iaload, 1) := by decide +kernel
theorem dX8_tell_108 : decode cX8_tell 108 = .ok (.iastore, 1) := by decide +kernel
theorem dX8_tell_109 : decode cX8_tell 109 = .ok (.aload_n 0, 1) := by decide +kernel
theorem dX8_tell_110 : decode cX8_tell 110 = .ok (.getfield 49, 3) := by decide +kernel
theorem dX8_tell_113 : decode cX8_tell 113 = .ok (.iload_n 2, 1) := by decide +kernel
theorem dX8_tell_114 : decode cX8_tell 114 = .ok (.aload_n 0, 1) := by decide +kernel
theorem dX8_tell_115 : decode cX8_tell 115 = .ok (.getfield 58, 3) := by decide +kernel
theorem dX8_tell_118 : decode cX8_tell 118 = .ok (.iload_n 2, 1) := by decide +kernel
theorem dX8_tell_119 : decode cX8_tell 119 = .ok (.iaload, 1) := by decide +kernel
theorem dX8_tell_120 : decode cX8_tell 120 = .ok (.iastore, 1) := by decide +kernel
theorem dX8_tell_121 : decode cX8_tell 121 = .ok (.aload_n 0, 1) := by decide +kernel
theorem dX8_tell_122 : decode cX8_tell 122 = .ok (.getfield 52, 3) := by decide +kernel
theorem dX8_tell_125 : decode cX8_tell 125 = .ok (.iload_n 2, 1) := by decide +kernel
theorem dX8_tell_126 : decode cX8_tell 126 = .ok (.aload_n 0, 1) := by decide +kernel
theorem dX8_tell_127 : decode cX8_tell 127 = .ok (.getfield 61, 3) := by decide +kernel
theorem dX8_tell_130 : decode cX8_tell 130 = .ok (.iload_n 2, 1) := by decide +kernel
theorem dX8_tell_131 : decode cX8_tell 131 = .ok (.iaload, 1) := by decide +kernel
theorem dX8_tell_132 : decode cX8_tell 132 = .ok (.iastore, 1) := by decide +kernel
theorem dX8_tell_133 : decode cX8_tell 133 = .ok (.iinc 2 1, 3) := by decide +kernel
theorem dX8_tell_136 : decode cX8_tell 136 = .ok (.goto (-105), 3) := by decide +kernel
theorem dX8_tell_139 : decode cX8_tell 139 = .ok (.iconst 0, 1) := by decide +kernel
theorem dX8_tell_140 : decode cX8_tell 140 = .ok (.istore_n 2, 1) := by decide +kernel
theorem dX8_tell_141 : decode cX8_tell 141 = .ok (.iload_n 2, 1) := by decide +kernel
theorem dX8_tell_142 : decode cX8_tell 142 = .ok (.bipush 72, 2) := by decide +kernel
theorem dX8_tell_144 : decode cX8_tell 144 = .ok (.if_icmp .ge 21, 3) := by decide +kernel
theorem dX8_tell_147 : decode cX8_tell 147 = .ok (.aload_n 0, 1) := by decide +kernel
theorem dX8_tell_148 : decode cX8_tell 148 = .ok (.getfield 40, 3) := by decide +kernel
theorem dX8_tell_151 : decode cX8_tell 151 = .ok (.iload_n 2, 1) := by decide +kernel
theorem dX8_tell_152 : decode cX8_tell 152 = .ok (.aload_n 0, 1) := by decide +kernel
theorem dX8_tell_153 : decode cX8_tell 153 = .ok (.getfield 43, 3) := by decide +kernel
theorem dX8_tell_156 : decode cX8_tell 156 = .ok (.iload_n 2, 1) := by decide +kernel
theorem dX8_tell_157 : decode cX8_tell 157 = .ok (.iaload, 1) := by decide +kernel
theorem dX8_tell_158 : decode cX8_tell 158 = .ok (.iastore, 1) := by decide +kernel
theorem dX8_tell_159 : decode cX8_tell 159 = .ok (.iinc 2 1, 3) := by decide +kernel
theorem dX8_tell_162 : decode cX8_tell 162 = .ok (.goto (-21), 3) := by decide +kernel
theorem dX8_tell_165 : decode cX8_tell 165 = .ok (.aload_n 0, 1) := by decide +kernel
theorem dX8_tell_166 : decode cX8_tell 166 = .ok (.invokevirtual 220, 3) := by decide +kernel
theorem dX8_tell_169 : decode cX8_tell 169 = .ok (.iconst 0, 1) := by decide +kernel
theorem dX8_tell_170 : decode cX8_tell 170 = .ok (.istore_n 2, 1) := by decide +kernel
theorem dX8_tell_171 : decode cX8_tell 171 = .ok (.iload_n 2, 1) := by decide +kernel
theorem dX8_tell_172 : decode cX8_tell 172 = .ok (.bipush 6, 2) := by decide +kernel
theorem dX8_tell_174 : decode cX8_tell 174 = .ok (.if_icmp .ge 21, 3) := by decide +kernel
theorem dX8_tell_177 : decode cX8_tell 177 = .ok (.aload_n 0, 1) := by decide +kernel
theorem dX8_tell_178 : decode cX8_tell 178 = .ok (.getfield 64, 3) := by decide +kernel
theorem dX8_tell_181 : decode cX8_tell 181 = .ok (.iload_n 2, 1) := by decide +kernel
theorem dX8_tell_182 : decode cX8_tell 182 = .ok (.aload_n 0, 1) := by decide +kernel
theorem dX8_tell_183 : decode cX8_tell 183 = .ok (.getfield 70, 3) := by decide +kernel
theorem dX8_tell_186 : decode cX8_tell 186 = .ok (.iload_n 2, 1) := by decide +kernel
theorem dX8_tell_187 : decode cX8_tell 187 = .ok (.iaload, 1) := by decide +kernel
theorem dX8_tell_188 : decode cX8_tell 188 = .ok (.iastore, 1) := by decide +kernel
theorem dX8_tell_189 : decode cX8_tell 189 = .ok (.iinc 2 1, 3) := by decide +kernel
theorem dX8_tell_192 : decode cX8_tell 192 = .ok (.goto (-21), 3) := by decide +kernel
theorem dX8_tell_195 : decode cX8_tell 195 = .ok (.aload_n 0, 1) := by decide +kernel
theorem dX8_tell_196 : decode cX8_tell 196 = .ok (.getfield 208, 3) := by decide +kernel
theorem dX8_tell_199 : decode cX8_tell 199 = .ok (.ireturn, 1) := by decide +kernel
theorem dX8_fault_0 : decode cX8_fault 0 = .ok (.aload_n 0, 1) := by decide +kernel
theorem dX8_fault_1 : decode cX8_fault 1 = .ok (.iconst 0, 1) := by decide +kernel
theorem dX8_fault_2 : decode cX8_fault 2 = .ok (.putfield 95, 3) := by decide +kernel
theorem dX8_fault_5 : decode cX8_fault 5 = .ok (.aload_n 0, 1) := by decide +kernel
theorem dX8_fault_6 : decode cX8_fault 6 = .ok (.getfield 217, 3) := by decide +kernel
theorem dX8_fault_9 : decode cX8_fault 9 = .ok (.ireturn, 1) := by decide +kernel
theorem dX8_mayStand_0 : decode cX8_mayStand 0 = .ok (.iconst 0, 1) := by decide +kernel
theorem dX8_mayStand_1 : decode cX8_mayStand 1 = .ok (.istore_n 3, 1) := by decide +kernel
theorem dX8_mayStand_2 : decode cX8_mayStand 2 = .ok (.iload_n 3, 1) := by decide +kernel
theorem dX8_mayStand_3 : decode cX8_mayStand 3 = .ok (.aload_n 0, 1) := by decide +kernel
theorem dX8_mayStand_4 : decode cX8_mayStand 4 = .ok (.getfield 7, 3) := by decide +kernel
theorem dX8_mayStand_7 : decode cX8_mayStand 7 = .ok (.iconst 1, 1) := by decide +kernel
theorem dX8_mayStand_8 : decode cX8_mayStand 8 = .ok (.iaload, 1) := by decide +kernel
theorem dX8_mayStand_9 : decode cX8_mayStand 9 = .ok (.if_icmp .ge 71, 3) := by decide +kernel
theorem dX8_mayStand_12 : decode cX8_mayStand 12 = .ok (.aload_n 0, 1) := by decide +kernel
theorem dX8_mayStand_13 : decode cX8_mayStand 13 = .ok (.getfield 16, 3) := by decide +kernel
theorem dX8_mayStand_16 : decode cX8_mayStand 16 = .ok (.iload_n 3, 1) := by decide +kernel
theorem dX8_mayStand_17 : decode cX8_mayStand 17 = .ok (.iaload, 1) := by decide +kernel
theorem dX8_mayStand_18 : decode cX8_mayStand 18 = .ok (.iconst 3, 1) := by decide +kernel
theorem dX8_mayStand_19 : decode cX8_mayStand 19 = .ok (.if_icmp .ne 13, 3) := by decide +kernel
theorem dX8_mayStand_22 : decode cX8_mayStand 22 = .ok (.aload_n 0, 1) := by decide +kernel
theorem dX8_mayStand_23 : decode cX8_mayStand 23 = .ok (.getfield 19, 3) := by decide +kernel
theorem dX8_mayStand_26 : decode cX8_mayStand 26 = .ok (.iload_n 3, 1) := by decide +kernel
theorem dX8_mayStand_27 : decode cX8_mayStand 27 = .ok (.iaload, 1) := by decide +kernel
theorem dX8_mayStand_28 : decode cX8_mayStand 28 = .ok (.iload_n 1, 1) := by decide +kernel
theorem dX8_mayStand_29 : decode cX8_mayStand 29 = .ok (.if_icmp .eq 23, 3) := by decide +kernel
theorem dX8_mayStand_32 : decode cX8_mayStand 32 = .ok (.aload_n 0, 1) := by decide +kernel
theorem dX8_mayStand_33 : decode cX8_mayStand 33 = .ok (.getfield 16, 3) := by decide +kernel
theorem dX8_mayStand_36 : decode cX8_mayStand 36 = .ok (.iload_n 1, 1) := by decide +kernel
theorem dX8_mayStand_37 : decode cX8_mayStand 37 = .ok (.iaload, 1) := by decide +kernel
theorem dX8_mayStand_38 : decode cX8_mayStand 38 = .ok (.iconst 1, 1) := by decide +kernel
theorem dX8_mayStand_39 : decode cX8_mayStand 39 = .ok (.if_icmp .ne 17, 3) := by decide +kernel
theorem dX8_mayStand_42 : decode cX8_mayStand 42 = .ok (.aload_n 0, 1) := by decide +kernel
theorem dX8_mayStand_43 : decode cX8_mayStand 43 = .ok (.getfield 16, 3) := by decide +kernel
theorem dX8_mayStand_46 : decode cX8_mayStand 46 = .ok (.iload_n 3, 1) := by decide +kernel
theorem dX8_mayStand_47 : decode cX8_mayStand 47 = .ok (.iaload, 1) := by decide +kernel
theorem dX8_mayStand_48 : decode cX8_mayStand 48 = .ok (.iconst 2, 1) := by decide +kernel
theorem dX8_mayStand_49 : decode cX8_mayStand 49 = .ok (.if_icmp .ne 7, 3) := by decide +kernel
theorem dX8_mayStand_52 : decode cX8_mayStand 52 = .ok (.iconst 1, 1) := by decide +kernel
theorem dX8_mayStand_53 : decode cX8_mayStand 53 = .ok (.goto 4, 3) := by decide +kernel
theorem dX8_mayStand_56 : decode cX8_mayStand 56 = .ok (.iconst 0, 1) := by decide +kernel
theorem dX8_mayStand_57 : decode cX8_mayStand 57 = .ok (.istore 4, 2) := by decide +kernel
theorem dX8_mayStand_59 : decode cX8_mayStand 59 = .ok (.iload 4, 2) := by decide +kernel
theorem dX8_mayStand_61 : decode cX8_mayStand 61 = .ok (.ifCond .eq 13, 3) := by decide +kernel
theorem dX8_mayStand_64 : decode cX8_mayStand 64 = .ok (.iload_n 2, 1) := by decide +kernel
theorem dX8_mayStand_65 : decode cX8_mayStand 65 = .ok (.iload_n 3, 1) := by decide +kernel
theorem dX8_mayStand_66 : decode cX8_mayStand 66 = .ok (.invokestatic 133, 3) := by decide +kernel
theorem dX8_mayStand_69 : decode cX8_mayStand 69 = .ok (.ifCond .ne 5, 3) := by decide +kernel
theorem dX8_mayStand_72 : decode cX8_mayStand 72 = .ok (.iconst 0, 1) := by decide +kernel
theorem dX8_mayStand_73 : decode cX8_mayStand 73 = .ok (.ireturn, 1) := by decide +kernel
theorem dX8_mayStand_74 : decode cX8_mayStand 74 = .ok (.iinc 3 1, 3) := by decide +kernel
theorem dX8_mayStand_77 : decode cX8_mayStand 77 = .ok (.goto (-75), 3) := by decide +kernel
theorem dX8_mayStand_80 : decode cX8_mayStand 80 = .ok (.iconst 1, 1) := by decide +kernel
theorem dX8_mayStand_81 : decode cX8_mayStand 81 = .ok (.ireturn, 1) := by decide +kernel
theorem dX8_laysLeast_0 : decode cX8_laysLeast 0 = .ok (.iconst 0, 1) := by decide +kernel
theorem dX8_laysLeast_1 : decode cX8_laysLeast 1 = .ok (.istore_n 1, 1) := by decide +kernel
theorem dX8_laysLeast_2 : decode cX8_laysLeast 2 = .ok (.iconst 0, 1) := by decide +kernel
theorem dX8_laysLeast_3 : decode cX8_laysLeast 3 = .ok (.istore_n 2, 1) := by decide +kernel
theorem dX8_laysLeast_4 : decode cX8_laysLeast 4 = .ok (.iload_n 2, 1) := by decide +kernel
theorem dX8_laysLeast_5 : decode cX8_laysLeast 5 = .ok (.aload_n 0, 1) := by decide +kernel
theorem dX8_laysLeast_6 : decode cX8_laysLeast 6 = .ok (.getfield 7, 3) := by decide +kernel
theorem dX8_laysLeast_9 : decode cX8_laysLeast 9 = .ok (.iconst 1, 1) := by decide +kernel
theorem dX8_laysLeast_10 : decode cX8_laysLeast 10 = .ok (.iaload, 1) := by decide +kernel
theorem dX8_laysLeast_11 : decode cX8_laysLeast 11 = .ok (.if_icmp .ge 47, 3) := by decide +kernel
theorem dX8_laysLeast_14 : decode cX8_laysLeast 14 = .ok (.iconst 0, 1) := by decide +kernel
theorem dX8_laysLeast_15 : decode cX8_laysLeast 15 = .ok (.istore_n 3, 1) := by decide +kernel
theorem dX8_laysLeast_16 : decode cX8_laysLeast 16 = .ok (.iload_n 1, 1) := by decide +kernel
theorem dX8_laysLeast_17 : decode cX8_laysLeast 17 = .ok (.iload_n 3, 1) := by decide +kernel
theorem dX8_laysLeast_18 : decode cX8_laysLeast 18 = .ok (.invokestatic 133, 3) := by decide +kernel
theorem dX8_laysLeast_21 : decode cX8_laysLeast 21 = .ok (.ifCond .ne 12, 3) := by decide +kernel
theorem dX8_laysLeast_24 : decode cX8_laysLeast 24 = .ok (.aload_n 0, 1) := by decide +kernel
theorem dX8_laysLeast_25 : decode cX8_laysLeast 25 = .ok (.iload_n 3, 1) := by decide +kernel
theorem dX8_laysLeast_26 : decode cX8_laysLeast 26 = .ok (.iload_n 1, 1) := by decide +kernel
theorem dX8_laysLeast_27 : decode cX8_laysLeast 27 = .ok (.invokevirtual 223, 3) := by decide +kernel
theorem dX8_laysLeast_30 : decode cX8_laysLeast 30 = .ok (.ifCond .ne 9, 3) := by decide +kernel
theorem dX8_laysLeast_33 : decode cX8_laysLeast 33 = .ok (.iinc 3 1, 3) := by decide +kernel
theorem dX8_laysLeast_36 : decode cX8_laysLeast 36 = .ok (.goto (-20), 3) := by decide +kernel
theorem dX8_laysLeast_39 : decode cX8_laysLeast 39 = .ok (.aload_n 0, 1) := by decide +kernel
theorem dX8_laysLeast_40 : decode cX8_laysLeast 40 = .ok (.getfield 70, 3) := by decide +kernel
theorem dX8_laysLeast_43 : decode cX8_laysLeast 43 = .ok (.iload_n 2, 1) := by decide +kernel
theorem dX8_laysLeast_44 : decode cX8_laysLeast 44 = .ok (.iload_n 3, 1) := by decide +kernel
theorem dX8_laysLeast_45 : decode cX8_laysLeast 45 = .ok (.iastore, 1) := by decide +kernel
theorem dX8_laysLeast_46 : decode cX8_laysLeast 46 = .ok (.iload_n 1, 1) := by decide +kernel
theorem dX8_laysLeast_47 : decode cX8_laysLeast 47 = .ok (.iconst 1, 1) := by decide +kernel
theorem dX8_laysLeast_48 : decode cX8_laysLeast 48 = .ok (.iload_n 3, 1) := by decide +kernel
theorem dX8_laysLeast_49 : decode cX8_laysLeast 49 = .ok (.ishl, 1) := by decide +kernel
theorem dX8_laysLeast_50 : decode cX8_laysLeast 50 = .ok (.ior, 1) := by decide +kernel
theorem dX8_laysLeast_51 : decode cX8_laysLeast 51 = .ok (.istore_n 1, 1) := by decide +kernel
theorem dX8_laysLeast_52 : decode cX8_laysLeast 52 = .ok (.iinc 2 1, 3) := by decide +kernel
theorem dX8_laysLeast_55 : decode cX8_laysLeast 55 = .ok (.goto (-51), 3) := by decide +kernel
theorem dX8_laysLeast_58 : decode cX8_laysLeast 58 = .ok (.return_, 1) := by decide +kernel
theorem dX8_isGood_0 : decode cX8_isGood 0 = .ok (.iconst 0, 1) := by decide +kernel
theorem dX8_isGood_1 : decode cX8_isGood 1 = .ok (.istore_n 1, 1) := by decide +kernel
theorem dX8_isGood_2 : decode cX8_isGood 2 = .ok (.iconst 0, 1) := by decide +kernel
theorem dX8_isGood_3 : decode cX8_isGood 3 = .ok (.istore_n 2, 1) := by decide +kernel
theorem dX8_isGood_4 : decode cX8_isGood 4 = .ok (.iload_n 2, 1) := by decide +kernel
theorem dX8_isGood_5 : decode cX8_isGood 5 = .ok (.aload_n 0, 1) := by decide +kernel
theorem dX8_isGood_6 : decode cX8_isGood 6 = .ok (.getfield 7, 3) := by decide +kernel
theorem dX8_isGood_9 : decode cX8_isGood 9 = .ok (.iconst 1, 1) := by decide +kernel
theorem dX8_isGood_10 : decode cX8_isGood 10 = .ok (.iaload, 1) := by decide +kernel
theorem dX8_isGood_11 : decode cX8_isGood 11 = .ok (.if_icmp .ge 51, 3) := by decide +kernel
theorem dX8_isGood_14 : decode cX8_isGood 14 = .ok (.aload_n 0, 1) := by decide +kernel
theorem dX8_isGood_15 : decode cX8_isGood 15 = .ok (.getfield 70, 3) := by decide +kernel
theorem dX8_isGood_18 : decode cX8_isGood 18 = .ok (.iload_n 2, 1) := by decide +kernel
theorem dX8_isGood_19 : decode cX8_isGood 19 = .ok (.iaload, 1) := by decide +kernel
theorem dX8_isGood_20 : decode cX8_isGood 20 = .ok (.istore_n 3, 1) := by decide +kernel
theorem dX8_isGood_21 : decode cX8_isGood 21 = .ok (.iload_n 3, 1) := by decide +kernel
theorem dX8_isGood_22 : decode cX8_isGood 22 = .ok (.aload_n 0, 1) := by decide +kernel
theorem dX8_isGood_23 : decode cX8_isGood 23 = .ok (.getfield 7, 3) := by decide +kernel
theorem dX8_isGood_26 : decode cX8_isGood 26 = .ok (.iconst 1, 1) := by decide +kernel
theorem dX8_isGood_27 : decode cX8_isGood 27 = .ok (.iaload, 1) := by decide +kernel
theorem dX8_isGood_28 : decode cX8_isGood 28 = .ok (.if_icmp .ge 20, 3) := by decide +kernel
theorem dX8_isGood_31 : decode cX8_isGood 31 = .ok (.iload_n 1, 1) := by decide +kernel
theorem dX8_isGood_32 : decode cX8_isGood 32 = .ok (.iload_n 3, 1) := by decide +kernel
theorem dX8_isGood_33 : decode cX8_isGood 33 = .ok (.invokestatic 133, 3) := by decide +kernel
theorem dX8_isGood_36 : decode cX8_isGood 36 = .ok (.ifCond .ne 12, 3) := by decide +kernel
theorem dX8_isGood_39 : decode cX8_isGood 39 = .ok (.aload_n 0, 1) := by decide +kernel
theorem dX8_isGood_40 : decode cX8_isGood 40 = .ok (.iload_n 3, 1) := by decide +kernel
theorem dX8_isGood_41 : decode cX8_isGood 41 = .ok (.iload_n 1, 1) := by decide +kernel
theorem dX8_isGood_42 : decode cX8_isGood 42 = .ok (.invokevirtual 223, 3) := by decide +kernel
theorem dX8_isGood_45 : decode cX8_isGood 45 = .ok (.ifCond .ne 5, 3) := by decide +kernel
theorem dX8_isGood_48 : decode cX8_isGood 48 = .ok (.iconst 0, 1) := by decide +kernel
theorem dX8_isGood_49 : decode cX8_isGood 49 = .ok (.ireturn, 1) := by decide +kernel
theorem dX8_isGood_50 : decode cX8_isGood 50 = .ok (.iload_n 1, 1) := by decide +kernel
theorem dX8_isGood_51 : decode cX8_isGood 51 = .ok (.iconst 1, 1) := by decide +kernel
theorem dX8_isGood_52 : decode cX8_isGood 52 = .ok (.iload_n 3, 1) := by decide +kernel
theorem dX8_isGood_53 : decode cX8_isGood 53 = .ok (.ishl, 1) := by decide +kernel
theorem dX8_isGood_54 : decode cX8_isGood 54 = .ok (.ior, 1) := by decide +kernel
theorem dX8_isGood_55 : decode cX8_isGood 55 = .ok (.istore_n 1, 1) := by decide +kernel
theorem dX8_isGood_56 : decode cX8_isGood 56 = .ok (.iinc 2 1, 3) := by decide +kernel
theorem dX8_isGood_59 : decode cX8_isGood 59 = .ok (.goto (-55), 3) := by decide +kernel
theorem dX8_isGood_62 : decode cX8_isGood 62 = .ok (.iconst 1, 1) := by decide +kernel
theorem dX8_isGood_63 : decode cX8_isGood 63 = .ok (.ireturn, 1) := by decide +kernel
theorem dX8_goesOn_0 : decode cX8_goesOn 0 = .ok (.aload_n 0, 1) := by decide +kernel
theorem dX8_goesOn_1 : decode cX8_goesOn 1 = .ok (.getfield 7, 3) := by decide +kernel
theorem dX8_goesOn_4 : decode cX8_goesOn 4 = .ok (.iconst 1, 1) := by decide +kernel
theorem dX8_goesOn_5 : decode cX8_goesOn 5 = .ok (.iaload, 1) := by decide +kernel
theorem dX8_goesOn_6 : decode cX8_goesOn 6 = .ok (.istore_n 1, 1) := by decide +kernel
theorem dX8_goesOn_7 : decode cX8_goesOn 7 = .ok (.iload_n 1, 1) := by decide +kernel
theorem dX8_goesOn_8 : decode cX8_goesOn 8 = .ok (.iconst 2, 1) := by decide +kernel
theorem dX8_goesOn_9 : decode cX8_goesOn 9 = .ok (.isub, 1) := by decide +kernel
theorem dX8_goesOn_10 : decode cX8_goesOn 10 = .ok (.istore_n 2, 1) := by decide +kernel
theorem dX8_goesOn_11 : decode cX8_goesOn 11 = .ok (.iload_n 2, 1) := by decide +kernel
theorem dX8_goesOn_12 : decode cX8_goesOn 12 = .ok (.ifCond .lt 26, 3) := by decide +kernel
theorem dX8_goesOn_15 : decode cX8_goesOn 15 = .ok (.aload_n 0, 1) := by decide +kernel
theorem dX8_goesOn_16 : decode cX8_goesOn 16 = .ok (.getfield 70, 3) := by decide +kernel
theorem dX8_goesOn_19 : decode cX8_goesOn 19 = .ok (.iload_n 2, 1) := by decide +kernel
theorem dX8_goesOn_20 : decode cX8_goesOn 20 = .ok (.iaload, 1) := by decide +kernel
theorem dX8_goesOn_21 : decode cX8_goesOn 21 = .ok (.aload_n 0, 1) := by decide +kernel
theorem dX8_goesOn_22 : decode cX8_goesOn 22 = .ok (.getfield 70, 3) := by decide +kernel
theorem dX8_goesOn_25 : decode cX8_goesOn 25 = .ok (.iload_n 2, 1) := by decide +kernel
theorem dX8_goesOn_26 : decode cX8_goesOn 26 = .ok (.iconst 1, 1) := by decide +kernel
theorem dX8_goesOn_27 : decode cX8_goesOn 27 = .ok (.iadd, 1) := by decide +kernel
theorem dX8_goesOn_28 : decode cX8_goesOn 28 = .ok (.iaload, 1) := by decide +kernel
theorem dX8_goesOn_29 : decode cX8_goesOn 29 = .ok (.if_icmp .le 9, 3) := by decide +kernel
theorem dX8_goesOn_32 : decode cX8_goesOn 32 = .ok (.iinc 2 (-1), 3) := by decide +kernel
theorem dX8_goesOn_35 : decode cX8_goesOn 35 = .ok (.goto (-24), 3) := by decide +kernel
theorem dX8_goesOn_38 : decode cX8_goesOn 38 = .ok (.iload_n 2, 1) := by decide +kernel
theorem dX8_goesOn_39 : decode cX8_goesOn 39 = .ok (.ifCond .ge 5, 3) := by decide +kernel
theorem dX8_goesOn_42 : decode cX8_goesOn 42 = .ok (.iconst 0, 1) := by decide +kernel
theorem dX8_goesOn_43 : decode cX8_goesOn 43 = .ok (.ireturn, 1) := by decide +kernel
theorem dX8_goesOn_44 : decode cX8_goesOn 44 = .ok (.iload_n 1, 1) := by decide +kernel
theorem dX8_goesOn_45 : decode cX8_goesOn 45 = .ok (.iconst 1, 1) := by decide +kernel
theorem dX8_goesOn_46 : decode cX8_goesOn 46 = .ok (.isub, 1) := by decide +kernel
theorem dX8_goesOn_47 : decode cX8_goesOn 47 = .ok (.istore_n 3, 1) := by decide +kernel
theorem dX8_goesOn_48 : decode cX8_goesOn 48 = .ok (.aload_n 0, 1) := by decide +kernel
theorem dX8_goesOn_49 : decode cX8_goesOn 49 = .ok (.getfield 70, 3) := by decide +kernel
theorem dX8_goesOn_52 : decode cX8_goesOn 52 = .ok (.iload_n 3, 1) := by decide +kernel
theorem dX8_goesOn_53 : decode cX8_goesOn 53 = .ok (.iaload, 1) := by decide +kernel
theorem dX8_goesOn_54 : decode cX8_goesOn 54 = .ok (.aload_n 0, 1) := by decide +kernel
theorem dX8_goesOn_55 : decode cX8_goesOn 55 = .ok (.getfield 70, 3) := by decide +kernel
theorem dX8_goesOn_58 : decode cX8_goesOn 58 = .ok (.iload_n 2, 1) := by decide +kernel
theorem dX8_goesOn_59 : decode cX8_goesOn 59 = .ok (.iaload, 1) := by decide +kernel
theorem dX8_goesOn_60 : decode cX8_goesOn 60 = .ok (.if_icmp .ge 9, 3) := by decide +kernel
theorem dX8_goesOn_63 : decode cX8_goesOn 63 = .ok (.iinc 3 (-1), 3) := by decide +kernel
theorem dX8_goesOn_66 : decode cX8_goesOn 66 = .ok (.goto (-18), 3) := by decide +kernel
theorem dX8_goesOn_69 : decode cX8_goesOn 69 = .ok (.aload_n 0, 1) := by decide +kernel
theorem dX8_goesOn_70 : decode cX8_goesOn 70 = .ok (.iload_n 2, 1) := by decide +kernel
theorem dX8_goesOn_71 : decode cX8_goesOn 71 = .ok (.iload_n 3, 1) := by decide +kernel
theorem dX8_goesOn_72 : decode cX8_goesOn 72 = .ok (.invokevirtual 226, 3) := by decide +kernel
theorem dX8_goesOn_75 : decode cX8_goesOn 75 = .ok (.iload_n 2, 1) := by decide +kernel
theorem dX8_goesOn_76 : decode cX8_goesOn 76 = .ok (.iconst 1, 1) := by decide +kernel
theorem dX8_goesOn_77 : decode cX8_goesOn 77 = .ok (.iadd, 1) := by decide +kernel
theorem dX8_goesOn_78 : decode cX8_goesOn 78 = .ok (.istore 4, 2) := by decide +kernel
theorem dX8_goesOn_80 : decode cX8_goesOn 80 = .ok (.iload_n 1, 1) := by decide +kernel
theorem dX8_goesOn_81 : decode cX8_goesOn 81 = .ok (.iconst 1, 1) := by decide +kernel
theorem dX8_goesOn_82 : decode cX8_goesOn 82 = .ok (.isub, 1) := by decide +kernel
theorem dX8_goesOn_83 : decode cX8_goesOn 83 = .ok (.istore 5, 2) := by decide +kernel
theorem dX8_goesOn_85 : decode cX8_goesOn 85 = .ok (.iload 4, 2) := by decide +kernel
theorem dX8_goesOn_87 : decode cX8_goesOn 87 = .ok (.iload 5, 2) := by decide +kernel
theorem dX8_goesOn_89 : decode cX8_goesOn 89 = .ok (.if_icmp .ge 20, 3) := by decide +kernel
theorem dX8_goesOn_92 : decode cX8_goesOn 92 = .ok (.aload_n 0, 1) := by decide +kernel
theorem dX8_goesOn_93 : decode cX8_goesOn 93 = .ok (.iload 4, 2) := by decide +kernel
theorem dX8_goesOn_95 : decode cX8_goesOn 95 = .ok (.iload 5, 2) := by decide +kernel
theorem dX8_goesOn_97 : decode cX8_goesOn 97 = .ok (.invokevirtual 226, 3) := by decide +kernel
theorem dX8_goesOn_100 : decode cX8_goesOn 100 = .ok (.iinc 5 (-1), 3) := by decide +kernel
theorem dX8_goesOn_103 : decode cX8_goesOn 103 = .ok (.iinc 4 1, 3) := by decide +kernel
theorem dX8_goesOn_106 : decode cX8_goesOn 106 = .ok (.goto (-21), 3) := by decide +kernel
theorem dX8_goesOn_109 : decode cX8_goesOn 109 = .ok (.iconst 1, 1) := by decide +kernel
theorem dX8_goesOn_110 : decode cX8_goesOn 110 = .ok (.ireturn, 1) := by decide +kernel
theorem dX8_swaps_0 : decode cX8_swaps 0 = .ok (.aload_n 0, 1) := by decide +kernel
theorem dX8_swaps_1 : decode cX8_swaps 1 = .ok (.getfield 70, 3) := by decide +kernel
theorem dX8_swaps_4 : decode cX8_swaps 4 = .ok (.iload_n 1, 1) := by decide +kernel
theorem dX8_swaps_5 : decode cX8_swaps 5 = .ok (.iaload, 1) := by decide +kernel
theorem dX8_swaps_6 : decode cX8_swaps 6 = .ok (.istore_n 3, 1) := by decide +kernel
theorem dX8_swaps_7 : decode cX8_swaps 7 = .ok (.aload_n 0, 1) := by decide +kernel
theorem dX8_swaps_8 : decode cX8_swaps 8 = .ok (.getfield 70, 3) := by decide +kernel
theorem dX8_swaps_11 : decode cX8_swaps 11 = .ok (.iload_n 1, 1) := by decide +kernel
theorem dX8_swaps_12 : decode cX8_swaps 12 = .ok (.aload_n 0, 1) := by decide +kernel
theorem dX8_swaps_13 : decode cX8_swaps 13 = .ok (.getfield 70, 3) := by decide +kernel
theorem dX8_swaps_16 : decode cX8_swaps 16 = .ok (.iload_n 2, 1) := by decide +kernel
theorem dX8_swaps_17 : decode cX8_swaps 17 = .ok (.iaload, 1) := by decide +kernel
theorem dX8_swaps_18 : decode cX8_swaps 18 = .ok (.iastore, 1) := by decide +kernel
theorem dX8_swaps_19 : decode cX8_swaps 19 = .ok (.aload_n 0, 1) := by decide +kernel
theorem dX8_swaps_20 : decode cX8_swaps 20 = .ok (.getfield 70, 3) := by decide +kernel
theorem dX8_swaps_23 : decode cX8_swaps 23 = .ok (.iload_n 2, 1) := by decide +kernel
theorem dX8_swaps_24 : decode cX8_swaps 24 = .ok (.iload_n 3, 1) := by decide +kernel
theorem dX8_swaps_25 : decode cX8_swaps 25 = .ok (.iastore, 1) := by decide +kernel
theorem dX8_swaps_26 : decode cX8_swaps 26 = .ok (.return_, 1) := by decide +kernel
theorem dX8_laysFirst_0 : decode cX8_laysFirst 0 = .ok (.iconst 0, 1) := by decide +kernel
theorem dX8_laysFirst_1 : decode cX8_laysFirst 1 = .ok (.istore_n 1, 1) := by decide +kernel
theorem dX8_laysFirst_2 : decode cX8_laysFirst 2 = .ok (.iload_n 1, 1) := by decide +kernel
theorem dX8_laysFirst_3 : decode cX8_laysFirst 3 = .ok (.aload_n 0, 1) := by decide +kernel
theorem dX8_laysFirst_4 : decode cX8_laysFirst 4 = .ok (.getfield 7, 3) := by decide +kernel
theorem dX8_laysFirst_7 : decode cX8_laysFirst 7 = .ok (.iconst 1, 1) := by decide +kernel
theorem dX8_laysFirst_8 : decode cX8_laysFirst 8 = .ok (.iaload, 1) := by decide +kernel
theorem dX8_laysFirst_9 : decode cX8_laysFirst 9 = .ok (.if_icmp .ge 16, 3) := by decide +kernel
theorem dX8_laysFirst_12 : decode cX8_laysFirst 12 = .ok (.aload_n 0, 1) := by decide +kernel
theorem dX8_laysFirst_13 : decode cX8_laysFirst 13 = .ok (.getfield 70, 3) := by decide +kernel
theorem dX8_laysFirst_16 : decode cX8_laysFirst 16 = .ok (.iload_n 1, 1) := by decide +kernel
theorem dX8_laysFirst_17 : decode cX8_laysFirst 17 = .ok (.iload_n 1, 1) := by decide +kernel
theorem dX8_laysFirst_18 : decode cX8_laysFirst 18 = .ok (.iastore, 1) := by decide +kernel
theorem dX8_laysFirst_19 : decode cX8_laysFirst 19 = .ok (.iinc 1 1, 3) := by decide +kernel
theorem dX8_laysFirst_22 : decode cX8_laysFirst 22 = .ok (.goto (-20), 3) := by decide +kernel
theorem dX8_laysFirst_25 : decode cX8_laysFirst 25 = .ok (.return_, 1) := by decide +kernel
theorem dX8_goodOrders_0 : decode cX8_goodOrders 0 = .ok (.aload_n 0, 1) := by decide +kernel
theorem dX8_goodOrders_1 : decode cX8_goodOrders 1 = .ok (.invokevirtual 230, 3) := by decide +kernel
theorem dX8_goodOrders_4 : decode cX8_goodOrders 4 = .ok (.iconst 0, 1) := by decide +kernel
theorem dX8_goodOrders_5 : decode cX8_goodOrders 5 = .ok (.istore_n 1, 1) := by decide +kernel
theorem dX8_goodOrders_6 : decode cX8_goodOrders 6 = .ok (.iconst 1, 1) := by decide +kernel
theorem dX8_goodOrders_7 : decode cX8_goodOrders 7 = .ok (.istore_n 2, 1) := by decide +kernel
theorem dX8_goodOrders_8 : decode cX8_goodOrders 8 = .ok (.iload_n 2, 1) := by decide +kernel
theorem dX8_goodOrders_9 : decode cX8_goodOrders 9 = .ok (.ifCond .eq 26, 3) := by decide +kernel
theorem dX8_goodOrders_12 : decode cX8_goodOrders 12 = .ok (.iload_n 1, 1) := by decide +kernel
theorem dX8_goodOrders_13 : decode cX8_goodOrders 13 = .ok (.aload_n 0, 1) := by decide +kernel
theorem dX8_goodOrders_14 : decode cX8_goodOrders 14 = .ok (.invokevirtual 233, 3) := by decide +kernel
theorem dX8_goodOrders_17 : decode cX8_goodOrders 17 = .ok (.ifCond .eq 7, 3) := by decide +kernel
theorem dX8_goodOrders_20 : decode cX8_goodOrders 20 = .ok (.iconst 1, 1) := by decide +kernel
theorem dX8_goodOrders_21 : decode cX8_goodOrders 21 = .ok (.goto 4, 3) := by decide +kernel
theorem dX8_goodOrders_24 : decode cX8_goodOrders 24 = .ok (.iconst 0, 1) := by decide +kernel
theorem dX8_goodOrders_25 : decode cX8_goodOrders 25 = .ok (.iadd, 1) := by decide +kernel
theorem dX8_goodOrders_26 : decode cX8_goodOrders 26 = .ok (.istore_n 1, 1) := by decide +kernel
theorem dX8_goodOrders_27 : decode cX8_goodOrders 27 = .ok (.aload_n 0, 1) := by decide +kernel
theorem dX8_goodOrders_28 : decode cX8_goodOrders 28 = .ok (.invokevirtual 236, 3) := by decide +kernel
theorem dX8_goodOrders_31 : decode cX8_goodOrders 31 = .ok (.istore_n 2, 1) := by decide +kernel
theorem dX8_goodOrders_32 : decode cX8_goodOrders 32 = .ok (.goto (-24), 3) := by decide +kernel
theorem dX8_goodOrders_35 : decode cX8_goodOrders 35 = .ok (.iload_n 1, 1) := by decide +kernel
theorem dX8_goodOrders_36 : decode cX8_goodOrders 36 = .ok (.ireturn, 1) := by decide +kernel
theorem dX8_packed_0 : decode cX8_packed 0 = .ok (.iconst 0, 1) := by decide +kernel
theorem dX8_packed_1 : decode cX8_packed 1 = .ok (.istore_n 1, 1) := by decide +kernel
theorem dX8_packed_2 : decode cX8_packed 2 = .ok (.aload_n 0, 1) := by decide +kernel
theorem dX8_packed_3 : decode cX8_packed 3 = .ok (.getfield 7, 3) := by decide +kernel
theorem dX8_packed_6 : decode cX8_packed 6 = .ok (.iconst 1, 1) := by decide +kernel
theorem dX8_packed_7 : decode cX8_packed 7 = .ok (.iaload, 1) := by decide +kernel
theorem dX8_packed_8 : decode cX8_packed 8 = .ok (.iconst 1, 1) := by decide +kernel
theorem dX8_packed_9 : decode cX8_packed 9 = .ok (.isub, 1) := by decide +kernel
theorem dX8_packed_10 : decode cX8_packed 10 = .ok (.istore_n 2, 1) := by decide +kernel
theorem dX8_packed_11 : decode cX8_packed 11 = .ok (.iload_n 2, 1) := by decide +kernel
theorem dX8_packed_12 : decode cX8_packed 12 = .ok (.ifCond .lt 20, 3) := by decide +kernel
theorem dX8_packed_15 : decode cX8_packed 15 = .ok (.iload_n 1, 1) := by decide +kernel
theorem dX8_packed_16 : decode cX8_packed 16 = .ok (.iconst 4, 1) := by decide +kernel
theorem dX8_packed_17 : decode cX8_packed 17 = .ok (.ishl, 1) := by decide +kernel
theorem dX8_packed_18 : decode cX8_packed 18 = .ok (.aload_n 0, 1) := by decide +kernel
theorem dX8_packed_19 : decode cX8_packed 19 = .ok (.getfield 70, 3) := by decide +kernel
theorem dX8_packed_22 : decode cX8_packed 22 = .ok (.iload_n 2, 1) := by decide +kernel
theorem dX8_packed_23 : decode cX8_packed 23 = .ok (.iaload, 1) := by decide +kernel
theorem dX8_packed_24 : decode cX8_packed 24 = .ok (.ior, 1) := by decide +kernel
theorem dX8_packed_25 : decode cX8_packed 25 = .ok (.istore_n 1, 1) := by decide +kernel
theorem dX8_packed_26 : decode cX8_packed 26 = .ok (.iinc 2 (-1), 3) := by decide +kernel
theorem dX8_packed_29 : decode cX8_packed 29 = .ok (.goto (-18), 3) := by decide +kernel
theorem dX8_packed_32 : decode cX8_packed 32 = .ok (.iload_n 1, 1) := by decide +kernel
theorem dX8_packed_33 : decode cX8_packed 33 = .ok (.ireturn, 1) := by decide +kernel
theorem dX8_order_0 : decode cX8_order 0 = .ok (.aload_n 0, 1) := by decide +kernel
theorem dX8_order_1 : decode cX8_order 1 = .ok (.iconst 0, 1) := by decide +kernel
theorem dX8_order_2 : decode cX8_order 2 = .ok (.putfield 95, 3) := by decide +kernel
theorem dX8_order_5 : decode cX8_order 5 = .ok (.iconst 0, 1) := by decide +kernel
theorem dX8_order_6 : decode cX8_order 6 = .ok (.istore_n 2, 1) := by decide +kernel
theorem dX8_order_7 : decode cX8_order 7 = .ok (.iconst 0, 1) := by decide +kernel
theorem dX8_order_8 : decode cX8_order 8 = .ok (.istore_n 3, 1) := by decide +kernel
theorem dX8_order_9 : decode cX8_order 9 = .ok (.iload_n 3, 1) := by decide +kernel
theorem dX8_order_10 : decode cX8_order 10 = .ok (.aload_n 0, 1) := by decide +kernel
theorem dX8_order_11 : decode cX8_order 11 = .ok (.getfield 7, 3) := by decide +kernel
theorem dX8_order_14 : decode cX8_order 14 = .ok (.iconst 1, 1) := by decide +kernel
theorem dX8_order_15 : decode cX8_order 15 = .ok (.iaload, 1) := by decide +kernel
theorem dX8_order_16 : decode cX8_order 16 = .ok (.if_icmp .ge 48, 3) := by decide +kernel
theorem dX8_order_19 : decode cX8_order 19 = .ok (.aload_n 0, 1) := by decide +kernel
theorem dX8_order_20 : decode cX8_order 20 = .ok (.getfield 70, 3) := by decide +kernel
theorem dX8_order_23 : decode cX8_order 23 = .ok (.iload_n 3, 1) := by decide +kernel
theorem dX8_order_24 : decode cX8_order 24 = .ok (.iload_n 1, 1) := by decide +kernel
theorem dX8_order_25 : decode cX8_order 25 = .ok (.iconst 4, 1) := by decide +kernel
theorem dX8_order_26 : decode cX8_order 26 = .ok (.iload_n 3, 1) := by decide +kernel
theorem dX8_order_27 : decode cX8_order 27 = .ok (.imul, 1) := by decide +kernel
theorem dX8_order_28 : decode cX8_order 28 = .ok (.ishr, 1) := by decide +kernel
theorem dX8_order_29 : decode cX8_order 29 = .ok (.bipush 15, 2) := by decide +kernel
theorem dX8_order_31 : decode cX8_order 31 = .ok (.iand, 1) := by decide +kernel
theorem dX8_order_32 : decode cX8_order 32 = .ok (.iastore, 1) := by decide +kernel
theorem dX8_order_33 : decode cX8_order 33 = .ok (.iload_n 2, 1) := by decide +kernel
theorem dX8_order_34 : decode cX8_order 34 = .ok (.ifCond .ne 18, 3) := by decide +kernel
end
section
theorem dX8_order_37 : decode cX8_order 37 = .ok (.aload_n 0, 1) := by decide +kernel
theorem dX8_order_38 : decode cX8_order 38 = .ok (.getfield 70, 3) := by decide +kernel
theorem dX8_order_41 : decode cX8_order 41 = .ok (.iload_n 3, 1) := by decide +kernel
theorem dX8_order_42 : decode cX8_order 42 = .ok (.iaload, 1) := by decide +kernel
theorem dX8_order_43 : decode cX8_order 43 = .ok (.aload_n 0, 1) := by decide +kernel
theorem dX8_order_44 : decode cX8_order 44 = .ok (.getfield 64, 3) := by decide +kernel
theorem dX8_order_47 : decode cX8_order 47 = .ok (.iload_n 3, 1) := by decide +kernel
theorem dX8_order_48 : decode cX8_order 48 = .ok (.iaload, 1) := by decide +kernel
theorem dX8_order_49 : decode cX8_order 49 = .ok (.if_icmp .eq 7, 3) := by decide +kernel
theorem dX8_order_52 : decode cX8_order 52 = .ok (.iconst 1, 1) := by decide +kernel
theorem dX8_order_53 : decode cX8_order 53 = .ok (.goto 4, 3) := by decide +kernel
theorem dX8_order_56 : decode cX8_order 56 = .ok (.iconst 0, 1) := by decide +kernel
theorem dX8_order_57 : decode cX8_order 57 = .ok (.istore_n 2, 1) := by decide +kernel
theorem dX8_order_58 : decode cX8_order 58 = .ok (.iinc 3 1, 3) := by decide +kernel
theorem dX8_order_61 : decode cX8_order 61 = .ok (.goto (-52), 3) := by decide +kernel
theorem dX8_order_64 : decode cX8_order 64 = .ok (.iload_n 1, 1) := by decide +kernel
theorem dX8_order_65 : decode cX8_order 65 = .ok (.ifCond .lt 27, 3) := by decide +kernel
theorem dX8_order_68 : decode cX8_order 68 = .ok (.iload_n 1, 1) := by decide +kernel
theorem dX8_order_69 : decode cX8_order 69 = .ok (.iconst 4, 1) := by decide +kernel
theorem dX8_order_70 : decode cX8_order 70 = .ok (.aload_n 0, 1) := by decide +kernel
theorem dX8_order_71 : decode cX8_order 71 = .ok (.getfield 7, 3) := by decide +kernel
theorem dX8_order_74 : decode cX8_order 74 = .ok (.iconst 1, 1) := by decide +kernel
theorem dX8_order_75 : decode cX8_order 75 = .ok (.iaload, 1) := by decide +kernel
theorem dX8_order_76 : decode cX8_order 76 = .ok (.imul, 1) := by decide +kernel
theorem dX8_order_77 : decode cX8_order 77 = .ok (.ishr, 1) := by decide +kernel
theorem dX8_order_78 : decode cX8_order 78 = .ok (.ifCond .ne 14, 3) := by decide +kernel
theorem dX8_order_81 : decode cX8_order 81 = .ok (.iload_n 2, 1) := by decide +kernel
theorem dX8_order_82 : decode cX8_order 82 = .ok (.ifCond .eq 10, 3) := by decide +kernel
theorem dX8_order_85 : decode cX8_order 85 = .ok (.aload_n 0, 1) := by decide +kernel
theorem dX8_order_86 : decode cX8_order 86 = .ok (.invokevirtual 233, 3) := by decide +kernel
theorem dX8_order_89 : decode cX8_order 89 = .ok (.ifCond .ne 5, 3) := by decide +kernel
theorem dX8_order_92 : decode cX8_order 92 = .ok (.iconst 0, 1) := by decide +kernel
theorem dX8_order_93 : decode cX8_order 93 = .ok (.ireturn, 1) := by decide +kernel
theorem dX8_order_94 : decode cX8_order 94 = .ok (.iconst 0, 1) := by decide +kernel
theorem dX8_order_95 : decode cX8_order 95 = .ok (.istore_n 3, 1) := by decide +kernel
theorem dX8_order_96 : decode cX8_order 96 = .ok (.iload_n 3, 1) := by decide +kernel
theorem dX8_order_97 : decode cX8_order 97 = .ok (.aload_n 0, 1) := by decide +kernel
theorem dX8_order_98 : decode cX8_order 98 = .ok (.getfield 7, 3) := by decide +kernel
theorem dX8_order_101 : decode cX8_order 101 = .ok (.iconst 1, 1) := by decide +kernel
theorem dX8_order_102 : decode cX8_order 102 = .ok (.iaload, 1) := by decide +kernel
theorem dX8_order_103 : decode cX8_order 103 = .ok (.if_icmp .ge 21, 3) := by decide +kernel
theorem dX8_order_106 : decode cX8_order 106 = .ok (.aload_n 0, 1) := by decide +kernel
theorem dX8_order_107 : decode cX8_order 107 = .ok (.getfield 64, 3) := by decide +kernel
theorem dX8_order_110 : decode cX8_order 110 = .ok (.iload_n 3, 1) := by decide +kernel
theorem dX8_order_111 : decode cX8_order 111 = .ok (.aload_n 0, 1) := by decide +kernel
theorem dX8_order_112 : decode cX8_order 112 = .ok (.getfield 70, 3) := by decide +kernel
theorem dX8_order_115 : decode cX8_order 115 = .ok (.iload_n 3, 1) := by decide +kernel
theorem dX8_order_116 : decode cX8_order 116 = .ok (.iaload, 1) := by decide +kernel
theorem dX8_order_117 : decode cX8_order 117 = .ok (.iastore, 1) := by decide +kernel
theorem dX8_order_118 : decode cX8_order 118 = .ok (.iinc 3 1, 3) := by decide +kernel
theorem dX8_order_121 : decode cX8_order 121 = .ok (.goto (-25), 3) := by decide +kernel
theorem dX8_order_124 : decode cX8_order 124 = .ok (.iconst 1, 1) := by decide +kernel
theorem dX8_order_125 : decode cX8_order 125 = .ok (.ireturn, 1) := by decide +kernel
theorem dX8_plusOf_0 : decode cX8_plusOf 0 = .ok (.aload_n 0, 1) := by decide +kernel
theorem dX8_plusOf_1 : decode cX8_plusOf 1 = .ok (.getfield 22, 3) := by decide +kernel
theorem dX8_plusOf_4 : decode cX8_plusOf 4 = .ok (.iload_n 1, 1) := by decide +kernel
theorem dX8_plusOf_5 : decode cX8_plusOf 5 = .ok (.iaload, 1) := by decide +kernel
theorem dX8_plusOf_6 : decode cX8_plusOf 6 = .ok (.istore_n 3, 1) := by decide +kernel
theorem dX8_plusOf_7 : decode cX8_plusOf 7 = .ok (.iconst 0, 1) := by decide +kernel
theorem dX8_plusOf_8 : decode cX8_plusOf 8 = .ok (.istore 4, 2) := by decide +kernel
theorem dX8_plusOf_10 : decode cX8_plusOf 10 = .ok (.iload 4, 2) := by decide +kernel
theorem dX8_plusOf_12 : decode cX8_plusOf 12 = .ok (.aload_n 0, 1) := by decide +kernel
theorem dX8_plusOf_13 : decode cX8_plusOf 13 = .ok (.getfield 7, 3) := by decide +kernel
theorem dX8_plusOf_16 : decode cX8_plusOf 16 = .ok (.iconst 1, 1) := by decide +kernel
theorem dX8_plusOf_17 : decode cX8_plusOf 17 = .ok (.iaload, 1) := by decide +kernel
theorem dX8_plusOf_18 : decode cX8_plusOf 18 = .ok (.if_icmp .ge 60, 3) := by decide +kernel
theorem dX8_plusOf_21 : decode cX8_plusOf 21 = .ok (.aload_n 0, 1) := by decide +kernel
theorem dX8_plusOf_22 : decode cX8_plusOf 22 = .ok (.getfield 16, 3) := by decide +kernel
theorem dX8_plusOf_25 : decode cX8_plusOf 25 = .ok (.iload 4, 2) := by decide +kernel
theorem dX8_plusOf_27 : decode cX8_plusOf 27 = .ok (.iaload, 1) := by decide +kernel
theorem dX8_plusOf_28 : decode cX8_plusOf 28 = .ok (.iconst 3, 1) := by decide +kernel
theorem dX8_plusOf_29 : decode cX8_plusOf 29 = .ok (.if_icmp .ne 43, 3) := by decide +kernel
theorem dX8_plusOf_32 : decode cX8_plusOf 32 = .ok (.aload_n 0, 1) := by decide +kernel
theorem dX8_plusOf_33 : decode cX8_plusOf 33 = .ok (.getfield 19, 3) := by decide +kernel
theorem dX8_plusOf_36 : decode cX8_plusOf 36 = .ok (.iload 4, 2) := by decide +kernel
theorem dX8_plusOf_38 : decode cX8_plusOf 38 = .ok (.iaload, 1) := by decide +kernel
theorem dX8_plusOf_39 : decode cX8_plusOf 39 = .ok (.iload_n 1, 1) := by decide +kernel
theorem dX8_plusOf_40 : decode cX8_plusOf 40 = .ok (.if_icmp .ne 32, 3) := by decide +kernel
theorem dX8_plusOf_43 : decode cX8_plusOf 43 = .ok (.iload_n 2, 1) := by decide +kernel
theorem dX8_plusOf_44 : decode cX8_plusOf 44 = .ok (.iload 4, 2) := by decide +kernel
theorem dX8_plusOf_46 : decode cX8_plusOf 46 = .ok (.invokestatic 133, 3) := by decide +kernel
theorem dX8_plusOf_49 : decode cX8_plusOf 49 = .ok (.ifCond .eq 23, 3) := by decide +kernel
theorem dX8_plusOf_52 : decode cX8_plusOf 52 = .ok (.iload_n 3, 1) := by decide +kernel
theorem dX8_plusOf_53 : decode cX8_plusOf 53 = .ok (.aload_n 0, 1) := by decide +kernel
theorem dX8_plusOf_54 : decode cX8_plusOf 54 = .ok (.getfield 25, 3) := by decide +kernel
theorem dX8_plusOf_57 : decode cX8_plusOf 57 = .ok (.iload 4, 2) := by decide +kernel
theorem dX8_plusOf_59 : decode cX8_plusOf 59 = .ok (.iaload, 1) := by decide +kernel
theorem dX8_plusOf_60 : decode cX8_plusOf 60 = .ok (.iconst (-1), 1) := by decide +kernel
theorem dX8_plusOf_61 : decode cX8_plusOf 61 = .ok (.ixor, 1) := by decide +kernel
theorem dX8_plusOf_62 : decode cX8_plusOf 62 = .ok (.iand, 1) := by decide +kernel
theorem dX8_plusOf_63 : decode cX8_plusOf 63 = .ok (.aload_n 0, 1) := by decide +kernel
theorem dX8_plusOf_64 : decode cX8_plusOf 64 = .ok (.getfield 22, 3) := by decide +kernel
theorem dX8_plusOf_67 : decode cX8_plusOf 67 = .ok (.iload 4, 2) := by decide +kernel
theorem dX8_plusOf_69 : decode cX8_plusOf 69 = .ok (.iaload, 1) := by decide +kernel
theorem dX8_plusOf_70 : decode cX8_plusOf 70 = .ok (.ior, 1) := by decide +kernel
theorem dX8_plusOf_71 : decode cX8_plusOf 71 = .ok (.istore_n 3, 1) := by decide +kernel
theorem dX8_plusOf_72 : decode cX8_plusOf 72 = .ok (.iinc 4 1, 3) := by decide +kernel
theorem dX8_plusOf_75 : decode cX8_plusOf 75 = .ok (.goto (-65), 3) := by decide +kernel
theorem dX8_plusOf_78 : decode cX8_plusOf 78 = .ok (.iload_n 3, 1) := by decide +kernel
theorem dX8_plusOf_79 : decode cX8_plusOf 79 = .ok (.ireturn, 1) := by decide +kernel
theorem dX8_formOf_0 : decode cX8_formOf 0 = .ok (.aload_n 0, 1) := by decide +kernel
theorem dX8_formOf_1 : decode cX8_formOf 1 = .ok (.getfield 7, 3) := by decide +kernel
theorem dX8_formOf_4 : decode cX8_formOf 4 = .ok (.iconst 2, 1) := by decide +kernel
theorem dX8_formOf_5 : decode cX8_formOf 5 = .ok (.iaload, 1) := by decide +kernel
theorem dX8_formOf_6 : decode cX8_formOf 6 = .ok (.iconst (-1), 1) := by decide +kernel
theorem dX8_formOf_7 : decode cX8_formOf 7 = .ok (.if_icmp .eq 20, 3) := by decide +kernel
theorem dX8_formOf_10 : decode cX8_formOf 10 = .ok (.iload_n 1, 1) := by decide +kernel
theorem dX8_formOf_11 : decode cX8_formOf 11 = .ok (.aload_n 0, 1) := by decide +kernel
theorem dX8_formOf_12 : decode cX8_formOf 12 = .ok (.getfield 7, 3) := by decide +kernel
theorem dX8_formOf_15 : decode cX8_formOf 15 = .ok (.iconst 2, 1) := by decide +kernel
theorem dX8_formOf_16 : decode cX8_formOf 16 = .ok (.iaload, 1) := by decide +kernel
theorem dX8_formOf_17 : decode cX8_formOf 17 = .ok (.invokestatic 133, 3) := by decide +kernel
theorem dX8_formOf_20 : decode cX8_formOf 20 = .ok (.ifCond .eq 7, 3) := by decide +kernel
theorem dX8_formOf_23 : decode cX8_formOf 23 = .ok (.iconst 1, 1) := by decide +kernel
theorem dX8_formOf_24 : decode cX8_formOf 24 = .ok (.goto 4, 3) := by decide +kernel
theorem dX8_formOf_27 : decode cX8_formOf 27 = .ok (.iconst 0, 1) := by decide +kernel
theorem dX8_formOf_28 : decode cX8_formOf 28 = .ok (.istore_n 2, 1) := by decide +kernel
theorem dX8_formOf_29 : decode cX8_formOf 29 = .ok (.iload_n 2, 1) := by decide +kernel
theorem dX8_formOf_30 : decode cX8_formOf 30 = .ok (.ifCond .eq 17, 3) := by decide +kernel
theorem dX8_formOf_33 : decode cX8_formOf 33 = .ok (.aload_n 0, 1) := by decide +kernel
theorem dX8_formOf_34 : decode cX8_formOf 34 = .ok (.getfield 22, 3) := by decide +kernel
theorem dX8_formOf_37 : decode cX8_formOf 37 = .ok (.aload_n 0, 1) := by decide +kernel
theorem dX8_formOf_38 : decode cX8_formOf 38 = .ok (.getfield 7, 3) := by decide +kernel
theorem dX8_formOf_41 : decode cX8_formOf 41 = .ok (.iconst 2, 1) := by decide +kernel
theorem dX8_formOf_42 : decode cX8_formOf 42 = .ok (.iaload, 1) := by decide +kernel
theorem dX8_formOf_43 : decode cX8_formOf 43 = .ok (.iaload, 1) := by decide +kernel
theorem dX8_formOf_44 : decode cX8_formOf 44 = .ok (.goto 9, 3) := by decide +kernel
theorem dX8_formOf_47 : decode cX8_formOf 47 = .ok (.aload_n 0, 1) := by decide +kernel
theorem dX8_formOf_48 : decode cX8_formOf 48 = .ok (.getfield 7, 3) := by decide +kernel
theorem dX8_formOf_51 : decode cX8_formOf 51 = .ok (.iconst 0, 1) := by decide +kernel
theorem dX8_formOf_52 : decode cX8_formOf 52 = .ok (.iaload, 1) := by decide +kernel
theorem dX8_formOf_53 : decode cX8_formOf 53 = .ok (.istore_n 3, 1) := by decide +kernel
theorem dX8_formOf_54 : decode cX8_formOf 54 = .ok (.iconst 0, 1) := by decide +kernel
theorem dX8_formOf_55 : decode cX8_formOf 55 = .ok (.istore 4, 2) := by decide +kernel
theorem dX8_formOf_57 : decode cX8_formOf 57 = .ok (.iload 4, 2) := by decide +kernel
theorem dX8_formOf_59 : decode cX8_formOf 59 = .ok (.aload_n 0, 1) := by decide +kernel
theorem dX8_formOf_60 : decode cX8_formOf 60 = .ok (.getfield 7, 3) := by decide +kernel
theorem dX8_formOf_63 : decode cX8_formOf 63 = .ok (.iconst 1, 1) := by decide +kernel
theorem dX8_formOf_64 : decode cX8_formOf 64 = .ok (.iaload, 1) := by decide +kernel
theorem dX8_formOf_65 : decode cX8_formOf 65 = .ok (.if_icmp .ge 57, 3) := by decide +kernel
theorem dX8_formOf_68 : decode cX8_formOf 68 = .ok (.iload_n 1, 1) := by decide +kernel
theorem dX8_formOf_69 : decode cX8_formOf 69 = .ok (.iload 4, 2) := by decide +kernel
theorem dX8_formOf_71 : decode cX8_formOf 71 = .ok (.invokestatic 133, 3) := by decide +kernel
theorem dX8_formOf_74 : decode cX8_formOf 74 = .ok (.ifCond .eq 42, 3) := by decide +kernel
theorem dX8_formOf_77 : decode cX8_formOf 77 = .ok (.aload_n 0, 1) := by decide +kernel
theorem dX8_formOf_78 : decode cX8_formOf 78 = .ok (.getfield 16, 3) := by decide +kernel
theorem dX8_formOf_81 : decode cX8_formOf 81 = .ok (.iload 4, 2) := by decide +kernel
theorem dX8_formOf_83 : decode cX8_formOf 83 = .ok (.iaload, 1) := by decide +kernel
theorem dX8_formOf_84 : decode cX8_formOf 84 = .ok (.iload_n 2, 1) := by decide +kernel
theorem dX8_formOf_85 : decode cX8_formOf 85 = .ok (.ifCond .eq 7, 3) := by decide +kernel
theorem dX8_formOf_88 : decode cX8_formOf 88 = .ok (.iconst 2, 1) := by decide +kernel
theorem dX8_formOf_89 : decode cX8_formOf 89 = .ok (.goto 4, 3) := by decide +kernel
theorem dX8_formOf_92 : decode cX8_formOf 92 = .ok (.iconst 0, 1) := by decide +kernel
theorem dX8_formOf_93 : decode cX8_formOf 93 = .ok (.if_icmp .ne 23, 3) := by decide +kernel
theorem dX8_formOf_96 : decode cX8_formOf 96 = .ok (.iload_n 3, 1) := by decide +kernel
theorem dX8_formOf_97 : decode cX8_formOf 97 = .ok (.aload_n 0, 1) := by decide +kernel
theorem dX8_formOf_98 : decode cX8_formOf 98 = .ok (.getfield 25, 3) := by decide +kernel
theorem dX8_formOf_101 : decode cX8_formOf 101 = .ok (.iload 4, 2) := by decide +kernel
theorem dX8_formOf_103 : decode cX8_formOf 103 = .ok (.iaload, 1) := by decide +kernel
theorem dX8_formOf_104 : decode cX8_formOf 104 = .ok (.iconst (-1), 1) := by decide +kernel
theorem dX8_formOf_105 : decode cX8_formOf 105 = .ok (.ixor, 1) := by decide +kernel
theorem dX8_formOf_106 : decode cX8_formOf 106 = .ok (.iand, 1) := by decide +kernel
theorem dX8_formOf_107 : decode cX8_formOf 107 = .ok (.aload_n 0, 1) := by decide +kernel
theorem dX8_formOf_108 : decode cX8_formOf 108 = .ok (.iload 4, 2) := by decide +kernel
theorem dX8_formOf_110 : decode cX8_formOf 110 = .ok (.iload_n 1, 1) := by decide +kernel
theorem dX8_formOf_111 : decode cX8_formOf 111 = .ok (.invokevirtual 239, 3) := by decide +kernel
theorem dX8_formOf_114 : decode cX8_formOf 114 = .ok (.ior, 1) := by decide +kernel
theorem dX8_formOf_115 : decode cX8_formOf 115 = .ok (.istore_n 3, 1) := by decide +kernel
theorem dX8_formOf_116 : decode cX8_formOf 116 = .ok (.iinc 4 1, 3) := by decide +kernel
theorem dX8_formOf_119 : decode cX8_formOf 119 = .ok (.goto (-62), 3) := by decide +kernel
theorem dX8_formOf_122 : decode cX8_formOf 122 = .ok (.iload_n 3, 1) := by decide +kernel
theorem dX8_formOf_123 : decode cX8_formOf 123 = .ok (.ireturn, 1) := by decide +kernel
theorem dX8_form_0 : decode cX8_form 0 = .ok (.aload_n 0, 1) := by decide +kernel
theorem dX8_form_1 : decode cX8_form 1 = .ok (.iconst 0, 1) := by decide +kernel
theorem dX8_form_2 : decode cX8_form 2 = .ok (.putfield 95, 3) := by decide +kernel
theorem dX8_form_5 : decode cX8_form 5 = .ok (.iload_n 1, 1) := by decide +kernel
theorem dX8_form_6 : decode cX8_form 6 = .ok (.iconst 0, 1) := by decide +kernel
theorem dX8_form_7 : decode cX8_form 7 = .ok (.iconst 1, 1) := by decide +kernel
theorem dX8_form_8 : decode cX8_form 8 = .ok (.aload_n 0, 1) := by decide +kernel
theorem dX8_form_9 : decode cX8_form 9 = .ok (.getfield 7, 3) := by decide +kernel
theorem dX8_form_12 : decode cX8_form 12 = .ok (.iconst 1, 1) := by decide +kernel
theorem dX8_form_13 : decode cX8_form 13 = .ok (.iaload, 1) := by decide +kernel
theorem dX8_form_14 : decode cX8_form 14 = .ok (.ishl, 1) := by decide +kernel
theorem dX8_form_15 : decode cX8_form 15 = .ok (.iconst 1, 1) := by decide +kernel
theorem dX8_form_16 : decode cX8_form 16 = .ok (.isub, 1) := by decide +kernel
theorem dX8_form_17 : decode cX8_form 17 = .ok (.invokestatic 106, 3) := by decide +kernel
theorem dX8_form_20 : decode cX8_form 20 = .ok (.ifCond .eq 11, 3) := by decide +kernel
theorem dX8_form_23 : decode cX8_form 23 = .ok (.aload_n 0, 1) := by decide +kernel
theorem dX8_form_24 : decode cX8_form 24 = .ok (.iload_n 1, 1) := by decide +kernel
theorem dX8_form_25 : decode cX8_form 25 = .ok (.invokevirtual 243, 3) := by decide +kernel
theorem dX8_form_28 : decode cX8_form 28 = .ok (.goto 4, 3) := by decide +kernel
theorem dX8_form_31 : decode cX8_form 31 = .ok (.iconst (-1), 1) := by decide +kernel
theorem dX8_form_32 : decode cX8_form 32 = .ok (.ireturn, 1) := by decide +kernel
theorem dX8_likesOf_0 : decode cX8_likesOf 0 = .ok (.iconst 0, 1) := by decide +kernel
theorem dX8_likesOf_1 : decode cX8_likesOf 1 = .ok (.istore_n 3, 1) := by decide +kernel
theorem dX8_likesOf_2 : decode cX8_likesOf 2 = .ok (.iconst 0, 1) := by decide +kernel
theorem dX8_likesOf_3 : decode cX8_likesOf 3 = .ok (.istore 4, 2) := by decide +kernel
theorem dX8_likesOf_5 : decode cX8_likesOf 5 = .ok (.iload 4, 2) := by decide +kernel
theorem dX8_likesOf_7 : decode cX8_likesOf 7 = .ok (.bipush 8, 2) := by decide +kernel
theorem dX8_likesOf_9 : decode cX8_likesOf 9 = .ok (.if_icmp .ge 37, 3) := by decide +kernel
theorem dX8_likesOf_12 : decode cX8_likesOf 12 = .ok (.iload_n 3, 1) := by decide +kernel
theorem dX8_likesOf_13 : decode cX8_likesOf 13 = .ok (.iload_n 2, 1) := by decide +kernel
theorem dX8_likesOf_14 : decode cX8_likesOf 14 = .ok (.iload 4, 2) := by decide +kernel
theorem dX8_likesOf_16 : decode cX8_likesOf 16 = .ok (.invokestatic 133, 3) := by decide +kernel
theorem dX8_likesOf_19 : decode cX8_likesOf 19 = .ok (.ifCond .eq 18, 3) := by decide +kernel
theorem dX8_likesOf_22 : decode cX8_likesOf 22 = .ok (.aload_n 0, 1) := by decide +kernel
theorem dX8_likesOf_23 : decode cX8_likesOf 23 = .ok (.getfield 40, 3) := by decide +kernel
theorem dX8_likesOf_26 : decode cX8_likesOf 26 = .ok (.bipush 8, 2) := by decide +kernel
theorem dX8_likesOf_28 : decode cX8_likesOf 28 = .ok (.iload_n 1, 1) := by decide +kernel
theorem dX8_likesOf_29 : decode cX8_likesOf 29 = .ok (.imul, 1) := by decide +kernel
theorem dX8_likesOf_30 : decode cX8_likesOf 30 = .ok (.iload 4, 2) := by decide +kernel
theorem dX8_likesOf_32 : decode cX8_likesOf 32 = .ok (.iadd, 1) := by decide +kernel
theorem dX8_likesOf_33 : decode cX8_likesOf 33 = .ok (.iaload, 1) := by decide +kernel
theorem dX8_likesOf_34 : decode cX8_likesOf 34 = .ok (.goto 4, 3) := by decide +kernel
theorem dX8_likesOf_37 : decode cX8_likesOf 37 = .ok (.iconst 0, 1) := by decide +kernel
theorem dX8_likesOf_38 : decode cX8_likesOf 38 = .ok (.iadd, 1) := by decide +kernel
theorem dX8_likesOf_39 : decode cX8_likesOf 39 = .ok (.istore_n 3, 1) := by decide +kernel
theorem dX8_likesOf_40 : decode cX8_likesOf 40 = .ok (.iinc 4 1, 3) := by decide +kernel
theorem dX8_likesOf_43 : decode cX8_likesOf 43 = .ok (.goto (-38), 3) := by decide +kernel
theorem dX8_likesOf_46 : decode cX8_likesOf 46 = .ok (.iconst 0, 1) := by decide +kernel
theorem dX8_likesOf_47 : decode cX8_likesOf 47 = .ok (.istore 4, 2) := by decide +kernel
theorem dX8_likesOf_49 : decode cX8_likesOf 49 = .ok (.iload 4, 2) := by decide +kernel
theorem dX8_likesOf_51 : decode cX8_likesOf 51 = .ok (.aload_n 0, 1) := by decide +kernel
theorem dX8_likesOf_52 : decode cX8_likesOf 52 = .ok (.getfield 7, 3) := by decide +kernel
theorem dX8_likesOf_55 : decode cX8_likesOf 55 = .ok (.iconst 4, 1) := by decide +kernel
theorem dX8_likesOf_56 : decode cX8_likesOf 56 = .ok (.iaload, 1) := by decide +kernel
theorem dX8_likesOf_57 : decode cX8_likesOf 57 = .ok (.if_icmp .ge 53, 3) := by decide +kernel
theorem dX8_likesOf_60 : decode cX8_likesOf 60 = .ok (.iload_n 3, 1) := by decide +kernel
theorem dX8_likesOf_61 : decode cX8_likesOf 61 = .ok (.aload_n 0, 1) := by decide +kernel
theorem dX8_likesOf_62 : decode cX8_likesOf 62 = .ok (.getfield 46, 3) := by decide +kernel
theorem dX8_likesOf_65 : decode cX8_likesOf 65 = .ok (.iload 4, 2) := by decide +kernel
theorem dX8_likesOf_67 : decode cX8_likesOf 67 = .ok (.iaload, 1) := by decide +kernel
theorem dX8_likesOf_68 : decode cX8_likesOf 68 = .ok (.iload_n 1, 1) := by decide +kernel
theorem dX8_likesOf_69 : decode cX8_likesOf 69 = .ok (.if_icmp .ne 32, 3) := by decide +kernel
theorem dX8_likesOf_72 : decode cX8_likesOf 72 = .ok (.aload_n 0, 1) := by decide +kernel
theorem dX8_likesOf_73 : decode cX8_likesOf 73 = .ok (.getfield 49, 3) := by decide +kernel
theorem dX8_likesOf_76 : decode cX8_likesOf 76 = .ok (.iload 4, 2) := by decide +kernel
theorem dX8_likesOf_78 : decode cX8_likesOf 78 = .ok (.iaload, 1) := by decide +kernel
theorem dX8_likesOf_79 : decode cX8_likesOf 79 = .ok (.iload_n 2, 1) := by decide +kernel
theorem dX8_likesOf_80 : decode cX8_likesOf 80 = .ok (.iand, 1) := by decide +kernel
theorem dX8_likesOf_81 : decode cX8_likesOf 81 = .ok (.aload_n 0, 1) := by decide +kernel
theorem dX8_likesOf_82 : decode cX8_likesOf 82 = .ok (.getfield 49, 3) := by decide +kernel
theorem dX8_likesOf_85 : decode cX8_likesOf 85 = .ok (.iload 4, 2) := by decide +kernel
theorem dX8_likesOf_87 : decode cX8_likesOf 87 = .ok (.iaload, 1) := by decide +kernel
theorem dX8_likesOf_88 : decode cX8_likesOf 88 = .ok (.if_icmp .ne 13, 3) := by decide +kernel
theorem dX8_likesOf_91 : decode cX8_likesOf 91 = .ok (.aload_n 0, 1) := by decide +kernel
theorem dX8_likesOf_92 : decode cX8_likesOf 92 = .ok (.getfield 52, 3) := by decide +kernel
theorem dX8_likesOf_95 : decode cX8_likesOf 95 = .ok (.iload 4, 2) := by decide +kernel
theorem dX8_likesOf_97 : decode cX8_likesOf 97 = .ok (.iaload, 1) := by decide +kernel
theorem dX8_likesOf_98 : decode cX8_likesOf 98 = .ok (.goto 4, 3) := by decide +kernel
theorem dX8_likesOf_101 : decode cX8_likesOf 101 = .ok (.iconst 0, 1) := by decide +kernel
theorem dX8_likesOf_102 : decode cX8_likesOf 102 = .ok (.iadd, 1) := by decide +kernel
theorem dX8_likesOf_103 : decode cX8_likesOf 103 = .ok (.istore_n 3, 1) := by decide +kernel
theorem dX8_likesOf_104 : decode cX8_likesOf 104 = .ok (.iinc 4 1, 3) := by decide +kernel
theorem dX8_likesOf_107 : decode cX8_likesOf 107 = .ok (.goto (-58), 3) := by decide +kernel
theorem dX8_likesOf_110 : decode cX8_likesOf 110 = .ok (.iload_n 3, 1) := by decide +kernel
theorem dX8_likesOf_111 : decode cX8_likesOf 111 = .ok (.ireturn, 1) := by decide +kernel
theorem dX8_laysLikes_0 : decode cX8_laysLikes 0 = .ok (.iconst 0, 1) := by decide +kernel
theorem dX8_laysLikes_1 : decode cX8_laysLikes 1 = .ok (.istore_n 1, 1) := by decide +kernel
theorem dX8_laysLikes_2 : decode cX8_laysLikes 2 = .ok (.iload_n 1, 1) := by decide +kernel
theorem dX8_laysLikes_3 : decode cX8_laysLikes 3 = .ok (.aload_n 0, 1) := by decide +kernel
theorem dX8_laysLikes_4 : decode cX8_laysLikes 4 = .ok (.getfield 7, 3) := by decide +kernel
theorem dX8_laysLikes_7 : decode cX8_laysLikes 7 = .ok (.iconst 3, 1) := by decide +kernel
theorem dX8_laysLikes_8 : decode cX8_laysLikes 8 = .ok (.iaload, 1) := by decide +kernel
theorem dX8_laysLikes_9 : decode cX8_laysLikes 9 = .ok (.if_icmp .ge 42, 3) := by decide +kernel
theorem dX8_laysLikes_12 : decode cX8_laysLikes 12 = .ok (.iconst 0, 1) := by decide +kernel
theorem dX8_laysLikes_13 : decode cX8_laysLikes 13 = .ok (.istore_n 2, 1) := by decide +kernel
theorem dX8_laysLikes_14 : decode cX8_laysLikes 14 = .ok (.iload_n 2, 1) := by decide +kernel
theorem dX8_laysLikes_15 : decode cX8_laysLikes 15 = .ok (.sipush 256, 3) := by decide +kernel
theorem dX8_laysLikes_18 : decode cX8_laysLikes 18 = .ok (.if_icmp .ge 27, 3) := by decide +kernel
theorem dX8_laysLikes_21 : decode cX8_laysLikes 21 = .ok (.aload_n 0, 1) := by decide +kernel
theorem dX8_laysLikes_22 : decode cX8_laysLikes 22 = .ok (.getfield 73, 3) := by decide +kernel
theorem dX8_laysLikes_25 : decode cX8_laysLikes 25 = .ok (.sipush 256, 3) := by decide +kernel
theorem dX8_laysLikes_28 : decode cX8_laysLikes 28 = .ok (.iload_n 1, 1) := by decide +kernel
theorem dX8_laysLikes_29 : decode cX8_laysLikes 29 = .ok (.imul, 1) := by decide +kernel
theorem dX8_laysLikes_30 : decode cX8_laysLikes 30 = .ok (.iload_n 2, 1) := by decide +kernel
theorem dX8_laysLikes_31 : decode cX8_laysLikes 31 = .ok (.iadd, 1) := by decide +kernel
theorem dX8_laysLikes_32 : decode cX8_laysLikes 32 = .ok (.aload_n 0, 1) := by decide +kernel
theorem dX8_laysLikes_33 : decode cX8_laysLikes 33 = .ok (.iload_n 1, 1) := by decide +kernel
theorem dX8_laysLikes_34 : decode cX8_laysLikes 34 = .ok (.iload_n 2, 1) := by decide +kernel
theorem dX8_laysLikes_35 : decode cX8_laysLikes 35 = .ok (.invokevirtual 247, 3) := by decide +kernel
theorem dX8_laysLikes_38 : decode cX8_laysLikes 38 = .ok (.iastore, 1) := by decide +kernel
theorem dX8_laysLikes_39 : decode cX8_laysLikes 39 = .ok (.iinc 2 1, 3) := by decide +kernel
theorem dX8_laysLikes_42 : decode cX8_laysLikes 42 = .ok (.goto (-28), 3) := by decide +kernel
theorem dX8_laysLikes_45 : decode cX8_laysLikes 45 = .ok (.iinc 1 1, 3) := by decide +kernel
theorem dX8_laysLikes_48 : decode cX8_laysLikes 48 = .ok (.goto (-46), 3) := by decide +kernel
theorem dX8_laysLikes_51 : decode cX8_laysLikes 51 = .ok (.return_, 1) := by decide +kernel
theorem dX8_isPreferred_0 : decode cX8_isPreferred 0 = .ok (.aload_n 0, 1) := by decide +kernel
theorem dX8_isPreferred_1 : decode cX8_isPreferred 1 = .ok (.getfield 73, 3) := by decide +kernel
theorem dX8_isPreferred_4 : decode cX8_isPreferred 4 = .ok (.sipush 256, 3) := by decide +kernel
theorem dX8_isPreferred_7 : decode cX8_isPreferred 7 = .ok (.iload_n 1, 1) := by decide +kernel
theorem dX8_isPreferred_8 : decode cX8_isPreferred 8 = .ok (.imul, 1) := by decide +kernel
theorem dX8_isPreferred_9 : decode cX8_isPreferred 9 = .ok (.iload_n 2, 1) := by decide +kernel
theorem dX8_isPreferred_10 : decode cX8_isPreferred 10 = .ok (.iadd, 1) := by decide +kernel
theorem dX8_isPreferred_11 : decode cX8_isPreferred 11 = .ok (.iaload, 1) := by decide +kernel
theorem dX8_isPreferred_12 : decode cX8_isPreferred 12 = .ok (.aload_n 0, 1) := by decide +kernel
theorem dX8_isPreferred_13 : decode cX8_isPreferred 13 = .ok (.getfield 73, 3) := by decide +kernel
theorem dX8_isPreferred_16 : decode cX8_isPreferred 16 = .ok (.sipush 256, 3) := by decide +kernel
theorem dX8_isPreferred_19 : decode cX8_isPreferred 19 = .ok (.iload_n 1, 1) := by decide +kernel
theorem dX8_isPreferred_20 : decode cX8_isPreferred 20 = .ok (.imul, 1) := by decide +kernel
theorem dX8_isPreferred_21 : decode cX8_isPreferred 21 = .ok (.iload_n 3, 1) := by decide +kernel
theorem dX8_isPreferred_22 : decode cX8_isPreferred 22 = .ok (.iadd, 1) := by decide +kernel
theorem dX8_isPreferred_23 : decode cX8_isPreferred 23 = .ok (.iaload, 1) := by decide +kernel
theorem dX8_isPreferred_24 : decode cX8_isPreferred 24 = .ok (.if_icmp .le 7, 3) := by decide +kernel
theorem dX8_isPreferred_27 : decode cX8_isPreferred 27 = .ok (.iconst 1, 1) := by decide +kernel
theorem dX8_isPreferred_28 : decode cX8_isPreferred 28 = .ok (.goto 4, 3) := by decide +kernel
theorem dX8_isPreferred_31 : decode cX8_isPreferred 31 = .ok (.iconst 0, 1) := by decide +kernel
theorem dX8_isPreferred_32 : decode cX8_isPreferred 32 = .ok (.ireturn, 1) := by decide +kernel
theorem dX8_preferring_0 : decode cX8_preferring 0 = .ok (.iconst 0, 1) := by decide +kernel
theorem dX8_preferring_1 : decode cX8_preferring 1 = .ok (.istore_n 3, 1) := by decide +kernel
theorem dX8_preferring_2 : decode cX8_preferring 2 = .ok (.iconst 0, 1) := by decide +kernel
theorem dX8_preferring_3 : decode cX8_preferring 3 = .ok (.istore 4, 2) := by decide +kernel
theorem dX8_preferring_5 : decode cX8_preferring 5 = .ok (.iload 4, 2) := by decide +kernel
theorem dX8_preferring_7 : decode cX8_preferring 7 = .ok (.aload_n 0, 1) := by decide +kernel
theorem dX8_preferring_8 : decode cX8_preferring 8 = .ok (.getfield 7, 3) := by decide +kernel
theorem dX8_preferring_11 : decode cX8_preferring 11 = .ok (.iconst 3, 1) := by decide +kernel
theorem dX8_preferring_12 : decode cX8_preferring 12 = .ok (.iaload, 1) := by decide +kernel
theorem dX8_preferring_13 : decode cX8_preferring 13 = .ok (.if_icmp .ge 28, 3) := by decide +kernel
theorem dX8_preferring_16 : decode cX8_preferring 16 = .ok (.iload_n 3, 1) := by decide +kernel
theorem dX8_preferring_17 : decode cX8_preferring 17 = .ok (.aload_n 0, 1) := by decide +kernel
theorem dX8_preferring_18 : decode cX8_preferring 18 = .ok (.iload 4, 2) := by decide +kernel
theorem dX8_preferring_20 : decode cX8_preferring 20 = .ok (.iload_n 1, 1) := by decide +kernel
theorem dX8_preferring_21 : decode cX8_preferring 21 = .ok (.iload_n 2, 1) := by decide +kernel
theorem dX8_preferring_22 : decode cX8_preferring 22 = .ok (.invokevirtual 250, 3) := by decide +kernel
theorem dX8_preferring_25 : decode cX8_preferring 25 = .ok (.ifCond .eq 7, 3) := by decide +kernel
theorem dX8_preferring_28 : decode cX8_preferring 28 = .ok (.iconst 1, 1) := by decide +kernel
theorem dX8_preferring_29 : decode cX8_preferring 29 = .ok (.goto 4, 3) := by decide +kernel
theorem dX8_preferring_32 : decode cX8_preferring 32 = .ok (.iconst 0, 1) := by decide +kernel
theorem dX8_preferring_33 : decode cX8_preferring 33 = .ok (.iadd, 1) := by decide +kernel
theorem dX8_preferring_34 : decode cX8_preferring 34 = .ok (.istore_n 3, 1) := by decide +kernel
theorem dX8_preferring_35 : decode cX8_preferring 35 = .ok (.iinc 4 1, 3) := by decide +kernel
theorem dX8_preferring_38 : decode cX8_preferring 38 = .ok (.goto (-33), 3) := by decide +kernel
theorem dX8_preferring_41 : decode cX8_preferring 41 = .ok (.iload_n 3, 1) := by decide +kernel
theorem dX8_preferring_42 : decode cX8_preferring 42 = .ok (.ireturn, 1) := by decide +kernel
theorem dX8_quota_0 : decode cX8_quota 0 = .ok (.aload_n 0, 1) := by decide +kernel
theorem dX8_quota_1 : decode cX8_quota 1 = .ok (.getfield 7, 3) := by decide +kernel
theorem dX8_quota_4 : decode cX8_quota 4 = .ok (.iconst 5, 1) := by decide +kernel
theorem dX8_quota_5 : decode cX8_quota 5 = .ok (.iaload, 1) := by decide +kernel
theorem dX8_quota_6 : decode cX8_quota 6 = .ok (.ifCond .le 12, 3) := by decide +kernel
theorem dX8_quota_9 : decode cX8_quota 9 = .ok (.aload_n 0, 1) := by decide +kernel
theorem dX8_quota_10 : decode cX8_quota 10 = .ok (.getfield 7, 3) := by decide +kernel
theorem dX8_quota_13 : decode cX8_quota 13 = .ok (.iconst 5, 1) := by decide +kernel
theorem dX8_quota_14 : decode cX8_quota 14 = .ok (.iaload, 1) := by decide +kernel
theorem dX8_quota_15 : decode cX8_quota 15 = .ok (.goto 13, 3) := by decide +kernel
theorem dX8_quota_18 : decode cX8_quota 18 = .ok (.aload_n 0, 1) := by decide +kernel
theorem dX8_quota_19 : decode cX8_quota 19 = .ok (.getfield 7, 3) := by decide +kernel
theorem dX8_quota_22 : decode cX8_quota 22 = .ok (.iconst 3, 1) := by decide +kernel
theorem dX8_quota_23 : decode cX8_quota 23 = .ok (.iaload, 1) := by decide +kernel
theorem dX8_quota_24 : decode cX8_quota 24 = .ok (.iconst 2, 1) := by decide +kernel
theorem dX8_quota_25 : decode cX8_quota 25 = .ok (.idiv, 1) := by decide +kernel
theorem dX8_quota_26 : decode cX8_quota 26 = .ok (.iconst 1, 1) := by decide +kernel
theorem dX8_quota_27 : decode cX8_quota 27 = .ok (.iadd, 1) := by decide +kernel
theorem dX8_quota_28 : decode cX8_quota 28 = .ok (.ireturn, 1) := by decide +kernel
theorem dX8_motionsOf_0 : decode cX8_motionsOf 0 = .ok (.iconst 0, 1) := by decide +kernel
theorem dX8_motionsOf_1 : decode cX8_motionsOf 1 = .ok (.istore_n 2, 1) := by decide +kernel
theorem dX8_motionsOf_2 : decode cX8_motionsOf 2 = .ok (.iconst 0, 1) := by decide +kernel
theorem dX8_motionsOf_3 : decode cX8_motionsOf 3 = .ok (.istore_n 3, 1) := by decide +kernel
theorem dX8_motionsOf_4 : decode cX8_motionsOf 4 = .ok (.iload_n 3, 1) := by decide +kernel
theorem dX8_motionsOf_5 : decode cX8_motionsOf 5 = .ok (.aload_n 0, 1) := by decide +kernel
theorem dX8_motionsOf_6 : decode cX8_motionsOf 6 = .ok (.getfield 253, 3) := by decide +kernel
theorem dX8_motionsOf_9 : decode cX8_motionsOf 9 = .ok (.if_icmp .ge 32, 3) := by decide +kernel
theorem dX8_motionsOf_12 : decode cX8_motionsOf 12 = .ok (.iload_n 2, 1) := by decide +kernel
theorem dX8_motionsOf_13 : decode cX8_motionsOf 13 = .ok (.iload_n 1, 1) := by decide +kernel
theorem dX8_motionsOf_14 : decode cX8_motionsOf 14 = .ok (.iload_n 3, 1) := by decide +kernel
theorem dX8_motionsOf_15 : decode cX8_motionsOf 15 = .ok (.invokestatic 133, 3) := by decide +kernel
theorem dX8_motionsOf_18 : decode cX8_motionsOf 18 = .ok (.ifCond .eq 14, 3) := by decide +kernel
theorem dX8_motionsOf_21 : decode cX8_motionsOf 21 = .ok (.iconst 1, 1) := by decide +kernel
theorem dX8_motionsOf_22 : decode cX8_motionsOf 22 = .ok (.aload_n 0, 1) := by decide +kernel
theorem dX8_motionsOf_23 : decode cX8_motionsOf 23 = .ok (.getfield 70, 3) := by decide +kernel
theorem dX8_motionsOf_26 : decode cX8_motionsOf 26 = .ok (.iload_n 3, 1) := by decide +kernel
theorem dX8_motionsOf_27 : decode cX8_motionsOf 27 = .ok (.iaload, 1) := by decide +kernel
theorem dX8_motionsOf_28 : decode cX8_motionsOf 28 = .ok (.ishl, 1) := by decide +kernel
theorem dX8_motionsOf_29 : decode cX8_motionsOf 29 = .ok (.goto 4, 3) := by decide +kernel
theorem dX8_motionsOf_32 : decode cX8_motionsOf 32 = .ok (.iconst 0, 1) := by decide +kernel
theorem dX8_motionsOf_33 : decode cX8_motionsOf 33 = .ok (.ior, 1) := by decide +kernel
theorem dX8_motionsOf_34 : decode cX8_motionsOf 34 = .ok (.istore_n 2, 1) := by decide +kernel
theorem dX8_motionsOf_35 : decode cX8_motionsOf 35 = .ok (.iinc 3 1, 3) := by decide +kernel
theorem dX8_motionsOf_38 : decode cX8_motionsOf 38 = .ok (.goto (-34), 3) := by decide +kernel
theorem dX8_motionsOf_41 : decode cX8_motionsOf 41 = .ok (.iload_n 2, 1) := by decide +kernel
theorem dX8_motionsOf_42 : decode cX8_motionsOf 42 = .ok (.ireturn, 1) := by decide +kernel
theorem dX8_passes_0 : decode cX8_passes 0 = .ok (.aload_n 0, 1) := by decide +kernel
theorem dX8_passes_1 : decode cX8_passes 1 = .ok (.aload_n 0, 1) := by decide +kernel
theorem dX8_passes_2 : decode cX8_passes 2 = .ok (.iload_n 1, 1) := by decide +kernel
theorem dX8_passes_3 : decode cX8_passes 3 = .ok (.invokevirtual 256, 3) := by decide +kernel
theorem dX8_passes_6 : decode cX8_passes 6 = .ok (.invokevirtual 243, 3) := by decide +kernel
theorem dX8_passes_9 : decode cX8_passes 9 = .ok (.istore_n 2, 1) := by decide +kernel
theorem dX8_passes_10 : decode cX8_passes 10 = .ok (.aload_n 0, 1) := by decide +kernel
theorem dX8_passes_11 : decode cX8_passes 11 = .ok (.iload_n 2, 1) := by decide +kernel
theorem dX8_passes_12 : decode cX8_passes 12 = .ok (.iconst 0, 1) := by decide +kernel
theorem dX8_passes_13 : decode cX8_passes 13 = .ok (.invokevirtual 259, 3) := by decide +kernel
theorem dX8_passes_16 : decode cX8_passes 16 = .ok (.istore_n 3, 1) := by decide +kernel
theorem dX8_passes_17 : decode cX8_passes 17 = .ok (.aload_n 0, 1) := by decide +kernel
theorem dX8_passes_18 : decode cX8_passes 18 = .ok (.getfield 79, 3) := by decide +kernel
theorem dX8_passes_21 : decode cX8_passes 21 = .ok (.bipush 64, 2) := by decide +kernel
theorem dX8_passes_23 : decode cX8_passes 23 = .ok (.aload_n 0, 1) := by decide +kernel
theorem dX8_passes_24 : decode cX8_passes 24 = .ok (.getfield 253, 3) := by decide +kernel
theorem dX8_passes_27 : decode cX8_passes 27 = .ok (.imul, 1) := by decide +kernel
theorem dX8_passes_28 : decode cX8_passes 28 = .ok (.iload_n 1, 1) := by decide +kernel
theorem dX8_passes_29 : decode cX8_passes 29 = .ok (.iadd, 1) := by decide +kernel
theorem dX8_passes_30 : decode cX8_passes 30 = .ok (.iload_n 3, 1) := by decide +kernel
theorem dX8_passes_31 : decode cX8_passes 31 = .ok (.iastore, 1) := by decide +kernel
theorem dX8_passes_32 : decode cX8_passes 32 = .ok (.aload_n 0, 1) := by decide +kernel
theorem dX8_passes_33 : decode cX8_passes 33 = .ok (.getfield 76, 3) := by decide +kernel
theorem dX8_passes_36 : decode cX8_passes 36 = .ok (.bipush 64, 2) := by decide +kernel
theorem dX8_passes_38 : decode cX8_passes 38 = .ok (.aload_n 0, 1) := by decide +kernel
theorem dX8_passes_39 : decode cX8_passes 39 = .ok (.getfield 253, 3) := by decide +kernel
theorem dX8_passes_42 : decode cX8_passes 42 = .ok (.imul, 1) := by decide +kernel
theorem dX8_passes_43 : decode cX8_passes 43 = .ok (.iload_n 1, 1) := by decide +kernel
theorem dX8_passes_44 : decode cX8_passes 44 = .ok (.iadd, 1) := by decide +kernel
theorem dX8_passes_45 : decode cX8_passes 45 = .ok (.iload_n 3, 1) := by decide +kernel
theorem dX8_passes_46 : decode cX8_passes 46 = .ok (.aload_n 0, 1) := by decide +kernel
theorem dX8_passes_47 : decode cX8_passes 47 = .ok (.invokevirtual 262, 3) := by decide +kernel
theorem dX8_passes_50 : decode cX8_passes 50 = .ok (.if_icmp .lt 7, 3) := by decide +kernel
theorem dX8_passes_53 : decode cX8_passes 53 = .ok (.iload_n 2, 1) := by decide +kernel
theorem dX8_passes_54 : decode cX8_passes 54 = .ok (.goto 4, 3) := by decide +kernel
theorem dX8_passes_57 : decode cX8_passes 57 = .ok (.iconst 0, 1) := by decide +kernel
theorem dX8_passes_58 : decode cX8_passes 58 = .ok (.iastore, 1) := by decide +kernel
theorem dX8_passes_59 : decode cX8_passes 59 = .ok (.return_, 1) := by decide +kernel
theorem dX8_votesOn_0 : decode cX8_votesOn 0 = .ok (.aload_n 0, 1) := by decide +kernel
theorem dX8_votesOn_1 : decode cX8_votesOn 1 = .ok (.getfield 76, 3) := by decide +kernel
theorem dX8_votesOn_4 : decode cX8_votesOn 4 = .ok (.bipush 64, 2) := by decide +kernel
theorem dX8_votesOn_6 : decode cX8_votesOn 6 = .ok (.iload_n 1, 1) := by decide +kernel
theorem dX8_votesOn_7 : decode cX8_votesOn 7 = .ok (.iconst 1, 1) := by decide +kernel
theorem dX8_votesOn_8 : decode cX8_votesOn 8 = .ok (.iadd, 1) := by decide +kernel
theorem dX8_votesOn_9 : decode cX8_votesOn 9 = .ok (.imul, 1) := by decide +kernel
theorem dX8_votesOn_10 : decode cX8_votesOn 10 = .ok (.iload_n 2, 1) := by decide +kernel
theorem dX8_votesOn_11 : decode cX8_votesOn 11 = .ok (.iconst 1, 1) := by decide +kernel
theorem dX8_votesOn_12 : decode cX8_votesOn 12 = .ok (.iload_n 1, 1) := by decide +kernel
theorem dX8_votesOn_13 : decode cX8_votesOn 13 = .ok (.ishl, 1) := by decide +kernel
theorem dX8_votesOn_14 : decode cX8_votesOn 14 = .ok (.ior, 1) := by decide +kernel
theorem dX8_votesOn_15 : decode cX8_votesOn 15 = .ok (.iadd, 1) := by decide +kernel
theorem dX8_votesOn_16 : decode cX8_votesOn 16 = .ok (.iaload, 1) := by decide +kernel
theorem dX8_votesOn_17 : decode cX8_votesOn 17 = .ok (.istore 4, 2) := by decide +kernel
theorem dX8_votesOn_19 : decode cX8_votesOn 19 = .ok (.aload_n 0, 1) := by decide +kernel
theorem dX8_votesOn_20 : decode cX8_votesOn 20 = .ok (.getfield 76, 3) := by decide +kernel
theorem dX8_votesOn_23 : decode cX8_votesOn 23 = .ok (.bipush 64, 2) := by decide +kernel
theorem dX8_votesOn_25 : decode cX8_votesOn 25 = .ok (.iload_n 1, 1) := by decide +kernel
theorem dX8_votesOn_26 : decode cX8_votesOn 26 = .ok (.iconst 1, 1) := by decide +kernel
theorem dX8_votesOn_27 : decode cX8_votesOn 27 = .ok (.iadd, 1) := by decide +kernel
theorem dX8_votesOn_28 : decode cX8_votesOn 28 = .ok (.imul, 1) := by decide +kernel
theorem dX8_votesOn_29 : decode cX8_votesOn 29 = .ok (.iload_n 2, 1) := by decide +kernel
theorem dX8_votesOn_30 : decode cX8_votesOn 30 = .ok (.iadd, 1) := by decide +kernel
theorem dX8_votesOn_31 : decode cX8_votesOn 31 = .ok (.iaload, 1) := by decide +kernel
theorem dX8_votesOn_32 : decode cX8_votesOn 32 = .ok (.istore 5, 2) := by decide +kernel
theorem dX8_votesOn_34 : decode cX8_votesOn 34 = .ok (.aload_n 0, 1) := by decide +kernel
theorem dX8_votesOn_35 : decode cX8_votesOn 35 = .ok (.aload_n 0, 1) := by decide +kernel
theorem dX8_votesOn_36 : decode cX8_votesOn 36 = .ok (.iload_n 2, 1) := by decide +kernel
theorem dX8_votesOn_37 : decode cX8_votesOn 37 = .ok (.invokevirtual 256, 3) := by decide +kernel
theorem dX8_votesOn_40 : decode cX8_votesOn 40 = .ok (.invokevirtual 243, 3) := by decide +kernel
theorem dX8_votesOn_43 : decode cX8_votesOn 43 = .ok (.istore 6, 2) := by decide +kernel
theorem dX8_votesOn_45 : decode cX8_votesOn 45 = .ok (.aload_n 0, 1) := by decide +kernel
theorem dX8_votesOn_46 : decode cX8_votesOn 46 = .ok (.aload_n 0, 1) := by decide +kernel
theorem dX8_votesOn_47 : decode cX8_votesOn 47 = .ok (.iload_n 2, 1) := by decide +kernel
theorem dX8_votesOn_48 : decode cX8_votesOn 48 = .ok (.iconst 1, 1) := by decide +kernel
theorem dX8_votesOn_49 : decode cX8_votesOn 49 = .ok (.iload_n 1, 1) := by decide +kernel
theorem dX8_votesOn_50 : decode cX8_votesOn 50 = .ok (.ishl, 1) := by decide +kernel
theorem dX8_votesOn_51 : decode cX8_votesOn 51 = .ok (.ior, 1) := by decide +kernel
theorem dX8_votesOn_52 : decode cX8_votesOn 52 = .ok (.invokevirtual 256, 3) := by decide +kernel
theorem dX8_votesOn_55 : decode cX8_votesOn 55 = .ok (.invokevirtual 243, 3) := by decide +kernel
theorem dX8_votesOn_58 : decode cX8_votesOn 58 = .ok (.istore 7, 2) := by decide +kernel
theorem dX8_votesOn_60 : decode cX8_votesOn 60 = .ok (.iconst 0, 1) := by decide +kernel
theorem dX8_votesOn_61 : decode cX8_votesOn 61 = .ok (.istore 8, 2) := by decide +kernel
theorem dX8_votesOn_63 : decode cX8_votesOn 63 = .ok (.iconst 0, 1) := by decide +kernel
theorem dX8_votesOn_64 : decode cX8_votesOn 64 = .ok (.istore 9, 2) := by decide +kernel
theorem dX8_votesOn_66 : decode cX8_votesOn 66 = .ok (.iload 9, 2) := by decide +kernel
theorem dX8_votesOn_68 : decode cX8_votesOn 68 = .ok (.aload_n 0, 1) := by decide +kernel
theorem dX8_votesOn_69 : decode cX8_votesOn 69 = .ok (.getfield 7, 3) := by decide +kernel
theorem dX8_votesOn_72 : decode cX8_votesOn 72 = .ok (.iconst 3, 1) := by decide +kernel
theorem dX8_votesOn_73 : decode cX8_votesOn 73 = .ok (.iaload, 1) := by decide +kernel
theorem dX8_votesOn_74 : decode cX8_votesOn 74 = .ok (.if_icmp .ge 57, 3) := by decide +kernel
theorem dX8_votesOn_77 : decode cX8_votesOn 77 = .ok (.iload 8, 2) := by decide +kernel
theorem dX8_votesOn_79 : decode cX8_votesOn 79 = .ok (.iload_n 3, 1) := by decide +kernel
theorem dX8_votesOn_80 : decode cX8_votesOn 80 = .ok (.iload 9, 2) := by decide +kernel
theorem dX8_votesOn_82 : decode cX8_votesOn 82 = .ok (.invokestatic 133, 3) := by decide +kernel
theorem dX8_votesOn_85 : decode cX8_votesOn 85 = .ok (.ifCond .eq 19, 3) := by decide +kernel
theorem dX8_votesOn_88 : decode cX8_votesOn 88 = .ok (.aload_n 0, 1) := by decide +kernel
theorem dX8_votesOn_89 : decode cX8_votesOn 89 = .ok (.iload 9, 2) := by decide +kernel
theorem dX8_votesOn_91 : decode cX8_votesOn 91 = .ok (.iload 7, 2) := by decide +kernel
theorem dX8_votesOn_93 : decode cX8_votesOn 93 = .ok (.iload 6, 2) := by decide +kernel
theorem dX8_votesOn_95 : decode cX8_votesOn 95 = .ok (.invokevirtual 250, 3) := by decide +kernel
theorem dX8_votesOn_98 : decode cX8_votesOn 98 = .ok (.ifCond .eq 23, 3) := by decide +kernel
theorem dX8_votesOn_101 : decode cX8_votesOn 101 = .ok (.goto 16, 3) := by decide +kernel
theorem dX8_votesOn_104 : decode cX8_votesOn 104 = .ok (.aload_n 0, 1) := by decide +kernel
theorem dX8_votesOn_105 : decode cX8_votesOn 105 = .ok (.iload 9, 2) := by decide +kernel
theorem dX8_votesOn_107 : decode cX8_votesOn 107 = .ok (.iload 4, 2) := by decide +kernel
theorem dX8_votesOn_109 : decode cX8_votesOn 109 = .ok (.iload 5, 2) := by decide +kernel
theorem dX8_votesOn_111 : decode cX8_votesOn 111 = .ok (.invokevirtual 250, 3) := by decide +kernel
theorem dX8_votesOn_114 : decode cX8_votesOn 114 = .ok (.ifCond .eq 7, 3) := by decide +kernel
theorem dX8_votesOn_117 : decode cX8_votesOn 117 = .ok (.iconst 1, 1) := by decide +kernel
theorem dX8_votesOn_118 : decode cX8_votesOn 118 = .ok (.goto 4, 3) := by decide +kernel
theorem dX8_votesOn_121 : decode cX8_votesOn 121 = .ok (.iconst 0, 1) := by decide +kernel
theorem dX8_votesOn_122 : decode cX8_votesOn 122 = .ok (.iadd, 1) := by decide +kernel
theorem dX8_votesOn_123 : decode cX8_votesOn 123 = .ok (.istore 8, 2) := by decide +kernel
theorem dX8_votesOn_125 : decode cX8_votesOn 125 = .ok (.iinc 9 1, 3) := by decide +kernel
theorem dX8_votesOn_128 : decode cX8_votesOn 128 = .ok (.goto (-62), 3) := by decide +kernel
theorem dX8_votesOn_131 : decode cX8_votesOn 131 = .ok (.aload_n 0, 1) := by decide +kernel
theorem dX8_votesOn_132 : decode cX8_votesOn 132 = .ok (.getfield 79, 3) := by decide +kernel
theorem dX8_votesOn_135 : decode cX8_votesOn 135 = .ok (.bipush 64, 2) := by decide +kernel
theorem dX8_votesOn_137 : decode cX8_votesOn 137 = .ok (.iload_n 1, 1) := by decide +kernel
theorem dX8_votesOn_138 : decode cX8_votesOn 138 = .ok (.imul, 1) := by decide +kernel
theorem dX8_votesOn_139 : decode cX8_votesOn 139 = .ok (.iload_n 2, 1) := by decide +kernel
theorem dX8_votesOn_140 : decode cX8_votesOn 140 = .ok (.iadd, 1) := by decide +kernel
theorem dX8_votesOn_141 : decode cX8_votesOn 141 = .ok (.iload 8, 2) := by decide +kernel
theorem dX8_votesOn_143 : decode cX8_votesOn 143 = .ok (.iastore, 1) := by decide +kernel
theorem dX8_votesOn_144 : decode cX8_votesOn 144 = .ok (.aload_n 0, 1) := by decide +kernel
theorem dX8_votesOn_145 : decode cX8_votesOn 145 = .ok (.getfield 76, 3) := by decide +kernel
theorem dX8_votesOn_148 : decode cX8_votesOn 148 = .ok (.bipush 64, 2) := by decide +kernel
theorem dX8_votesOn_150 : decode cX8_votesOn 150 = .ok (.iload_n 1, 1) := by decide +kernel
theorem dX8_votesOn_151 : decode cX8_votesOn 151 = .ok (.imul, 1) := by decide +kernel
theorem dX8_votesOn_152 : decode cX8_votesOn 152 = .ok (.iload_n 2, 1) := by decide +kernel
theorem dX8_votesOn_153 : decode cX8_votesOn 153 = .ok (.iadd, 1) := by decide +kernel
theorem dX8_votesOn_154 : decode cX8_votesOn 154 = .ok (.iconst 2, 1) := by decide +kernel
theorem dX8_votesOn_155 : decode cX8_votesOn 155 = .ok (.iload 8, 2) := by decide +kernel
theorem dX8_votesOn_157 : decode cX8_votesOn 157 = .ok (.imul, 1) := by decide +kernel
theorem dX8_votesOn_158 : decode cX8_votesOn 158 = .ok (.aload_n 0, 1) := by decide +kernel
theorem dX8_votesOn_159 : decode cX8_votesOn 159 = .ok (.getfield 7, 3) := by decide +kernel
theorem dX8_votesOn_162 : decode cX8_votesOn 162 = .ok (.iconst 3, 1) := by decide +kernel
theorem dX8_votesOn_163 : decode cX8_votesOn 163 = .ok (.iaload, 1) := by decide +kernel
theorem dX8_votesOn_164 : decode cX8_votesOn 164 = .ok (.if_icmp .le 8, 3) := by decide +kernel
theorem dX8_votesOn_167 : decode cX8_votesOn 167 = .ok (.iload 4, 2) := by decide +kernel
theorem dX8_votesOn_169 : decode cX8_votesOn 169 = .ok (.goto 5, 3) := by decide +kernel
theorem dX8_votesOn_172 : decode cX8_votesOn 172 = .ok (.iload 5, 2) := by decide +kernel
theorem dX8_votesOn_174 : decode cX8_votesOn 174 = .ok (.iastore, 1) := by decide +kernel
theorem dX8_votesOn_175 : decode cX8_votesOn 175 = .ok (.return_, 1) := by decide +kernel
theorem dX8_worksOut_0 : decode cX8_worksOut 0 = .ok (.aload_n 0, 1) := by decide +kernel
theorem dX8_worksOut_1 : decode cX8_worksOut 1 = .ok (.iload_n 1, 1) := by decide +kernel
theorem dX8_worksOut_2 : decode cX8_worksOut 2 = .ok (.putfield 253, 3) := by decide +kernel
theorem dX8_worksOut_5 : decode cX8_worksOut 5 = .ok (.iconst 0, 1) := by decide +kernel
theorem dX8_worksOut_6 : decode cX8_worksOut 6 = .ok (.istore_n 3, 1) := by decide +kernel
theorem dX8_worksOut_7 : decode cX8_worksOut 7 = .ok (.iload_n 3, 1) := by decide +kernel
theorem dX8_worksOut_8 : decode cX8_worksOut 8 = .ok (.iconst 1, 1) := by decide +kernel
theorem dX8_worksOut_9 : decode cX8_worksOut 9 = .ok (.iload_n 1, 1) := by decide +kernel
theorem dX8_worksOut_10 : decode cX8_worksOut 10 = .ok (.ishl, 1) := by decide +kernel
theorem dX8_worksOut_11 : decode cX8_worksOut 11 = .ok (.if_icmp .ge 14, 3) := by decide +kernel
theorem dX8_worksOut_14 : decode cX8_worksOut 14 = .ok (.aload_n 0, 1) := by decide +kernel
theorem dX8_worksOut_15 : decode cX8_worksOut 15 = .ok (.iload_n 3, 1) := by decide +kernel
theorem dX8_worksOut_16 : decode cX8_worksOut 16 = .ok (.invokevirtual 265, 3) := by decide +kernel
theorem dX8_worksOut_19 : decode cX8_worksOut 19 = .ok (.iinc 3 1, 3) := by decide +kernel
theorem dX8_worksOut_22 : decode cX8_worksOut 22 = .ok (.goto (-15), 3) := by decide +kernel
theorem dX8_worksOut_25 : decode cX8_worksOut 25 = .ok (.iload_n 1, 1) := by decide +kernel
theorem dX8_worksOut_26 : decode cX8_worksOut 26 = .ok (.iconst 1, 1) := by decide +kernel
theorem dX8_worksOut_27 : decode cX8_worksOut 27 = .ok (.isub, 1) := by decide +kernel
theorem dX8_worksOut_28 : decode cX8_worksOut 28 = .ok (.istore_n 3, 1) := by decide +kernel
theorem dX8_worksOut_29 : decode cX8_worksOut 29 = .ok (.iload_n 3, 1) := by decide +kernel
theorem dX8_worksOut_30 : decode cX8_worksOut 30 = .ok (.ifCond .lt 34, 3) := by decide +kernel
theorem dX8_worksOut_33 : decode cX8_worksOut 33 = .ok (.iconst 0, 1) := by decide +kernel
theorem dX8_worksOut_34 : decode cX8_worksOut 34 = .ok (.istore 4, 2) := by decide +kernel
theorem dX8_worksOut_36 : decode cX8_worksOut 36 = .ok (.iload 4, 2) := by decide +kernel
theorem dX8_worksOut_38 : decode cX8_worksOut 38 = .ok (.iconst 1, 1) := by decide +kernel
theorem dX8_worksOut_39 : decode cX8_worksOut 39 = .ok (.iload_n 3, 1) := by decide +kernel
theorem dX8_worksOut_40 : decode cX8_worksOut 40 = .ok (.ishl, 1) := by decide +kernel
theorem dX8_worksOut_41 : decode cX8_worksOut 41 = .ok (.if_icmp .ge 17, 3) := by decide +kernel
theorem dX8_worksOut_44 : decode cX8_worksOut 44 = .ok (.aload_n 0, 1) := by decide +kernel
theorem dX8_worksOut_45 : decode cX8_worksOut 45 = .ok (.iload_n 3, 1) := by decide +kernel
theorem dX8_worksOut_46 : decode cX8_worksOut 46 = .ok (.iload 4, 2) := by decide +kernel
theorem dX8_worksOut_48 : decode cX8_worksOut 48 = .ok (.iload_n 2, 1) := by decide +kernel
theorem dX8_worksOut_49 : decode cX8_worksOut 49 = .ok (.invokevirtual 268, 3) := by decide +kernel
theorem dX8_worksOut_52 : decode cX8_worksOut 52 = .ok (.iinc 4 1, 3) := by decide +kernel
theorem dX8_worksOut_55 : decode cX8_worksOut 55 = .ok (.goto (-19), 3) := by decide +kernel
theorem dX8_worksOut_58 : decode cX8_worksOut 58 = .ok (.iinc 3 (-1), 3) := by decide +kernel
theorem dX8_worksOut_61 : decode cX8_worksOut 61 = .ok (.goto (-32), 3) := by decide +kernel
theorem dX8_worksOut_64 : decode cX8_worksOut 64 = .ok (.return_, 1) := by decide +kernel
theorem dX8_laysOrder_0 : decode cX8_laysOrder 0 = .ok (.iconst 0, 1) := by decide +kernel
theorem dX8_laysOrder_1 : decode cX8_laysOrder 1 = .ok (.istore_n 1, 1) := by decide +kernel
theorem dX8_laysOrder_2 : decode cX8_laysOrder 2 = .ok (.iload_n 1, 1) := by decide +kernel
theorem dX8_laysOrder_3 : decode cX8_laysOrder 3 = .ok (.aload_n 0, 1) := by decide +kernel
theorem dX8_laysOrder_4 : decode cX8_laysOrder 4 = .ok (.getfield 7, 3) := by decide +kernel
theorem dX8_laysOrder_7 : decode cX8_laysOrder 7 = .ok (.iconst 1, 1) := by decide +kernel
theorem dX8_laysOrder_8 : decode cX8_laysOrder 8 = .ok (.iaload, 1) := by decide +kernel
theorem dX8_laysOrder_9 : decode cX8_laysOrder 9 = .ok (.if_icmp .ge 21, 3) := by decide +kernel
theorem dX8_laysOrder_12 : decode cX8_laysOrder 12 = .ok (.aload_n 0, 1) := by decide +kernel
theorem dX8_laysOrder_13 : decode cX8_laysOrder 13 = .ok (.getfield 70, 3) := by decide +kernel
theorem dX8_laysOrder_16 : decode cX8_laysOrder 16 = .ok (.iload_n 1, 1) := by decide +kernel
theorem dX8_laysOrder_17 : decode cX8_laysOrder 17 = .ok (.aload_n 0, 1) := by decide +kernel
theorem dX8_laysOrder_18 : decode cX8_laysOrder 18 = .ok (.getfield 64, 3) := by decide +kernel
theorem dX8_laysOrder_21 : decode cX8_laysOrder 21 = .ok (.iload_n 1, 1) := by decide +kernel
theorem dX8_laysOrder_22 : decode cX8_laysOrder 22 = .ok (.iaload, 1) := by decide +kernel
theorem dX8_laysOrder_23 : decode cX8_laysOrder 23 = .ok (.iastore, 1) := by decide +kernel
theorem dX8_laysOrder_24 : decode cX8_laysOrder 24 = .ok (.iinc 1 1, 3) := by decide +kernel
theorem dX8_laysOrder_27 : decode cX8_laysOrder 27 = .ok (.goto (-25), 3) := by decide +kernel
theorem dX8_laysOrder_30 : decode cX8_laysOrder 30 = .ok (.return_, 1) := by decide +kernel
theorem dX8_isSetOfVoters_0 : decode cX8_isSetOfVoters 0 = .ok (.iload_n 1, 1) := by decide +kernel
theorem dX8_isSetOfVoters_1 : decode cX8_isSetOfVoters 1 = .ok (.iconst 0, 1) := by decide +kernel
theorem dX8_isSetOfVoters_2 : decode cX8_isSetOfVoters 2 = .ok (.iconst 1, 1) := by decide +kernel
theorem dX8_isSetOfVoters_3 : decode cX8_isSetOfVoters 3 = .ok (.aload_n 0, 1) := by decide +kernel
theorem dX8_isSetOfVoters_4 : decode cX8_isSetOfVoters 4 = .ok (.getfield 7, 3) := by decide +kernel
theorem dX8_isSetOfVoters_7 : decode cX8_isSetOfVoters 7 = .ok (.iconst 3, 1) := by decide +kernel
theorem dX8_isSetOfVoters_8 : decode cX8_isSetOfVoters 8 = .ok (.iaload, 1) := by decide +kernel
theorem dX8_isSetOfVoters_9 : decode cX8_isSetOfVoters 9 = .ok (.ishl, 1) := by decide +kernel
theorem dX8_isSetOfVoters_10 : decode cX8_isSetOfVoters 10 = .ok (.iconst 1, 1) := by decide +kernel
theorem dX8_isSetOfVoters_11 : decode cX8_isSetOfVoters 11 = .ok (.isub, 1) := by decide +kernel
theorem dX8_isSetOfVoters_12 : decode cX8_isSetOfVoters 12 = .ok (.invokestatic 106, 3) := by decide +kernel
theorem dX8_isSetOfVoters_15 : decode cX8_isSetOfVoters 15 = .ok (.ireturn, 1) := by decide +kernel
theorem dX8_asks_0 : decode cX8_asks 0 = .ok (.aload_n 0, 1) := by decide +kernel
theorem dX8_asks_1 : decode cX8_asks 1 = .ok (.invokevirtual 272, 3) := by decide +kernel
theorem dX8_asks_4 : decode cX8_asks 4 = .ok (.aload_n 0, 1) := by decide +kernel
theorem dX8_asks_5 : decode cX8_asks 5 = .ok (.invokevirtual 275, 3) := by decide +kernel
theorem dX8_asks_8 : decode cX8_asks 8 = .ok (.aload_n 0, 1) := by decide +kernel
theorem dX8_asks_9 : decode cX8_asks 9 = .ok (.aload_n 0, 1) := by decide +kernel
theorem dX8_asks_10 : decode cX8_asks 10 = .ok (.getfield 7, 3) := by decide +kernel
theorem dX8_asks_13 : decode cX8_asks 13 = .ok (.iconst 1, 1) := by decide +kernel
theorem dX8_asks_14 : decode cX8_asks 14 = .ok (.iaload, 1) := by decide +kernel
theorem dX8_asks_15 : decode cX8_asks 15 = .ok (.iload_n 1, 1) := by decide +kernel
theorem dX8_asks_16 : decode cX8_asks 16 = .ok (.invokevirtual 278, 3) := by decide +kernel
theorem dX8_asks_19 : decode cX8_asks 19 = .ok (.return_, 1) := by decide +kernel
theorem dX8_way_0 : decode cX8_way 0 = .ok (.iconst 0, 1) := by decide +kernel
theorem dX8_way_1 : decode cX8_way 1 = .ok (.istore_n 2, 1) := by decide +kernel
theorem dX8_way_2 : decode cX8_way 2 = .ok (.iconst 0, 1) := by decide +kernel
theorem dX8_way_3 : decode cX8_way 3 = .ok (.istore_n 3, 1) := by decide +kernel
theorem dX8_way_4 : decode cX8_way 4 = .ok (.iload_n 3, 1) := by decide +kernel
theorem dX8_way_5 : decode cX8_way 5 = .ok (.iload_n 1, 1) := by decide +kernel
theorem dX8_way_6 : decode cX8_way 6 = .ok (.if_icmp .ge 41, 3) := by decide +kernel
theorem dX8_way_9 : decode cX8_way 9 = .ok (.iload_n 2, 1) := by decide +kernel
theorem dX8_way_10 : decode cX8_way 10 = .ok (.iconst 2, 1) := by decide +kernel
theorem dX8_way_11 : decode cX8_way 11 = .ok (.aload_n 0, 1) := by decide +kernel
theorem dX8_way_12 : decode cX8_way 12 = .ok (.getfield 79, 3) := by decide +kernel
theorem dX8_way_15 : decode cX8_way 15 = .ok (.bipush 64, 2) := by decide +kernel
theorem dX8_way_17 : decode cX8_way 17 = .ok (.iload_n 3, 1) := by decide +kernel
theorem dX8_way_18 : decode cX8_way 18 = .ok (.imul, 1) := by decide +kernel
theorem dX8_way_19 : decode cX8_way 19 = .ok (.iload_n 2, 1) := by decide +kernel
theorem dX8_way_20 : decode cX8_way 20 = .ok (.iadd, 1) := by decide +kernel
theorem dX8_way_21 : decode cX8_way 21 = .ok (.iaload, 1) := by decide +kernel
theorem dX8_way_22 : decode cX8_way 22 = .ok (.imul, 1) := by decide +kernel
theorem dX8_way_23 : decode cX8_way 23 = .ok (.aload_n 0, 1) := by decide +kernel
theorem dX8_way_24 : decode cX8_way 24 = .ok (.getfield 7, 3) := by decide +kernel
theorem dX8_way_27 : decode cX8_way 27 = .ok (.iconst 3, 1) := by decide +kernel
theorem dX8_way_28 : decode cX8_way 28 = .ok (.iaload, 1) := by decide +kernel
theorem dX8_way_29 : decode cX8_way 29 = .ok (.if_icmp .le 9, 3) := by decide +kernel
theorem dX8_way_32 : decode cX8_way 32 = .ok (.iconst 1, 1) := by decide +kernel
theorem dX8_way_33 : decode cX8_way 33 = .ok (.iload_n 3, 1) := by decide +kernel
theorem dX8_way_34 : decode cX8_way 34 = .ok (.ishl, 1) := by decide +kernel
theorem dX8_way_35 : decode cX8_way 35 = .ok (.goto 4, 3) := by decide +kernel
theorem dX8_way_38 : decode cX8_way 38 = .ok (.iconst 0, 1) := by decide +kernel
theorem dX8_way_39 : decode cX8_way 39 = .ok (.ior, 1) := by decide +kernel
theorem dX8_way_40 : decode cX8_way 40 = .ok (.istore_n 2, 1) := by decide +kernel
theorem dX8_way_41 : decode cX8_way 41 = .ok (.iinc 3 1, 3) := by decide +kernel
theorem dX8_way_44 : decode cX8_way 44 = .ok (.goto (-40), 3) := by decide +kernel
theorem dX8_way_47 : decode cX8_way 47 = .ok (.iload_n 2, 1) := by decide +kernel
theorem dX8_way_48 : decode cX8_way 48 = .ok (.ireturn, 1) := by decide +kernel
theorem dX8_result_0 : decode cX8_result 0 = .ok (.aload_n 0, 1) := by decide +kernel
theorem dX8_result_1 : decode cX8_result 1 = .ok (.iconst 0, 1) := by decide +kernel
theorem dX8_result_2 : decode cX8_result 2 = .ok (.putfield 95, 3) := by decide +kernel
theorem dX8_result_5 : decode cX8_result 5 = .ok (.aload_n 0, 1) := by decide +kernel
theorem dX8_result_6 : decode cX8_result 6 = .ok (.iload_n 1, 1) := by decide +kernel
theorem dX8_result_7 : decode cX8_result 7 = .ok (.invokevirtual 281, 3) := by decide +kernel
theorem dX8_result_10 : decode cX8_result 10 = .ok (.ifCond .ne 5, 3) := by decide +kernel
theorem dX8_result_13 : decode cX8_result 13 = .ok (.iconst (-1), 1) := by decide +kernel
theorem dX8_result_14 : decode cX8_result 14 = .ok (.ireturn, 1) := by decide +kernel
theorem dX8_result_15 : decode cX8_result 15 = .ok (.aload_n 0, 1) := by decide +kernel
theorem dX8_result_16 : decode cX8_result 16 = .ok (.iload_n 1, 1) := by decide +kernel
theorem dX8_result_17 : decode cX8_result 17 = .ok (.invokevirtual 284, 3) := by decide +kernel
theorem dX8_result_20 : decode cX8_result 20 = .ok (.aload_n 0, 1) := by decide +kernel
theorem dX8_result_21 : decode cX8_result 21 = .ok (.getfield 76, 3) := by decide +kernel
theorem dX8_result_24 : decode cX8_result 24 = .ok (.iconst 0, 1) := by decide +kernel
theorem dX8_result_25 : decode cX8_result 25 = .ok (.iaload, 1) := by decide +kernel
theorem dX8_result_26 : decode cX8_result 26 = .ok (.ireturn, 1) := by decide +kernel
theorem dX8_adopted_0 : decode cX8_adopted 0 = .ok (.aload_n 0, 1) := by decide +kernel
theorem dX8_adopted_1 : decode cX8_adopted 1 = .ok (.iconst 0, 1) := by decide +kernel
theorem dX8_adopted_2 : decode cX8_adopted 2 = .ok (.putfield 95, 3) := by decide +kernel
theorem dX8_adopted_5 : decode cX8_adopted 5 = .ok (.aload_n 0, 1) := by decide +kernel
theorem dX8_adopted_6 : decode cX8_adopted 6 = .ok (.iload_n 1, 1) := by decide +kernel
theorem dX8_adopted_7 : decode cX8_adopted 7 = .ok (.invokevirtual 281, 3) := by decide +kernel
theorem dX8_adopted_10 : decode cX8_adopted 10 = .ok (.ifCond .ne 5, 3) := by decide +kernel
theorem dX8_adopted_13 : decode cX8_adopted 13 = .ok (.iconst (-1), 1) := by decide +kernel
theorem dX8_adopted_14 : decode cX8_adopted 14 = .ok (.ireturn, 1) := by decide +kernel
theorem dX8_adopted_15 : decode cX8_adopted 15 = .ok (.aload_n 0, 1) := by decide +kernel
theorem dX8_adopted_16 : decode cX8_adopted 16 = .ok (.iload_n 1, 1) := by decide +kernel
theorem dX8_adopted_17 : decode cX8_adopted 17 = .ok (.invokevirtual 284, 3) := by decide +kernel
theorem dX8_adopted_20 : decode cX8_adopted 20 = .ok (.aload_n 0, 1) := by decide +kernel
theorem dX8_adopted_21 : decode cX8_adopted 21 = .ok (.aload_n 0, 1) := by decide +kernel
theorem dX8_adopted_22 : decode cX8_adopted 22 = .ok (.aload_n 0, 1) := by decide +kernel
theorem dX8_adopted_23 : decode cX8_adopted 23 = .ok (.getfield 253, 3) := by decide +kernel
theorem dX8_adopted_26 : decode cX8_adopted 26 = .ok (.invokevirtual 287, 3) := by decide +kernel
theorem dX8_adopted_29 : decode cX8_adopted 29 = .ok (.invokevirtual 256, 3) := by decide +kernel
theorem dX8_adopted_32 : decode cX8_adopted 32 = .ok (.ireturn, 1) := by decide +kernel
theorem dX8_yes_0 : decode cX8_yes 0 = .ok (.aload_n 0, 1) := by decide +kernel
theorem dX8_yes_1 : decode cX8_yes 1 = .ok (.iconst 0, 1) := by decide +kernel
theorem dX8_yes_2 : decode cX8_yes 2 = .ok (.putfield 95, 3) := by decide +kernel
theorem dX8_yes_5 : decode cX8_yes 5 = .ok (.aload_n 0, 1) := by decide +kernel
theorem dX8_yes_6 : decode cX8_yes 6 = .ok (.iload_n 1, 1) := by decide +kernel
theorem dX8_yes_7 : decode cX8_yes 7 = .ok (.invokevirtual 281, 3) := by decide +kernel
theorem dX8_yes_10 : decode cX8_yes 10 = .ok (.ifCond .eq 17, 3) := by decide +kernel
theorem dX8_yes_13 : decode cX8_yes 13 = .ok (.iload_n 2, 1) := by decide +kernel
theorem dX8_yes_14 : decode cX8_yes 14 = .ok (.iconst 0, 1) := by decide +kernel
theorem dX8_yes_15 : decode cX8_yes 15 = .ok (.aload_n 0, 1) := by decide +kernel
theorem dX8_yes_16 : decode cX8_yes 16 = .ok (.getfield 7, 3) := by decide +kernel
theorem dX8_yes_19 : decode cX8_yes 19 = .ok (.iconst 1, 1) := by decide +kernel
theorem dX8_yes_20 : decode cX8_yes 20 = .ok (.iaload, 1) := by decide +kernel
theorem dX8_yes_21 : decode cX8_yes 21 = .ok (.invokestatic 106, 3) := by decide +kernel
theorem dX8_yes_24 : decode cX8_yes 24 = .ok (.ifCond .ne 5, 3) := by decide +kernel
theorem dX8_yes_27 : decode cX8_yes 27 = .ok (.iconst (-1), 1) := by decide +kernel
theorem dX8_yes_28 : decode cX8_yes 28 = .ok (.ireturn, 1) := by decide +kernel
theorem dX8_yes_29 : decode cX8_yes 29 = .ok (.aload_n 0, 1) := by decide +kernel
theorem dX8_yes_30 : decode cX8_yes 30 = .ok (.iload_n 1, 1) := by decide +kernel
theorem dX8_yes_31 : decode cX8_yes 31 = .ok (.invokevirtual 284, 3) := by decide +kernel
theorem dX8_yes_34 : decode cX8_yes 34 = .ok (.aload_n 0, 1) := by decide +kernel
theorem dX8_yes_35 : decode cX8_yes 35 = .ok (.getfield 79, 3) := by decide +kernel
theorem dX8_yes_38 : decode cX8_yes 38 = .ok (.bipush 64, 2) := by decide +kernel
theorem dX8_yes_40 : decode cX8_yes 40 = .ok (.iload_n 2, 1) := by decide +kernel
theorem dX8_yes_41 : decode cX8_yes 41 = .ok (.imul, 1) := by decide +kernel
theorem dX8_yes_42 : decode cX8_yes 42 = .ok (.aload_n 0, 1) := by decide +kernel
theorem dX8_yes_43 : decode cX8_yes 43 = .ok (.iload_n 2, 1) := by decide +kernel
theorem dX8_yes_44 : decode cX8_yes 44 = .ok (.invokevirtual 287, 3) := by decide +kernel
theorem dX8_yes_47 : decode cX8_yes 47 = .ok (.iadd, 1) := by decide +kernel
theorem dX8_yes_48 : decode cX8_yes 48 = .ok (.iaload, 1) := by decide +kernel
theorem dX8_yes_49 : decode cX8_yes 49 = .ok (.ireturn, 1) := by decide +kernel
theorem dX8_says_0 : decode cX8_says 0 = .ok (.aload_n 0, 1) := by decide +kernel
theorem dX8_says_1 : decode cX8_says 1 = .ok (.getfield 82, 3) := by decide +kernel
theorem dX8_says_4 : decode cX8_says 4 = .ok (.aload_n 0, 1) := by decide +kernel
theorem dX8_says_5 : decode cX8_says 5 = .ok (.getfield 290, 3) := by decide +kernel
theorem dX8_says_8 : decode cX8_says 8 = .ok (.iload_n 1, 1) := by decide +kernel
theorem dX8_says_9 : decode cX8_says 9 = .ok (.iastore, 1) := by decide +kernel
theorem dX8_says_10 : decode cX8_says 10 = .ok (.aload_n 0, 1) := by decide +kernel
theorem dX8_says_11 : decode cX8_says 11 = .ok (.dup, 1) := by decide +kernel
theorem dX8_says_12 : decode cX8_says 12 = .ok (.getfield 290, 3) := by decide +kernel
theorem dX8_says_15 : decode cX8_says 15 = .ok (.iconst 1, 1) := by decide +kernel
theorem dX8_says_16 : decode cX8_says 16 = .ok (.iadd, 1) := by decide +kernel
theorem dX8_says_17 : decode cX8_says 17 = .ok (.putfield 290, 3) := by decide +kernel
theorem dX8_says_20 : decode cX8_says 20 = .ok (.return_, 1) := by decide +kernel
theorem dX8_minutes_0 : decode cX8_minutes 0 = .ok (.aload_n 0, 1) := by decide +kernel
theorem dX8_minutes_1 : decode cX8_minutes 1 = .ok (.iconst 0, 1) := by decide +kernel
theorem dX8_minutes_2 : decode cX8_minutes 2 = .ok (.putfield 95, 3) := by decide +kernel
theorem dX8_minutes_5 : decode cX8_minutes 5 = .ok (.aload_n 0, 1) := by decide +kernel
theorem dX8_minutes_6 : decode cX8_minutes 6 = .ok (.iload_n 1, 1) := by decide +kernel
theorem dX8_minutes_7 : decode cX8_minutes 7 = .ok (.invokevirtual 281, 3) := by decide +kernel
theorem dX8_minutes_10 : decode cX8_minutes 10 = .ok (.ifCond .ne 5, 3) := by decide +kernel
theorem dX8_minutes_13 : decode cX8_minutes 13 = .ok (.iconst (-1), 1) := by decide +kernel
theorem dX8_minutes_14 : decode cX8_minutes 14 = .ok (.ireturn, 1) := by decide +kernel
theorem dX8_minutes_15 : decode cX8_minutes 15 = .ok (.aload_n 0, 1) := by decide +kernel
theorem dX8_minutes_16 : decode cX8_minutes 16 = .ok (.iload_n 1, 1) := by decide +kernel
theorem dX8_minutes_17 : decode cX8_minutes 17 = .ok (.invokevirtual 284, 3) := by decide +kernel
theorem dX8_minutes_20 : decode cX8_minutes 20 = .ok (.aload_n 0, 1) := by decide +kernel
theorem dX8_minutes_21 : decode cX8_minutes 21 = .ok (.iconst 0, 1) := by decide +kernel
theorem dX8_minutes_22 : decode cX8_minutes 22 = .ok (.putfield 290, 3) := by decide +kernel
theorem dX8_minutes_25 : decode cX8_minutes 25 = .ok (.iconst 0, 1) := by decide +kernel
theorem dX8_minutes_26 : decode cX8_minutes 26 = .ok (.istore_n 3, 1) := by decide +kernel
theorem dX8_minutes_27 : decode cX8_minutes 27 = .ok (.iload_n 3, 1) := by decide +kernel
theorem dX8_minutes_28 : decode cX8_minutes 28 = .ok (.aload_n 0, 1) := by decide +kernel
theorem dX8_minutes_29 : decode cX8_minutes 29 = .ok (.getfield 253, 3) := by decide +kernel
theorem dX8_minutes_32 : decode cX8_minutes 32 = .ok (.if_icmp .gt 139, 3) := by decide +kernel
theorem dX8_minutes_35 : decode cX8_minutes 35 = .ok (.aload_n 0, 1) := by decide +kernel
theorem dX8_minutes_36 : decode cX8_minutes 36 = .ok (.getfield 79, 3) := by decide +kernel
theorem dX8_minutes_39 : decode cX8_minutes 39 = .ok (.bipush 64, 2) := by decide +kernel
theorem dX8_minutes_41 : decode cX8_minutes 41 = .ok (.iload_n 3, 1) := by decide +kernel
theorem dX8_minutes_42 : decode cX8_minutes 42 = .ok (.imul, 1) := by decide +kernel
theorem dX8_minutes_43 : decode cX8_minutes 43 = .ok (.aload_n 0, 1) := by decide +kernel
theorem dX8_minutes_44 : decode cX8_minutes 44 = .ok (.iload_n 3, 1) := by decide +kernel
theorem dX8_minutes_45 : decode cX8_minutes 45 = .ok (.invokevirtual 287, 3) := by decide +kernel
theorem dX8_minutes_48 : decode cX8_minutes 48 = .ok (.iadd, 1) := by decide +kernel
theorem dX8_minutes_49 : decode cX8_minutes 49 = .ok (.iaload, 1) := by decide +kernel
theorem dX8_minutes_50 : decode cX8_minutes 50 = .ok (.istore 4, 2) := by decide +kernel
theorem dX8_minutes_52 : decode cX8_minutes 52 = .ok (.aload_n 0, 1) := by decide +kernel
theorem dX8_minutes_53 : decode cX8_minutes 53 = .ok (.iload_n 3, 1) := by decide +kernel
theorem dX8_minutes_54 : decode cX8_minutes 54 = .ok (.aload_n 0, 1) := by decide +kernel
theorem dX8_minutes_55 : decode cX8_minutes 55 = .ok (.getfield 253, 3) := by decide +kernel
theorem dX8_minutes_58 : decode cX8_minutes 58 = .ok (.if_icmp .ge 15, 3) := by decide +kernel
theorem dX8_minutes_61 : decode cX8_minutes 61 = .ok (.bipush 48, 2) := by decide +kernel
theorem dX8_minutes_63 : decode cX8_minutes 63 = .ok (.aload_n 0, 1) := by decide +kernel
theorem dX8_minutes_64 : decode cX8_minutes 64 = .ok (.getfield 70, 3) := by decide +kernel
theorem dX8_minutes_67 : decode cX8_minutes 67 = .ok (.iload_n 3, 1) := by decide +kernel
theorem dX8_minutes_68 : decode cX8_minutes 68 = .ok (.iaload, 1) := by decide +kernel
theorem dX8_minutes_69 : decode cX8_minutes 69 = .ok (.iadd, 1) := by decide +kernel
theorem dX8_minutes_70 : decode cX8_minutes 70 = .ok (.goto 5, 3) := by decide +kernel
theorem dX8_minutes_73 : decode cX8_minutes 73 = .ok (.bipush 112, 2) := by decide +kernel
theorem dX8_minutes_75 : decode cX8_minutes 75 = .ok (.invokevirtual 293, 3) := by decide +kernel
theorem dX8_minutes_78 : decode cX8_minutes 78 = .ok (.aload_n 0, 1) := by decide +kernel
theorem dX8_minutes_79 : decode cX8_minutes 79 = .ok (.bipush 58, 2) := by decide +kernel
theorem dX8_minutes_81 : decode cX8_minutes 81 = .ok (.invokevirtual 293, 3) := by decide +kernel
theorem dX8_minutes_84 : decode cX8_minutes 84 = .ok (.aload_n 0, 1) := by decide +kernel
theorem dX8_minutes_85 : decode cX8_minutes 85 = .ok (.bipush 48, 2) := by decide +kernel
theorem dX8_minutes_87 : decode cX8_minutes 87 = .ok (.iload 4, 2) := by decide +kernel
theorem dX8_minutes_89 : decode cX8_minutes 89 = .ok (.iadd, 1) := by decide +kernel
theorem dX8_minutes_90 : decode cX8_minutes 90 = .ok (.invokevirtual 293, 3) := by decide +kernel
theorem dX8_minutes_93 : decode cX8_minutes 93 = .ok (.aload_n 0, 1) := by decide +kernel
theorem dX8_minutes_94 : decode cX8_minutes 94 = .ok (.bipush 45, 2) := by decide +kernel
theorem dX8_minutes_96 : decode cX8_minutes 96 = .ok (.invokevirtual 293, 3) := by decide +kernel
theorem dX8_minutes_99 : decode cX8_minutes 99 = .ok (.aload_n 0, 1) := by decide +kernel
theorem dX8_minutes_100 : decode cX8_minutes 100 = .ok (.bipush 48, 2) := by decide +kernel
theorem dX8_minutes_102 : decode cX8_minutes 102 = .ok (.aload_n 0, 1) := by decide +kernel
theorem dX8_minutes_103 : decode cX8_minutes 103 = .ok (.getfield 7, 3) := by decide +kernel
theorem dX8_minutes_106 : decode cX8_minutes 106 = .ok (.iconst 3, 1) := by decide +kernel
theorem dX8_minutes_107 : decode cX8_minutes 107 = .ok (.iaload, 1) := by decide +kernel
theorem dX8_minutes_108 : decode cX8_minutes 108 = .ok (.iadd, 1) := by decide +kernel
theorem dX8_minutes_109 : decode cX8_minutes 109 = .ok (.iload 4, 2) := by decide +kernel
theorem dX8_minutes_111 : decode cX8_minutes 111 = .ok (.isub, 1) := by decide +kernel
theorem dX8_minutes_112 : decode cX8_minutes 112 = .ok (.invokevirtual 293, 3) := by decide +kernel
theorem dX8_minutes_115 : decode cX8_minutes 115 = .ok (.aload_n 0, 1) := by decide +kernel
theorem dX8_minutes_116 : decode cX8_minutes 116 = .ok (.iload_n 3, 1) := by decide +kernel
theorem dX8_minutes_117 : decode cX8_minutes 117 = .ok (.aload_n 0, 1) := by decide +kernel
theorem dX8_minutes_118 : decode cX8_minutes 118 = .ok (.getfield 253, 3) := by decide +kernel
theorem dX8_minutes_121 : decode cX8_minutes 121 = .ok (.if_icmp .ge 19, 3) := by decide +kernel
theorem dX8_minutes_124 : decode cX8_minutes 124 = .ok (.iconst 2, 1) := by decide +kernel
theorem dX8_minutes_125 : decode cX8_minutes 125 = .ok (.iload 4, 2) := by decide +kernel
theorem dX8_minutes_127 : decode cX8_minutes 127 = .ok (.imul, 1) := by decide +kernel
theorem dX8_minutes_128 : decode cX8_minutes 128 = .ok (.aload_n 0, 1) := by decide +kernel
theorem dX8_minutes_129 : decode cX8_minutes 129 = .ok (.getfield 7, 3) := by decide +kernel
theorem dX8_minutes_132 : decode cX8_minutes 132 = .ok (.iconst 3, 1) := by decide +kernel
theorem dX8_minutes_133 : decode cX8_minutes 133 = .ok (.iaload, 1) := by decide +kernel
theorem dX8_minutes_134 : decode cX8_minutes 134 = .ok (.if_icmp .le 20, 3) := by decide +kernel
theorem dX8_minutes_137 : decode cX8_minutes 137 = .ok (.goto 12, 3) := by decide +kernel
theorem dX8_minutes_140 : decode cX8_minutes 140 = .ok (.iload 4, 2) := by decide +kernel
theorem dX8_minutes_142 : decode cX8_minutes 142 = .ok (.aload_n 0, 1) := by decide +kernel
theorem dX8_minutes_143 : decode cX8_minutes 143 = .ok (.invokevirtual 262, 3) := by decide +kernel
theorem dX8_minutes_146 : decode cX8_minutes 146 = .ok (.if_icmp .lt 8, 3) := by decide +kernel
theorem dX8_minutes_149 : decode cX8_minutes 149 = .ok (.bipush 43, 2) := by decide +kernel
theorem dX8_minutes_151 : decode cX8_minutes 151 = .ok (.goto 5, 3) := by decide +kernel
theorem dX8_minutes_154 : decode cX8_minutes 154 = .ok (.bipush 46, 2) := by decide +kernel
theorem dX8_minutes_156 : decode cX8_minutes 156 = .ok (.invokevirtual 293, 3) := by decide +kernel
theorem dX8_minutes_159 : decode cX8_minutes 159 = .ok (.aload_n 0, 1) := by decide +kernel
theorem dX8_minutes_160 : decode cX8_minutes 160 = .ok (.bipush 59, 2) := by decide +kernel
theorem dX8_minutes_162 : decode cX8_minutes 162 = .ok (.invokevirtual 293, 3) := by decide +kernel
theorem dX8_minutes_165 : decode cX8_minutes 165 = .ok (.iinc 3 1, 3) := by decide +kernel
theorem dX8_minutes_168 : decode cX8_minutes 168 = .ok (.goto (-141), 3) := by decide +kernel
theorem dX8_minutes_171 : decode cX8_minutes 171 = .ok (.iload_n 2, 1) := by decide +kernel
theorem dX8_minutes_172 : decode cX8_minutes 172 = .ok (.iconst (-1), 1) := by decide +kernel
theorem dX8_minutes_173 : decode cX8_minutes 173 = .ok (.if_icmp .ne 10, 3) := by decide +kernel
theorem dX8_minutes_176 : decode cX8_minutes 176 = .ok (.aload_n 0, 1) := by decide +kernel
theorem dX8_minutes_177 : decode cX8_minutes 177 = .ok (.getfield 290, 3) := by decide +kernel
theorem dX8_minutes_180 : decode cX8_minutes 180 = .ok (.goto 27, 3) := by decide +kernel
theorem dX8_minutes_183 : decode cX8_minutes 183 = .ok (.iload_n 2, 1) := by decide +kernel
theorem dX8_minutes_184 : decode cX8_minutes 184 = .ok (.iconst 0, 1) := by decide +kernel
theorem dX8_minutes_185 : decode cX8_minutes 185 = .ok (.aload_n 0, 1) := by decide +kernel
theorem dX8_minutes_186 : decode cX8_minutes 186 = .ok (.getfield 290, 3) := by decide +kernel
theorem dX8_minutes_189 : decode cX8_minutes 189 = .ok (.iconst 1, 1) := by decide +kernel
theorem dX8_minutes_190 : decode cX8_minutes 190 = .ok (.isub, 1) := by decide +kernel
theorem dX8_minutes_191 : decode cX8_minutes 191 = .ok (.invokestatic 106, 3) := by decide +kernel
theorem dX8_minutes_194 : decode cX8_minutes 194 = .ok (.ifCond .eq 12, 3) := by decide +kernel
theorem dX8_minutes_197 : decode cX8_minutes 197 = .ok (.aload_n 0, 1) := by decide +kernel
theorem dX8_minutes_198 : decode cX8_minutes 198 = .ok (.getfield 82, 3) := by decide +kernel
theorem dX8_minutes_201 : decode cX8_minutes 201 = .ok (.iload_n 2, 1) := by decide +kernel
theorem dX8_minutes_202 : decode cX8_minutes 202 = .ok (.iaload, 1) := by decide +kernel
theorem dX8_minutes_203 : decode cX8_minutes 203 = .ok (.goto 4, 3) := by decide +kernel
theorem dX8_minutes_206 : decode cX8_minutes 206 = .ok (.iconst (-1), 1) := by decide +kernel
theorem dX8_minutes_207 : decode cX8_minutes 207 = .ok (.ireturn, 1) := by decide +kernel
theorem dX8_goesWith_0 : decode cX8_goesWith 0 = .ok (.iload_n 1, 1) := by decide +kernel
theorem dX8_goesWith_1 : decode cX8_goesWith 1 = .ok (.iload_n 2, 1) := by decide +kernel
theorem dX8_goesWith_2 : decode cX8_goesWith 2 = .ok (.if_icmp .eq 68, 3) := by decide +kernel
theorem dX8_goesWith_5 : decode cX8_goesWith 5 = .ok (.aload_n 0, 1) := by decide +kernel
theorem dX8_goesWith_6 : decode cX8_goesWith 6 = .ok (.getfield 16, 3) := by decide +kernel
theorem dX8_goesWith_9 : decode cX8_goesWith 9 = .ok (.iload_n 1, 1) := by decide +kernel
theorem dX8_goesWith_10 : decode cX8_goesWith 10 = .ok (.iaload, 1) := by decide +kernel
theorem dX8_goesWith_11 : decode cX8_goesWith 11 = .ok (.iconst 3, 1) := by decide +kernel
theorem dX8_goesWith_12 : decode cX8_goesWith 12 = .ok (.if_icmp .ne 13, 3) := by decide +kernel
theorem dX8_goesWith_15 : decode cX8_goesWith 15 = .ok (.aload_n 0, 1) := by decide +kernel
theorem dX8_goesWith_16 : decode cX8_goesWith 16 = .ok (.getfield 19, 3) := by decide +kernel
theorem dX8_goesWith_19 : decode cX8_goesWith 19 = .ok (.iload_n 1, 1) := by decide +kernel
theorem dX8_goesWith_20 : decode cX8_goesWith 20 = .ok (.iaload, 1) := by decide +kernel
theorem dX8_goesWith_21 : decode cX8_goesWith 21 = .ok (.iload_n 2, 1) := by decide +kernel
theorem dX8_goesWith_22 : decode cX8_goesWith 22 = .ok (.if_icmp .eq 48, 3) := by decide +kernel
theorem dX8_goesWith_25 : decode cX8_goesWith 25 = .ok (.aload_n 0, 1) := by decide +kernel
theorem dX8_goesWith_26 : decode cX8_goesWith 26 = .ok (.getfield 16, 3) := by decide +kernel
theorem dX8_goesWith_29 : decode cX8_goesWith 29 = .ok (.iload_n 2, 1) := by decide +kernel
theorem dX8_goesWith_30 : decode cX8_goesWith 30 = .ok (.iaload, 1) := by decide +kernel
theorem dX8_goesWith_31 : decode cX8_goesWith 31 = .ok (.iconst 1, 1) := by decide +kernel
theorem dX8_goesWith_32 : decode cX8_goesWith 32 = .ok (.if_icmp .ne 42, 3) := by decide +kernel
theorem dX8_goesWith_35 : decode cX8_goesWith 35 = .ok (.aload_n 0, 1) := by decide +kernel
theorem dX8_goesWith_36 : decode cX8_goesWith 36 = .ok (.getfield 16, 3) := by decide +kernel
theorem dX8_goesWith_39 : decode cX8_goesWith 39 = .ok (.iload_n 1, 1) := by decide +kernel
theorem dX8_goesWith_40 : decode cX8_goesWith 40 = .ok (.iaload, 1) := by decide +kernel
theorem dX8_goesWith_41 : decode cX8_goesWith 41 = .ok (.iconst 2, 1) := by decide +kernel
theorem dX8_goesWith_42 : decode cX8_goesWith 42 = .ok (.if_icmp .eq 28, 3) := by decide +kernel
theorem dX8_goesWith_45 : decode cX8_goesWith 45 = .ok (.aload_n 0, 1) := by decide +kernel
theorem dX8_goesWith_46 : decode cX8_goesWith 46 = .ok (.getfield 16, 3) := by decide +kernel
theorem dX8_goesWith_49 : decode cX8_goesWith 49 = .ok (.iload_n 1, 1) := by decide +kernel
theorem dX8_goesWith_50 : decode cX8_goesWith 50 = .ok (.iaload, 1) := by decide +kernel
theorem dX8_goesWith_51 : decode cX8_goesWith 51 = .ok (.iconst 3, 1) := by decide +kernel
theorem dX8_goesWith_52 : decode cX8_goesWith 52 = .ok (.if_icmp .ne 22, 3) := by decide +kernel
theorem dX8_goesWith_55 : decode cX8_goesWith 55 = .ok (.aload_n 0, 1) := by decide +kernel
theorem dX8_goesWith_56 : decode cX8_goesWith 56 = .ok (.getfield 16, 3) := by decide +kernel
theorem dX8_goesWith_59 : decode cX8_goesWith 59 = .ok (.aload_n 0, 1) := by decide +kernel
theorem dX8_goesWith_60 : decode cX8_goesWith 60 = .ok (.getfield 19, 3) := by decide +kernel
theorem dX8_goesWith_63 : decode cX8_goesWith 63 = .ok (.iload_n 1, 1) := by decide +kernel
theorem dX8_goesWith_64 : decode cX8_goesWith 64 = .ok (.iaload, 1) := by decide +kernel
theorem dX8_goesWith_65 : decode cX8_goesWith 65 = .ok (.iaload, 1) := by decide +kernel
theorem dX8_goesWith_66 : decode cX8_goesWith 66 = .ok (.iconst 2, 1) := by decide +kernel
theorem dX8_goesWith_67 : decode cX8_goesWith 67 = .ok (.if_icmp .ne 7, 3) := by decide +kernel
theorem dX8_goesWith_70 : decode cX8_goesWith 70 = .ok (.iconst 1, 1) := by decide +kernel
theorem dX8_goesWith_71 : decode cX8_goesWith 71 = .ok (.goto 4, 3) := by decide +kernel
theorem dX8_goesWith_74 : decode cX8_goesWith 74 = .ok (.iconst 0, 1) := by decide +kernel
theorem dX8_goesWith_75 : decode cX8_goesWith 75 = .ok (.ireturn, 1) := by decide +kernel
theorem dX8_resultWithout_0 : decode cX8_resultWithout 0 = .ok (.iconst 0, 1) := by decide +kernel
theorem dX8_resultWithout_1 : decode cX8_resultWithout 1 = .ok (.istore_n 3, 1) := by decide +kernel
theorem dX8_resultWithout_2 : decode cX8_resultWithout 2 = .ok (.iconst 0, 1) := by decide +kernel
theorem dX8_resultWithout_3 : decode cX8_resultWithout 3 = .ok (.istore 4, 2) := by decide +kernel
theorem dX8_resultWithout_5 : decode cX8_resultWithout 5 = .ok (.iload 4, 2) := by decide +kernel
theorem dX8_resultWithout_7 : decode cX8_resultWithout 7 = .ok (.aload_n 0, 1) := by decide +kernel
theorem dX8_resultWithout_8 : decode cX8_resultWithout 8 = .ok (.getfield 7, 3) := by decide +kernel
theorem dX8_resultWithout_11 : decode cX8_resultWithout 11 = .ok (.iconst 1, 1) := by decide +kernel
theorem dX8_resultWithout_12 : decode cX8_resultWithout 12 = .ok (.iaload, 1) := by decide +kernel
theorem dX8_resultWithout_13 : decode cX8_resultWithout 13 = .ok (.if_icmp .ge 40, 3) := by decide +kernel
theorem dX8_resultWithout_16 : decode cX8_resultWithout 16 = .ok (.aload_n 0, 1) := by decide +kernel
theorem dX8_resultWithout_17 : decode cX8_resultWithout 17 = .ok (.aload_n 0, 1) := by decide +kernel
theorem dX8_resultWithout_18 : decode cX8_resultWithout 18 = .ok (.getfield 64, 3) := by decide +kernel
theorem dX8_resultWithout_21 : decode cX8_resultWithout 21 = .ok (.iload 4, 2) := by decide +kernel
theorem dX8_resultWithout_23 : decode cX8_resultWithout 23 = .ok (.iaload, 1) := by decide +kernel
theorem dX8_resultWithout_24 : decode cX8_resultWithout 24 = .ok (.iload_n 1, 1) := by decide +kernel
theorem dX8_resultWithout_25 : decode cX8_resultWithout 25 = .ok (.invokevirtual 296, 3) := by decide +kernel
theorem dX8_resultWithout_28 : decode cX8_resultWithout 28 = .ok (.ifCond .ne 19, 3) := by decide +kernel
theorem dX8_resultWithout_31 : decode cX8_resultWithout 31 = .ok (.aload_n 0, 1) := by decide +kernel
theorem dX8_resultWithout_32 : decode cX8_resultWithout 32 = .ok (.getfield 70, 3) := by decide +kernel
theorem dX8_resultWithout_35 : decode cX8_resultWithout 35 = .ok (.iload_n 3, 1) := by decide +kernel
theorem dX8_resultWithout_36 : decode cX8_resultWithout 36 = .ok (.aload_n 0, 1) := by decide +kernel
theorem dX8_resultWithout_37 : decode cX8_resultWithout 37 = .ok (.getfield 64, 3) := by decide +kernel
theorem dX8_resultWithout_40 : decode cX8_resultWithout 40 = .ok (.iload 4, 2) := by decide +kernel
theorem dX8_resultWithout_42 : decode cX8_resultWithout 42 = .ok (.iaload, 1) := by decide +kernel
theorem dX8_resultWithout_43 : decode cX8_resultWithout 43 = .ok (.iastore, 1) := by decide +kernel
theorem dX8_resultWithout_44 : decode cX8_resultWithout 44 = .ok (.iinc 3 1, 3) := by decide +kernel
theorem dX8_resultWithout_47 : decode cX8_resultWithout 47 = .ok (.iinc 4 1, 3) := by decide +kernel
theorem dX8_resultWithout_50 : decode cX8_resultWithout 50 = .ok (.goto (-45), 3) := by decide +kernel
theorem dX8_resultWithout_53 : decode cX8_resultWithout 53 = .ok (.aload_n 0, 1) := by decide +kernel
theorem dX8_resultWithout_54 : decode cX8_resultWithout 54 = .ok (.iload_n 3, 1) := by decide +kernel
theorem dX8_resultWithout_55 : decode cX8_resultWithout 55 = .ok (.iload_n 2, 1) := by decide +kernel
theorem dX8_resultWithout_56 : decode cX8_resultWithout 56 = .ok (.invokevirtual 278, 3) := by decide +kernel
theorem dX8_resultWithout_59 : decode cX8_resultWithout 59 = .ok (.aload_n 0, 1) := by decide +kernel
theorem dX8_resultWithout_60 : decode cX8_resultWithout 60 = .ok (.getfield 76, 3) := by decide +kernel
theorem dX8_resultWithout_63 : decode cX8_resultWithout 63 = .ok (.iconst 0, 1) := by decide +kernel
theorem dX8_resultWithout_64 : decode cX8_resultWithout 64 = .ok (.iaload, 1) := by decide +kernel
theorem dX8_resultWithout_65 : decode cX8_resultWithout 65 = .ok (.ireturn, 1) := by decide +kernel
theorem dX8_isMotion_0 : decode cX8_isMotion 0 = .ok (.iload_n 1, 1) := by decide +kernel
theorem dX8_isMotion_1 : decode cX8_isMotion 1 = .ok (.iconst 0, 1) := by decide +kernel
theorem dX8_isMotion_2 : decode cX8_isMotion 2 = .ok (.aload_n 0, 1) := by decide +kernel
theorem dX8_isMotion_3 : decode cX8_isMotion 3 = .ok (.getfield 7, 3) := by decide +kernel
theorem dX8_isMotion_6 : decode cX8_isMotion 6 = .ok (.iconst 1, 1) := by decide +kernel
theorem dX8_isMotion_7 : decode cX8_isMotion 7 = .ok (.iaload, 1) := by decide +kernel
theorem dX8_isMotion_8 : decode cX8_isMotion 8 = .ok (.iconst 1, 1) := by decide +kernel
theorem dX8_isMotion_9 : decode cX8_isMotion 9 = .ok (.isub, 1) := by decide +kernel
theorem dX8_isMotion_10 : decode cX8_isMotion 10 = .ok (.invokestatic 106, 3) := by decide +kernel
theorem dX8_isMotion_13 : decode cX8_isMotion 13 = .ok (.ireturn, 1) := by decide +kernel
theorem dX8_without_0 : decode cX8_without 0 = .ok (.aload_n 0, 1) := by decide +kernel
theorem dX8_without_1 : decode cX8_without 1 = .ok (.iconst 0, 1) := by decide +kernel
theorem dX8_without_2 : decode cX8_without 2 = .ok (.putfield 95, 3) := by decide +kernel
theorem dX8_without_5 : decode cX8_without 5 = .ok (.aload_n 0, 1) := by decide +kernel
theorem dX8_without_6 : decode cX8_without 6 = .ok (.iload_n 1, 1) := by decide +kernel
theorem dX8_without_7 : decode cX8_without 7 = .ok (.invokevirtual 299, 3) := by decide +kernel
theorem dX8_without_10 : decode cX8_without 10 = .ok (.ifCond .eq 11, 3) := by decide +kernel
theorem dX8_without_13 : decode cX8_without 13 = .ok (.aload_n 0, 1) := by decide +kernel
theorem dX8_without_14 : decode cX8_without 14 = .ok (.iload_n 2, 1) := by decide +kernel
theorem dX8_without_15 : decode cX8_without 15 = .ok (.invokevirtual 281, 3) := by decide +kernel
theorem dX8_without_18 : decode cX8_without 18 = .ok (.ifCond .ne 5, 3) := by decide +kernel
theorem dX8_without_21 : decode cX8_without 21 = .ok (.iconst (-1), 1) := by decide +kernel
theorem dX8_without_22 : decode cX8_without 22 = .ok (.ireturn, 1) := by decide +kernel
theorem dX8_without_23 : decode cX8_without 23 = .ok (.aload_n 0, 1) := by decide +kernel
theorem dX8_without_24 : decode cX8_without 24 = .ok (.invokevirtual 272, 3) := by decide +kernel
theorem dX8_without_27 : decode cX8_without 27 = .ok (.aload_n 0, 1) := by decide +kernel
theorem dX8_without_28 : decode cX8_without 28 = .ok (.iload_n 1, 1) := by decide +kernel
theorem dX8_without_29 : decode cX8_without 29 = .ok (.iload_n 2, 1) := by decide +kernel
theorem dX8_without_30 : decode cX8_without 30 = .ok (.invokevirtual 302, 3) := by decide +kernel
theorem dX8_without_33 : decode cX8_without 33 = .ok (.ireturn, 1) := by decide +kernel
theorem dX8_killers_0 : decode cX8_killers 0 = .ok (.aload_n 0, 1) := by decide +kernel
theorem dX8_killers_1 : decode cX8_killers 1 = .ok (.iconst 0, 1) := by decide +kernel
theorem dX8_killers_2 : decode cX8_killers 2 = .ok (.putfield 95, 3) := by decide +kernel
theorem dX8_killers_5 : decode cX8_killers 5 = .ok (.aload_n 0, 1) := by decide +kernel
theorem dX8_killers_6 : decode cX8_killers 6 = .ok (.iload_n 1, 1) := by decide +kernel
theorem dX8_killers_7 : decode cX8_killers 7 = .ok (.invokevirtual 281, 3) := by decide +kernel
theorem dX8_killers_10 : decode cX8_killers 10 = .ok (.ifCond .ne 5, 3) := by decide +kernel
theorem dX8_killers_13 : decode cX8_killers 13 = .ok (.iconst (-1), 1) := by decide +kernel
theorem dX8_killers_14 : decode cX8_killers 14 = .ok (.ireturn, 1) := by decide +kernel
theorem dX8_killers_15 : decode cX8_killers 15 = .ok (.aload_n 0, 1) := by decide +kernel
theorem dX8_killers_16 : decode cX8_killers 16 = .ok (.iload_n 1, 1) := by decide +kernel
theorem dX8_killers_17 : decode cX8_killers 17 = .ok (.invokevirtual 284, 3) := by decide +kernel
theorem dX8_killers_20 : decode cX8_killers 20 = .ok (.iconst 0, 1) := by decide +kernel
theorem dX8_killers_21 : decode cX8_killers 21 = .ok (.istore_n 2, 1) := by decide +kernel
theorem dX8_killers_22 : decode cX8_killers 22 = .ok (.aload_n 0, 1) := by decide +kernel
theorem dX8_killers_23 : decode cX8_killers 23 = .ok (.getfield 76, 3) := by decide +kernel
theorem dX8_killers_26 : decode cX8_killers 26 = .ok (.iconst 0, 1) := by decide +kernel
theorem dX8_killers_27 : decode cX8_killers 27 = .ok (.iaload, 1) := by decide +kernel
theorem dX8_killers_28 : decode cX8_killers 28 = .ok (.ifCond .eq 5, 3) := by decide +kernel
theorem dX8_killers_31 : decode cX8_killers 31 = .ok (.iconst 0, 1) := by decide +kernel
theorem dX8_killers_32 : decode cX8_killers 32 = .ok (.ireturn, 1) := by decide +kernel
theorem dX8_killers_33 : decode cX8_killers 33 = .ok (.iconst 0, 1) := by decide +kernel
theorem dX8_killers_34 : decode cX8_killers 34 = .ok (.istore_n 3, 1) := by decide +kernel
theorem dX8_killers_35 : decode cX8_killers 35 = .ok (.iload_n 3, 1) := by decide +kernel
theorem dX8_killers_36 : decode cX8_killers 36 = .ok (.aload_n 0, 1) := by decide +kernel
theorem dX8_killers_37 : decode cX8_killers 37 = .ok (.getfield 7, 3) := by decide +kernel
theorem dX8_killers_40 : decode cX8_killers 40 = .ok (.iconst 1, 1) := by decide +kernel
theorem dX8_killers_41 : decode cX8_killers 41 = .ok (.iaload, 1) := by decide +kernel
theorem dX8_killers_42 : decode cX8_killers 42 = .ok (.if_icmp .ge 28, 3) := by decide +kernel
theorem dX8_killers_45 : decode cX8_killers 45 = .ok (.iload_n 2, 1) := by decide +kernel
theorem dX8_killers_46 : decode cX8_killers 46 = .ok (.aload_n 0, 1) := by decide +kernel
theorem dX8_killers_47 : decode cX8_killers 47 = .ok (.iload_n 3, 1) := by decide +kernel
theorem dX8_killers_48 : decode cX8_killers 48 = .ok (.iload_n 1, 1) := by decide +kernel
theorem dX8_killers_49 : decode cX8_killers 49 = .ok (.invokevirtual 302, 3) := by decide +kernel
theorem dX8_killers_52 : decode cX8_killers 52 = .ok (.ifCond .eq 9, 3) := by decide +kernel
theorem dX8_killers_55 : decode cX8_killers 55 = .ok (.iconst 1, 1) := by decide +kernel
theorem dX8_killers_56 : decode cX8_killers 56 = .ok (.iload_n 3, 1) := by decide +kernel
theorem dX8_killers_57 : decode cX8_killers 57 = .ok (.ishl, 1) := by decide +kernel
theorem dX8_killers_58 : decode cX8_killers 58 = .ok (.goto 4, 3) := by decide +kernel
theorem dX8_killers_61 : decode cX8_killers 61 = .ok (.iconst 0, 1) := by decide +kernel
theorem dX8_killers_62 : decode cX8_killers 62 = .ok (.ior, 1) := by decide +kernel
theorem dX8_killers_63 : decode cX8_killers 63 = .ok (.istore_n 2, 1) := by decide +kernel
theorem dX8_killers_64 : decode cX8_killers 64 = .ok (.iinc 3 1, 3) := by decide +kernel
theorem dX8_killers_67 : decode cX8_killers 67 = .ok (.goto (-32), 3) := by decide +kernel
theorem dX8_killers_70 : decode cX8_killers 70 = .ok (.iload_n 2, 1) := by decide +kernel
theorem dX8_killers_71 : decode cX8_killers 71 = .ok (.ireturn, 1) := by decide +kernel
theorem dX8_isVoter_0 : decode cX8_isVoter 0 = .ok (.iload_n 1, 1) := by decide +kernel
theorem dX8_isVoter_1 : decode cX8_isVoter 1 = .ok (.iconst 0, 1) := by decide +kernel
theorem dX8_isVoter_2 : decode cX8_isVoter 2 = .ok (.aload_n 0, 1) := by decide +kernel
theorem dX8_isVoter_3 : decode cX8_isVoter 3 = .ok (.getfield 7, 3) := by decide +kernel
theorem dX8_isVoter_6 : decode cX8_isVoter 6 = .ok (.iconst 3, 1) := by decide +kernel
theorem dX8_isVoter_7 : decode cX8_isVoter 7 = .ok (.iaload, 1) := by decide +kernel
end
section
theorem dX8_isVoter_8 : decode cX8_isVoter 8 = .ok (.iconst 1, 1) := by decide +kernel
theorem dX8_isVoter_9 : decode cX8_isVoter 9 = .ok (.isub, 1) := by decide +kernel
theorem dX8_isVoter_10 : decode cX8_isVoter 10 = .ok (.invokestatic 106, 3) := by decide +kernel
theorem dX8_isVoter_13 : decode cX8_isVoter 13 = .ok (.ireturn, 1) := by decide +kernel
theorem dX8_best_0 : decode cX8_best 0 = .ok (.aload_n 0, 1) := by decide +kernel
theorem dX8_best_1 : decode cX8_best 1 = .ok (.iconst 0, 1) := by decide +kernel
theorem dX8_best_2 : decode cX8_best 2 = .ok (.putfield 95, 3) := by decide +kernel
theorem dX8_best_5 : decode cX8_best 5 = .ok (.aload_n 0, 1) := by decide +kernel
theorem dX8_best_6 : decode cX8_best 6 = .ok (.iload_n 1, 1) := by decide +kernel
theorem dX8_best_7 : decode cX8_best 7 = .ok (.invokevirtual 305, 3) := by decide +kernel
theorem dX8_best_10 : decode cX8_best 10 = .ok (.ifCond .eq 20, 3) := by decide +kernel
theorem dX8_best_13 : decode cX8_best 13 = .ok (.aload_n 0, 1) := by decide +kernel
theorem dX8_best_14 : decode cX8_best 14 = .ok (.iload_n 2, 1) := by decide +kernel
theorem dX8_best_15 : decode cX8_best 15 = .ok (.invokevirtual 281, 3) := by decide +kernel
theorem dX8_best_18 : decode cX8_best 18 = .ok (.ifCond .eq 12, 3) := by decide +kernel
theorem dX8_best_21 : decode cX8_best 21 = .ok (.iload_n 3, 1) := by decide +kernel
theorem dX8_best_22 : decode cX8_best 22 = .ok (.iconst 0, 1) := by decide +kernel
theorem dX8_best_23 : decode cX8_best 23 = .ok (.iconst 2, 1) := by decide +kernel
theorem dX8_best_24 : decode cX8_best 24 = .ok (.invokestatic 106, 3) := by decide +kernel
theorem dX8_best_27 : decode cX8_best 27 = .ok (.ifCond .ne 5, 3) := by decide +kernel
theorem dX8_best_30 : decode cX8_best 30 = .ok (.iconst (-1), 1) := by decide +kernel
theorem dX8_best_31 : decode cX8_best 31 = .ok (.ireturn, 1) := by decide +kernel
theorem dX8_best_32 : decode cX8_best 32 = .ok (.aload_n 0, 1) := by decide +kernel
theorem dX8_best_33 : decode cX8_best 33 = .ok (.invokevirtual 272, 3) := by decide +kernel
theorem dX8_best_36 : decode cX8_best 36 = .ok (.aload_n 0, 1) := by decide +kernel
theorem dX8_best_37 : decode cX8_best 37 = .ok (.invokevirtual 230, 3) := by decide +kernel
theorem dX8_best_40 : decode cX8_best 40 = .ok (.iconst (-1), 1) := by decide +kernel
theorem dX8_best_41 : decode cX8_best 41 = .ok (.istore 4, 2) := by decide +kernel
theorem dX8_best_43 : decode cX8_best 43 = .ok (.iconst 0, 1) := by decide +kernel
theorem dX8_best_44 : decode cX8_best 44 = .ok (.istore 5, 2) := by decide +kernel
theorem dX8_best_46 : decode cX8_best 46 = .ok (.iconst 0, 1) := by decide +kernel
theorem dX8_best_47 : decode cX8_best 47 = .ok (.istore 6, 2) := by decide +kernel
theorem dX8_best_49 : decode cX8_best 49 = .ok (.iconst 1, 1) := by decide +kernel
theorem dX8_best_50 : decode cX8_best 50 = .ok (.istore 7, 2) := by decide +kernel
theorem dX8_best_52 : decode cX8_best 52 = .ok (.iload 7, 2) := by decide +kernel
theorem dX8_best_54 : decode cX8_best 54 = .ok (.ifCond .eq 108, 3) := by decide +kernel
theorem dX8_best_57 : decode cX8_best 57 = .ok (.aload_n 0, 1) := by decide +kernel
theorem dX8_best_58 : decode cX8_best 58 = .ok (.invokevirtual 233, 3) := by decide +kernel
theorem dX8_best_61 : decode cX8_best 61 = .ok (.ifCond .eq 92, 3) := by decide +kernel
theorem dX8_best_64 : decode cX8_best 64 = .ok (.aload_n 0, 1) := by decide +kernel
theorem dX8_best_65 : decode cX8_best 65 = .ok (.aload_n 0, 1) := by decide +kernel
theorem dX8_best_66 : decode cX8_best 66 = .ok (.getfield 7, 3) := by decide +kernel
theorem dX8_best_69 : decode cX8_best 69 = .ok (.iconst 1, 1) := by decide +kernel
theorem dX8_best_70 : decode cX8_best 70 = .ok (.iaload, 1) := by decide +kernel
theorem dX8_best_71 : decode cX8_best 71 = .ok (.iload_n 2, 1) := by decide +kernel
theorem dX8_best_72 : decode cX8_best 72 = .ok (.invokevirtual 278, 3) := by decide +kernel
theorem dX8_best_75 : decode cX8_best 75 = .ok (.aload_n 0, 1) := by decide +kernel
theorem dX8_best_76 : decode cX8_best 76 = .ok (.getfield 76, 3) := by decide +kernel
theorem dX8_best_79 : decode cX8_best 79 = .ok (.iconst 0, 1) := by decide +kernel
theorem dX8_best_80 : decode cX8_best 80 = .ok (.iaload, 1) := by decide +kernel
theorem dX8_best_81 : decode cX8_best 81 = .ok (.istore 8, 2) := by decide +kernel
theorem dX8_best_83 : decode cX8_best 83 = .ok (.iload 4, 2) := by decide +kernel
theorem dX8_best_85 : decode cX8_best 85 = .ok (.iconst (-1), 1) := by decide +kernel
theorem dX8_best_86 : decode cX8_best 86 = .ok (.if_icmp .eq 15, 3) := by decide +kernel
theorem dX8_best_89 : decode cX8_best 89 = .ok (.aload_n 0, 1) := by decide +kernel
theorem dX8_best_90 : decode cX8_best 90 = .ok (.iload_n 1, 1) := by decide +kernel
theorem dX8_best_91 : decode cX8_best 91 = .ok (.iload 8, 2) := by decide +kernel
theorem dX8_best_93 : decode cX8_best 93 = .ok (.iload 4, 2) := by decide +kernel
theorem dX8_best_95 : decode cX8_best 95 = .ok (.invokevirtual 250, 3) := by decide +kernel
theorem dX8_best_98 : decode cX8_best 98 = .ok (.ifCond .eq 16, 3) := by decide +kernel
theorem dX8_best_101 : decode cX8_best 101 = .ok (.iload 8, 2) := by decide +kernel
theorem dX8_best_103 : decode cX8_best 103 = .ok (.istore 4, 2) := by decide +kernel
theorem dX8_best_105 : decode cX8_best 105 = .ok (.aload_n 0, 1) := by decide +kernel
theorem dX8_best_106 : decode cX8_best 106 = .ok (.invokevirtual 308, 3) := by decide +kernel
theorem dX8_best_109 : decode cX8_best 109 = .ok (.istore 5, 2) := by decide +kernel
theorem dX8_best_111 : decode cX8_best 111 = .ok (.iconst 0, 1) := by decide +kernel
theorem dX8_best_112 : decode cX8_best 112 = .ok (.istore 6, 2) := by decide +kernel
theorem dX8_best_114 : decode cX8_best 114 = .ok (.iload 6, 2) := by decide +kernel
theorem dX8_best_116 : decode cX8_best 116 = .ok (.aload_n 0, 1) := by decide +kernel
theorem dX8_best_117 : decode cX8_best 117 = .ok (.getfield 73, 3) := by decide +kernel
theorem dX8_best_120 : decode cX8_best 120 = .ok (.sipush 256, 3) := by decide +kernel
theorem dX8_best_123 : decode cX8_best 123 = .ok (.iload_n 1, 1) := by decide +kernel
theorem dX8_best_124 : decode cX8_best 124 = .ok (.imul, 1) := by decide +kernel
theorem dX8_best_125 : decode cX8_best 125 = .ok (.iload 8, 2) := by decide +kernel
theorem dX8_best_127 : decode cX8_best 127 = .ok (.iadd, 1) := by decide +kernel
theorem dX8_best_128 : decode cX8_best 128 = .ok (.iaload, 1) := by decide +kernel
theorem dX8_best_129 : decode cX8_best 129 = .ok (.aload_n 0, 1) := by decide +kernel
theorem dX8_best_130 : decode cX8_best 130 = .ok (.getfield 73, 3) := by decide +kernel
theorem dX8_best_133 : decode cX8_best 133 = .ok (.sipush 256, 3) := by decide +kernel
theorem dX8_best_136 : decode cX8_best 136 = .ok (.iload_n 1, 1) := by decide +kernel
theorem dX8_best_137 : decode cX8_best 137 = .ok (.imul, 1) := by decide +kernel
theorem dX8_best_138 : decode cX8_best 138 = .ok (.iload 4, 2) := by decide +kernel
theorem dX8_best_140 : decode cX8_best 140 = .ok (.iadd, 1) := by decide +kernel
theorem dX8_best_141 : decode cX8_best 141 = .ok (.iaload, 1) := by decide +kernel
theorem dX8_best_142 : decode cX8_best 142 = .ok (.if_icmp .ne 7, 3) := by decide +kernel
theorem dX8_best_145 : decode cX8_best 145 = .ok (.iconst 1, 1) := by decide +kernel
theorem dX8_best_146 : decode cX8_best 146 = .ok (.goto 4, 3) := by decide +kernel
theorem dX8_best_149 : decode cX8_best 149 = .ok (.iconst 0, 1) := by decide +kernel
theorem dX8_best_150 : decode cX8_best 150 = .ok (.iadd, 1) := by decide +kernel
theorem dX8_best_151 : decode cX8_best 151 = .ok (.istore 6, 2) := by decide +kernel
theorem dX8_best_153 : decode cX8_best 153 = .ok (.aload_n 0, 1) := by decide +kernel
theorem dX8_best_154 : decode cX8_best 154 = .ok (.invokevirtual 236, 3) := by decide +kernel
theorem dX8_best_157 : decode cX8_best 157 = .ok (.istore 7, 2) := by decide +kernel
theorem dX8_best_159 : decode cX8_best 159 = .ok (.goto (-107), 3) := by decide +kernel
theorem dX8_best_162 : decode cX8_best 162 = .ok (.iload_n 3, 1) := by decide +kernel
theorem dX8_best_163 : decode cX8_best 163 = .ok (.ifCond .ne 8, 3) := by decide +kernel
theorem dX8_best_166 : decode cX8_best 166 = .ok (.iload 4, 2) := by decide +kernel
theorem dX8_best_168 : decode cX8_best 168 = .ok (.goto 15, 3) := by decide +kernel
theorem dX8_best_171 : decode cX8_best 171 = .ok (.iload_n 3, 1) := by decide +kernel
theorem dX8_best_172 : decode cX8_best 172 = .ok (.iconst 1, 1) := by decide +kernel
theorem dX8_best_173 : decode cX8_best 173 = .ok (.if_icmp .ne 8, 3) := by decide +kernel
theorem dX8_best_176 : decode cX8_best 176 = .ok (.iload 5, 2) := by decide +kernel
theorem dX8_best_178 : decode cX8_best 178 = .ok (.goto 5, 3) := by decide +kernel
theorem dX8_best_181 : decode cX8_best 181 = .ok (.iload 6, 2) := by decide +kernel
theorem dX8_best_183 : decode cX8_best 183 = .ok (.ireturn, 1) := by decide +kernel
theorem dX8_laysOpen_0 : decode cX8_laysOpen 0 = .ok (.iconst 0, 1) := by decide +kernel
theorem dX8_laysOpen_1 : decode cX8_laysOpen 1 = .ok (.istore_n 1, 1) := by decide +kernel
theorem dX8_laysOpen_2 : decode cX8_laysOpen 2 = .ok (.iload_n 1, 1) := by decide +kernel
theorem dX8_laysOpen_3 : decode cX8_laysOpen 3 = .ok (.sipush 256, 3) := by decide +kernel
theorem dX8_laysOpen_6 : decode cX8_laysOpen 6 = .ok (.if_icmp .ge 24, 3) := by decide +kernel
theorem dX8_laysOpen_9 : decode cX8_laysOpen 9 = .ok (.aload_n 0, 1) := by decide +kernel
theorem dX8_laysOpen_10 : decode cX8_laysOpen 10 = .ok (.getfield 85, 3) := by decide +kernel
theorem dX8_laysOpen_13 : decode cX8_laysOpen 13 = .ok (.iload_n 1, 1) := by decide +kernel
theorem dX8_laysOpen_14 : decode cX8_laysOpen 14 = .ok (.iload_n 1, 1) := by decide +kernel
theorem dX8_laysOpen_15 : decode cX8_laysOpen 15 = .ok (.ifCond .ne 7, 3) := by decide +kernel
theorem dX8_laysOpen_18 : decode cX8_laysOpen 18 = .ok (.iconst 1, 1) := by decide +kernel
theorem dX8_laysOpen_19 : decode cX8_laysOpen 19 = .ok (.goto 4, 3) := by decide +kernel
theorem dX8_laysOpen_22 : decode cX8_laysOpen 22 = .ok (.iconst 0, 1) := by decide +kernel
theorem dX8_laysOpen_23 : decode cX8_laysOpen 23 = .ok (.bastore, 1) := by decide +kernel
theorem dX8_laysOpen_24 : decode cX8_laysOpen 24 = .ok (.iinc 1 1, 3) := by decide +kernel
theorem dX8_laysOpen_27 : decode cX8_laysOpen 27 = .ok (.goto (-25), 3) := by decide +kernel
theorem dX8_laysOpen_30 : decode cX8_laysOpen 30 = .ok (.iconst 0, 1) := by decide +kernel
theorem dX8_laysOpen_31 : decode cX8_laysOpen 31 = .ok (.istore_n 1, 1) := by decide +kernel
theorem dX8_laysOpen_32 : decode cX8_laysOpen 32 = .ok (.iload_n 1, 1) := by decide +kernel
theorem dX8_laysOpen_33 : decode cX8_laysOpen 33 = .ok (.iconst 1, 1) := by decide +kernel
theorem dX8_laysOpen_34 : decode cX8_laysOpen 34 = .ok (.aload_n 0, 1) := by decide +kernel
theorem dX8_laysOpen_35 : decode cX8_laysOpen 35 = .ok (.getfield 7, 3) := by decide +kernel
theorem dX8_laysOpen_38 : decode cX8_laysOpen 38 = .ok (.iconst 1, 1) := by decide +kernel
theorem dX8_laysOpen_39 : decode cX8_laysOpen 39 = .ok (.iaload, 1) := by decide +kernel
theorem dX8_laysOpen_40 : decode cX8_laysOpen 40 = .ok (.ishl, 1) := by decide +kernel
theorem dX8_laysOpen_41 : decode cX8_laysOpen 41 = .ok (.if_icmp .ge 20, 3) := by decide +kernel
theorem dX8_laysOpen_44 : decode cX8_laysOpen 44 = .ok (.aload_n 0, 1) := by decide +kernel
theorem dX8_laysOpen_45 : decode cX8_laysOpen 45 = .ok (.getfield 85, 3) := by decide +kernel
theorem dX8_laysOpen_48 : decode cX8_laysOpen 48 = .ok (.aload_n 0, 1) := by decide +kernel
theorem dX8_laysOpen_49 : decode cX8_laysOpen 49 = .ok (.iload_n 1, 1) := by decide +kernel
theorem dX8_laysOpen_50 : decode cX8_laysOpen 50 = .ok (.invokevirtual 243, 3) := by decide +kernel
theorem dX8_laysOpen_53 : decode cX8_laysOpen 53 = .ok (.iconst 1, 1) := by decide +kernel
theorem dX8_laysOpen_54 : decode cX8_laysOpen 54 = .ok (.bastore, 1) := by decide +kernel
theorem dX8_laysOpen_55 : decode cX8_laysOpen 55 = .ok (.iinc 1 1, 3) := by decide +kernel
theorem dX8_laysOpen_58 : decode cX8_laysOpen 58 = .ok (.goto (-26), 3) := by decide +kernel
theorem dX8_laysOpen_61 : decode cX8_laysOpen 61 = .ok (.iconst 0, 1) := by decide +kernel
theorem dX8_laysOpen_62 : decode cX8_laysOpen 62 = .ok (.istore_n 1, 1) := by decide +kernel
theorem dX8_laysOpen_63 : decode cX8_laysOpen 63 = .ok (.iconst 0, 1) := by decide +kernel
theorem dX8_laysOpen_64 : decode cX8_laysOpen 64 = .ok (.istore_n 2, 1) := by decide +kernel
theorem dX8_laysOpen_65 : decode cX8_laysOpen 65 = .ok (.iload_n 2, 1) := by decide +kernel
theorem dX8_laysOpen_66 : decode cX8_laysOpen 66 = .ok (.sipush 256, 3) := by decide +kernel
theorem dX8_laysOpen_69 : decode cX8_laysOpen 69 = .ok (.if_icmp .ge 26, 3) := by decide +kernel
theorem dX8_laysOpen_72 : decode cX8_laysOpen 72 = .ok (.iload_n 1, 1) := by decide +kernel
theorem dX8_laysOpen_73 : decode cX8_laysOpen 73 = .ok (.aload_n 0, 1) := by decide +kernel
theorem dX8_laysOpen_74 : decode cX8_laysOpen 74 = .ok (.getfield 85, 3) := by decide +kernel
theorem dX8_laysOpen_77 : decode cX8_laysOpen 77 = .ok (.iload_n 2, 1) := by decide +kernel
theorem dX8_laysOpen_78 : decode cX8_laysOpen 78 = .ok (.baload, 1) := by decide +kernel
theorem dX8_laysOpen_79 : decode cX8_laysOpen 79 = .ok (.ifCond .eq 7, 3) := by decide +kernel
theorem dX8_laysOpen_82 : decode cX8_laysOpen 82 = .ok (.iconst 1, 1) := by decide +kernel
theorem dX8_laysOpen_83 : decode cX8_laysOpen 83 = .ok (.goto 4, 3) := by decide +kernel
theorem dX8_laysOpen_86 : decode cX8_laysOpen 86 = .ok (.iconst 0, 1) := by decide +kernel
theorem dX8_laysOpen_87 : decode cX8_laysOpen 87 = .ok (.iadd, 1) := by decide +kernel
theorem dX8_laysOpen_88 : decode cX8_laysOpen 88 = .ok (.istore_n 1, 1) := by decide +kernel
theorem dX8_laysOpen_89 : decode cX8_laysOpen 89 = .ok (.iinc 2 1, 3) := by decide +kernel
theorem dX8_laysOpen_92 : decode cX8_laysOpen 92 = .ok (.goto (-27), 3) := by decide +kernel
theorem dX8_laysOpen_95 : decode cX8_laysOpen 95 = .ok (.aload_n 0, 1) := by decide +kernel
theorem dX8_laysOpen_96 : decode cX8_laysOpen 96 = .ok (.invokevirtual 272, 3) := by decide +kernel
theorem dX8_laysOpen_99 : decode cX8_laysOpen 99 = .ok (.iload_n 1, 1) := by decide +kernel
theorem dX8_laysOpen_100 : decode cX8_laysOpen 100 = .ok (.ireturn, 1) := by decide +kernel
theorem dX8_beats_0 : decode cX8_beats 0 = .ok (.aload_n 0, 1) := by decide +kernel
theorem dX8_beats_1 : decode cX8_beats 1 = .ok (.iload_n 1, 1) := by decide +kernel
theorem dX8_beats_2 : decode cX8_beats 2 = .ok (.iload_n 2, 1) := by decide +kernel
theorem dX8_beats_3 : decode cX8_beats 3 = .ok (.invokevirtual 259, 3) := by decide +kernel
theorem dX8_beats_6 : decode cX8_beats 6 = .ok (.aload_n 0, 1) := by decide +kernel
theorem dX8_beats_7 : decode cX8_beats 7 = .ok (.iload_n 2, 1) := by decide +kernel
theorem dX8_beats_8 : decode cX8_beats 8 = .ok (.iload_n 1, 1) := by decide +kernel
theorem dX8_beats_9 : decode cX8_beats 9 = .ok (.invokevirtual 259, 3) := by decide +kernel
theorem dX8_beats_12 : decode cX8_beats 12 = .ok (.if_icmp .le 7, 3) := by decide +kernel
theorem dX8_beats_15 : decode cX8_beats 15 = .ok (.iconst 1, 1) := by decide +kernel
theorem dX8_beats_16 : decode cX8_beats 16 = .ok (.goto 4, 3) := by decide +kernel
theorem dX8_beats_19 : decode cX8_beats 19 = .ok (.iconst 0, 1) := by decide +kernel
theorem dX8_beats_20 : decode cX8_beats 20 = .ok (.ireturn, 1) := by decide +kernel
theorem dX8_growsFrom_0 : decode cX8_growsFrom 0 = .ok (.iconst 0, 1) := by decide +kernel
theorem dX8_growsFrom_1 : decode cX8_growsFrom 1 = .ok (.istore_n 2, 1) := by decide +kernel
theorem dX8_growsFrom_2 : decode cX8_growsFrom 2 = .ok (.iload_n 2, 1) := by decide +kernel
theorem dX8_growsFrom_3 : decode cX8_growsFrom 3 = .ok (.sipush 256, 3) := by decide +kernel
theorem dX8_growsFrom_6 : decode cX8_growsFrom 6 = .ok (.if_icmp .ge 25, 3) := by decide +kernel
theorem dX8_growsFrom_9 : decode cX8_growsFrom 9 = .ok (.aload_n 0, 1) := by decide +kernel
theorem dX8_growsFrom_10 : decode cX8_growsFrom 10 = .ok (.getfield 92, 3) := by decide +kernel
theorem dX8_growsFrom_13 : decode cX8_growsFrom 13 = .ok (.iload_n 2, 1) := by decide +kernel
theorem dX8_growsFrom_14 : decode cX8_growsFrom 14 = .ok (.iload_n 2, 1) := by decide +kernel
theorem dX8_growsFrom_15 : decode cX8_growsFrom 15 = .ok (.iload_n 1, 1) := by decide +kernel
theorem dX8_growsFrom_16 : decode cX8_growsFrom 16 = .ok (.if_icmp .ne 7, 3) := by decide +kernel
theorem dX8_growsFrom_19 : decode cX8_growsFrom 19 = .ok (.iconst 1, 1) := by decide +kernel
theorem dX8_growsFrom_20 : decode cX8_growsFrom 20 = .ok (.goto 4, 3) := by decide +kernel
theorem dX8_growsFrom_23 : decode cX8_growsFrom 23 = .ok (.iconst 0, 1) := by decide +kernel
theorem dX8_growsFrom_24 : decode cX8_growsFrom 24 = .ok (.bastore, 1) := by decide +kernel
theorem dX8_growsFrom_25 : decode cX8_growsFrom 25 = .ok (.iinc 2 1, 3) := by decide +kernel
theorem dX8_growsFrom_28 : decode cX8_growsFrom 28 = .ok (.goto (-26), 3) := by decide +kernel
theorem dX8_growsFrom_31 : decode cX8_growsFrom 31 = .ok (.iconst 1, 1) := by decide +kernel
theorem dX8_growsFrom_32 : decode cX8_growsFrom 32 = .ok (.istore_n 2, 1) := by decide +kernel
theorem dX8_growsFrom_33 : decode cX8_growsFrom 33 = .ok (.iconst 1, 1) := by decide +kernel
theorem dX8_growsFrom_34 : decode cX8_growsFrom 34 = .ok (.istore_n 3, 1) := by decide +kernel
theorem dX8_growsFrom_35 : decode cX8_growsFrom 35 = .ok (.iload_n 3, 1) := by decide +kernel
theorem dX8_growsFrom_36 : decode cX8_growsFrom 36 = .ok (.ifCond .eq 67, 3) := by decide +kernel
theorem dX8_growsFrom_39 : decode cX8_growsFrom 39 = .ok (.iconst 0, 1) := by decide +kernel
theorem dX8_growsFrom_40 : decode cX8_growsFrom 40 = .ok (.istore_n 3, 1) := by decide +kernel
theorem dX8_growsFrom_41 : decode cX8_growsFrom 41 = .ok (.iconst 0, 1) := by decide +kernel
theorem dX8_growsFrom_42 : decode cX8_growsFrom 42 = .ok (.istore 4, 2) := by decide +kernel
theorem dX8_growsFrom_44 : decode cX8_growsFrom 44 = .ok (.iload 4, 2) := by decide +kernel
theorem dX8_growsFrom_46 : decode cX8_growsFrom 46 = .ok (.sipush 256, 3) := by decide +kernel
theorem dX8_growsFrom_49 : decode cX8_growsFrom 49 = .ok (.if_icmp .ge 51, 3) := by decide +kernel
theorem dX8_growsFrom_52 : decode cX8_growsFrom 52 = .ok (.aload_n 0, 1) := by decide +kernel
theorem dX8_growsFrom_53 : decode cX8_growsFrom 53 = .ok (.getfield 85, 3) := by decide +kernel
theorem dX8_growsFrom_56 : decode cX8_growsFrom 56 = .ok (.iload 4, 2) := by decide +kernel
theorem dX8_growsFrom_58 : decode cX8_growsFrom 58 = .ok (.baload, 1) := by decide +kernel
theorem dX8_growsFrom_59 : decode cX8_growsFrom 59 = .ok (.ifCond .eq 35, 3) := by decide +kernel
theorem dX8_growsFrom_62 : decode cX8_growsFrom 62 = .ok (.aload_n 0, 1) := by decide +kernel
theorem dX8_growsFrom_63 : decode cX8_growsFrom 63 = .ok (.getfield 92, 3) := by decide +kernel
theorem dX8_growsFrom_66 : decode cX8_growsFrom 66 = .ok (.iload 4, 2) := by decide +kernel
theorem dX8_growsFrom_68 : decode cX8_growsFrom 68 = .ok (.baload, 1) := by decide +kernel
theorem dX8_growsFrom_69 : decode cX8_growsFrom 69 = .ok (.ifCond .ne 25, 3) := by decide +kernel
theorem dX8_growsFrom_72 : decode cX8_growsFrom 72 = .ok (.aload_n 0, 1) := by decide +kernel
theorem dX8_growsFrom_73 : decode cX8_growsFrom 73 = .ok (.iload 4, 2) := by decide +kernel
theorem dX8_growsFrom_75 : decode cX8_growsFrom 75 = .ok (.invokevirtual 311, 3) := by decide +kernel
theorem dX8_growsFrom_78 : decode cX8_growsFrom 78 = .ok (.ifCond .ne 16, 3) := by decide +kernel
theorem dX8_growsFrom_81 : decode cX8_growsFrom 81 = .ok (.aload_n 0, 1) := by decide +kernel
theorem dX8_growsFrom_82 : decode cX8_growsFrom 82 = .ok (.getfield 92, 3) := by decide +kernel
theorem dX8_growsFrom_85 : decode cX8_growsFrom 85 = .ok (.iload 4, 2) := by decide +kernel
theorem dX8_growsFrom_87 : decode cX8_growsFrom 87 = .ok (.iconst 1, 1) := by decide +kernel
theorem dX8_growsFrom_88 : decode cX8_growsFrom 88 = .ok (.bastore, 1) := by decide +kernel
theorem dX8_growsFrom_89 : decode cX8_growsFrom 89 = .ok (.iinc 2 1, 3) := by decide +kernel
theorem dX8_growsFrom_92 : decode cX8_growsFrom 92 = .ok (.iconst 1, 1) := by decide +kernel
theorem dX8_growsFrom_93 : decode cX8_growsFrom 93 = .ok (.istore_n 3, 1) := by decide +kernel
theorem dX8_growsFrom_94 : decode cX8_growsFrom 94 = .ok (.iinc 4 1, 3) := by decide +kernel
theorem dX8_growsFrom_97 : decode cX8_growsFrom 97 = .ok (.goto (-53), 3) := by decide +kernel
theorem dX8_growsFrom_100 : decode cX8_growsFrom 100 = .ok (.goto (-65), 3) := by decide +kernel
theorem dX8_growsFrom_103 : decode cX8_growsFrom 103 = .ok (.iload_n 2, 1) := by decide +kernel
theorem dX8_growsFrom_104 : decode cX8_growsFrom 104 = .ok (.ireturn, 1) := by decide +kernel
theorem dX8_isBelow_0 : decode cX8_isBelow 0 = .ok (.iconst 0, 1) := by decide +kernel
theorem dX8_isBelow_1 : decode cX8_isBelow 1 = .ok (.istore_n 2, 1) := by decide +kernel
theorem dX8_isBelow_2 : decode cX8_isBelow 2 = .ok (.iload_n 2, 1) := by decide +kernel
theorem dX8_isBelow_3 : decode cX8_isBelow 3 = .ok (.sipush 256, 3) := by decide +kernel
theorem dX8_isBelow_6 : decode cX8_isBelow 6 = .ok (.if_icmp .ge 29, 3) := by decide +kernel
theorem dX8_isBelow_9 : decode cX8_isBelow 9 = .ok (.aload_n 0, 1) := by decide +kernel
theorem dX8_isBelow_10 : decode cX8_isBelow 10 = .ok (.getfield 92, 3) := by decide +kernel
theorem dX8_isBelow_13 : decode cX8_isBelow 13 = .ok (.iload_n 2, 1) := by decide +kernel
theorem dX8_isBelow_14 : decode cX8_isBelow 14 = .ok (.baload, 1) := by decide +kernel
theorem dX8_isBelow_15 : decode cX8_isBelow 15 = .ok (.ifCond .eq 14, 3) := by decide +kernel
theorem dX8_isBelow_18 : decode cX8_isBelow 18 = .ok (.aload_n 0, 1) := by decide +kernel
theorem dX8_isBelow_19 : decode cX8_isBelow 19 = .ok (.iload_n 2, 1) := by decide +kernel
theorem dX8_isBelow_20 : decode cX8_isBelow 20 = .ok (.iload_n 1, 1) := by decide +kernel
theorem dX8_isBelow_21 : decode cX8_isBelow 21 = .ok (.invokevirtual 314, 3) := by decide +kernel
theorem dX8_isBelow_24 : decode cX8_isBelow 24 = .ok (.ifCond .ne 5, 3) := by decide +kernel
theorem dX8_isBelow_27 : decode cX8_isBelow 27 = .ok (.iconst 0, 1) := by decide +kernel
theorem dX8_isBelow_28 : decode cX8_isBelow 28 = .ok (.ireturn, 1) := by decide +kernel
theorem dX8_isBelow_29 : decode cX8_isBelow 29 = .ok (.iinc 2 1, 3) := by decide +kernel
theorem dX8_isBelow_32 : decode cX8_isBelow 32 = .ok (.goto (-30), 3) := by decide +kernel
theorem dX8_isBelow_35 : decode cX8_isBelow 35 = .ok (.iconst 1, 1) := by decide +kernel
theorem dX8_isBelow_36 : decode cX8_isBelow 36 = .ok (.ireturn, 1) := by decide +kernel
theorem dX8_laysTop_0 : decode cX8_laysTop 0 = .ok (.iconst (-1), 1) := by decide +kernel
theorem dX8_laysTop_1 : decode cX8_laysTop 1 = .ok (.istore_n 1, 1) := by decide +kernel
theorem dX8_laysTop_2 : decode cX8_laysTop 2 = .ok (.iconst 0, 1) := by decide +kernel
theorem dX8_laysTop_3 : decode cX8_laysTop 3 = .ok (.istore_n 2, 1) := by decide +kernel
theorem dX8_laysTop_4 : decode cX8_laysTop 4 = .ok (.iload_n 2, 1) := by decide +kernel
theorem dX8_laysTop_5 : decode cX8_laysTop 5 = .ok (.sipush 256, 3) := by decide +kernel
theorem dX8_laysTop_8 : decode cX8_laysTop 8 = .ok (.if_icmp .ge 73, 3) := by decide +kernel
theorem dX8_laysTop_11 : decode cX8_laysTop 11 = .ok (.aload_n 0, 1) := by decide +kernel
theorem dX8_laysTop_12 : decode cX8_laysTop 12 = .ok (.getfield 85, 3) := by decide +kernel
theorem dX8_laysTop_15 : decode cX8_laysTop 15 = .ok (.iload_n 2, 1) := by decide +kernel
theorem dX8_laysTop_16 : decode cX8_laysTop 16 = .ok (.baload, 1) := by decide +kernel
theorem dX8_laysTop_17 : decode cX8_laysTop 17 = .ok (.ifCond .ne 6, 3) := by decide +kernel
theorem dX8_laysTop_20 : decode cX8_laysTop 20 = .ok (.goto 55, 3) := by decide +kernel
theorem dX8_laysTop_23 : decode cX8_laysTop 23 = .ok (.aload_n 0, 1) := by decide +kernel
theorem dX8_laysTop_24 : decode cX8_laysTop 24 = .ok (.iload_n 2, 1) := by decide +kernel
theorem dX8_laysTop_25 : decode cX8_laysTop 25 = .ok (.invokevirtual 317, 3) := by decide +kernel
theorem dX8_laysTop_28 : decode cX8_laysTop 28 = .ok (.istore_n 3, 1) := by decide +kernel
theorem dX8_laysTop_29 : decode cX8_laysTop 29 = .ok (.iload_n 1, 1) := by decide +kernel
theorem dX8_laysTop_30 : decode cX8_laysTop 30 = .ok (.iconst (-1), 1) := by decide +kernel
theorem dX8_laysTop_31 : decode cX8_laysTop 31 = .ok (.if_icmp .eq 11, 3) := by decide +kernel
theorem dX8_laysTop_34 : decode cX8_laysTop 34 = .ok (.iload_n 3, 1) := by decide +kernel
theorem dX8_laysTop_35 : decode cX8_laysTop 35 = .ok (.iload_n 1, 1) := by decide +kernel
theorem dX8_laysTop_36 : decode cX8_laysTop 36 = .ok (.if_icmp .lt 6, 3) := by decide +kernel
theorem dX8_laysTop_39 : decode cX8_laysTop 39 = .ok (.goto 36, 3) := by decide +kernel
theorem dX8_laysTop_42 : decode cX8_laysTop 42 = .ok (.iload_n 3, 1) := by decide +kernel
theorem dX8_laysTop_43 : decode cX8_laysTop 43 = .ok (.istore_n 1, 1) := by decide +kernel
theorem dX8_laysTop_44 : decode cX8_laysTop 44 = .ok (.iconst 0, 1) := by decide +kernel
theorem dX8_laysTop_45 : decode cX8_laysTop 45 = .ok (.istore 4, 2) := by decide +kernel
theorem dX8_laysTop_47 : decode cX8_laysTop 47 = .ok (.iload 4, 2) := by decide +kernel
theorem dX8_laysTop_49 : decode cX8_laysTop 49 = .ok (.sipush 256, 3) := by decide +kernel
theorem dX8_laysTop_52 : decode cX8_laysTop 52 = .ok (.if_icmp .ge 23, 3) := by decide +kernel
theorem dX8_laysTop_55 : decode cX8_laysTop 55 = .ok (.aload_n 0, 1) := by decide +kernel
theorem dX8_laysTop_56 : decode cX8_laysTop 56 = .ok (.getfield 89, 3) := by decide +kernel
theorem dX8_laysTop_59 : decode cX8_laysTop 59 = .ok (.iload 4, 2) := by decide +kernel
theorem dX8_laysTop_61 : decode cX8_laysTop 61 = .ok (.aload_n 0, 1) := by decide +kernel
theorem dX8_laysTop_62 : decode cX8_laysTop 62 = .ok (.getfield 92, 3) := by decide +kernel
theorem dX8_laysTop_65 : decode cX8_laysTop 65 = .ok (.iload 4, 2) := by decide +kernel
theorem dX8_laysTop_67 : decode cX8_laysTop 67 = .ok (.baload, 1) := by decide +kernel
theorem dX8_laysTop_68 : decode cX8_laysTop 68 = .ok (.bastore, 1) := by decide +kernel
theorem dX8_laysTop_69 : decode cX8_laysTop 69 = .ok (.iinc 4 1, 3) := by decide +kernel
theorem dX8_laysTop_72 : decode cX8_laysTop 72 = .ok (.goto (-25), 3) := by decide +kernel
theorem dX8_laysTop_75 : decode cX8_laysTop 75 = .ok (.iinc 2 1, 3) := by decide +kernel
theorem dX8_laysTop_78 : decode cX8_laysTop 78 = .ok (.goto (-74), 3) := by decide +kernel
theorem dX8_laysTop_81 : decode cX8_laysTop 81 = .ok (.return_, 1) := by decide +kernel
theorem dX8_covers_0 : decode cX8_covers 0 = .ok (.aload_n 0, 1) := by decide +kernel
theorem dX8_covers_1 : decode cX8_covers 1 = .ok (.iload_n 1, 1) := by decide +kernel
theorem dX8_covers_2 : decode cX8_covers 2 = .ok (.iload_n 2, 1) := by decide +kernel
theorem dX8_covers_3 : decode cX8_covers 3 = .ok (.invokevirtual 314, 3) := by decide +kernel
theorem dX8_covers_6 : decode cX8_covers 6 = .ok (.ifCond .ne 5, 3) := by decide +kernel
theorem dX8_covers_9 : decode cX8_covers 9 = .ok (.iconst 0, 1) := by decide +kernel
theorem dX8_covers_10 : decode cX8_covers 10 = .ok (.ireturn, 1) := by decide +kernel
theorem dX8_covers_11 : decode cX8_covers 11 = .ok (.iconst 0, 1) := by decide +kernel
theorem dX8_covers_12 : decode cX8_covers 12 = .ok (.istore_n 3, 1) := by decide +kernel
theorem dX8_covers_13 : decode cX8_covers 13 = .ok (.iload_n 3, 1) := by decide +kernel
theorem dX8_covers_14 : decode cX8_covers 14 = .ok (.sipush 256, 3) := by decide +kernel
theorem dX8_covers_17 : decode cX8_covers 17 = .ok (.if_icmp .ge 38, 3) := by decide +kernel
theorem dX8_covers_20 : decode cX8_covers 20 = .ok (.aload_n 0, 1) := by decide +kernel
theorem dX8_covers_21 : decode cX8_covers 21 = .ok (.getfield 85, 3) := by decide +kernel
theorem dX8_covers_24 : decode cX8_covers 24 = .ok (.iload_n 3, 1) := by decide +kernel
theorem dX8_covers_25 : decode cX8_covers 25 = .ok (.baload, 1) := by decide +kernel
theorem dX8_covers_26 : decode cX8_covers 26 = .ok (.ifCond .eq 23, 3) := by decide +kernel
theorem dX8_covers_29 : decode cX8_covers 29 = .ok (.aload_n 0, 1) := by decide +kernel
theorem dX8_covers_30 : decode cX8_covers 30 = .ok (.iload_n 2, 1) := by decide +kernel
theorem dX8_covers_31 : decode cX8_covers 31 = .ok (.iload_n 3, 1) := by decide +kernel
theorem dX8_covers_32 : decode cX8_covers 32 = .ok (.invokevirtual 314, 3) := by decide +kernel
theorem dX8_covers_35 : decode cX8_covers 35 = .ok (.ifCond .eq 14, 3) := by decide +kernel
theorem dX8_covers_38 : decode cX8_covers 38 = .ok (.aload_n 0, 1) := by decide +kernel
theorem dX8_covers_39 : decode cX8_covers 39 = .ok (.iload_n 1, 1) := by decide +kernel
theorem dX8_covers_40 : decode cX8_covers 40 = .ok (.iload_n 3, 1) := by decide +kernel
theorem dX8_covers_41 : decode cX8_covers 41 = .ok (.invokevirtual 314, 3) := by decide +kernel
theorem dX8_covers_44 : decode cX8_covers 44 = .ok (.ifCond .ne 5, 3) := by decide +kernel
theorem dX8_covers_47 : decode cX8_covers 47 = .ok (.iconst 0, 1) := by decide +kernel
theorem dX8_covers_48 : decode cX8_covers 48 = .ok (.ireturn, 1) := by decide +kernel
theorem dX8_covers_49 : decode cX8_covers 49 = .ok (.iinc 3 1, 3) := by decide +kernel
theorem dX8_covers_52 : decode cX8_covers 52 = .ok (.goto (-39), 3) := by decide +kernel
theorem dX8_covers_55 : decode cX8_covers 55 = .ok (.iconst 1, 1) := by decide +kernel
theorem dX8_covers_56 : decode cX8_covers 56 = .ok (.ireturn, 1) := by decide +kernel
theorem dX8_isCovered_0 : decode cX8_isCovered 0 = .ok (.iconst 0, 1) := by decide +kernel
theorem dX8_isCovered_1 : decode cX8_isCovered 1 = .ok (.istore_n 2, 1) := by decide +kernel
theorem dX8_isCovered_2 : decode cX8_isCovered 2 = .ok (.iload_n 2, 1) := by decide +kernel
theorem dX8_isCovered_3 : decode cX8_isCovered 3 = .ok (.sipush 256, 3) := by decide +kernel
theorem dX8_isCovered_6 : decode cX8_isCovered 6 = .ok (.if_icmp .ge 34, 3) := by decide +kernel
theorem dX8_isCovered_9 : decode cX8_isCovered 9 = .ok (.aload_n 0, 1) := by decide +kernel
theorem dX8_isCovered_10 : decode cX8_isCovered 10 = .ok (.getfield 85, 3) := by decide +kernel
theorem dX8_isCovered_13 : decode cX8_isCovered 13 = .ok (.iload_n 2, 1) := by decide +kernel
theorem dX8_isCovered_14 : decode cX8_isCovered 14 = .ok (.baload, 1) := by decide +kernel
theorem dX8_isCovered_15 : decode cX8_isCovered 15 = .ok (.ifCond .eq 19, 3) := by decide +kernel
theorem dX8_isCovered_18 : decode cX8_isCovered 18 = .ok (.iload_n 2, 1) := by decide +kernel
theorem dX8_isCovered_19 : decode cX8_isCovered 19 = .ok (.iload_n 1, 1) := by decide +kernel
theorem dX8_isCovered_20 : decode cX8_isCovered 20 = .ok (.if_icmp .eq 14, 3) := by decide +kernel
theorem dX8_isCovered_23 : decode cX8_isCovered 23 = .ok (.aload_n 0, 1) := by decide +kernel
theorem dX8_isCovered_24 : decode cX8_isCovered 24 = .ok (.iload_n 2, 1) := by decide +kernel
theorem dX8_isCovered_25 : decode cX8_isCovered 25 = .ok (.iload_n 1, 1) := by decide +kernel
theorem dX8_isCovered_26 : decode cX8_isCovered 26 = .ok (.invokevirtual 320, 3) := by decide +kernel
theorem dX8_isCovered_29 : decode cX8_isCovered 29 = .ok (.ifCond .eq 5, 3) := by decide +kernel
theorem dX8_isCovered_32 : decode cX8_isCovered 32 = .ok (.iconst 1, 1) := by decide +kernel
theorem dX8_isCovered_33 : decode cX8_isCovered 33 = .ok (.ireturn, 1) := by decide +kernel
theorem dX8_isCovered_34 : decode cX8_isCovered 34 = .ok (.iinc 2 1, 3) := by decide +kernel
theorem dX8_isCovered_37 : decode cX8_isCovered 37 = .ok (.goto (-35), 3) := by decide +kernel
theorem dX8_isCovered_40 : decode cX8_isCovered 40 = .ok (.iconst 0, 1) := by decide +kernel
theorem dX8_isCovered_41 : decode cX8_isCovered 41 = .ok (.ireturn, 1) := by decide +kernel
theorem dX8_beaten_0 : decode cX8_beaten 0 = .ok (.iconst 0, 1) := by decide +kernel
theorem dX8_beaten_1 : decode cX8_beaten 1 = .ok (.istore_n 2, 1) := by decide +kernel
theorem dX8_beaten_2 : decode cX8_beaten 2 = .ok (.iconst 0, 1) := by decide +kernel
theorem dX8_beaten_3 : decode cX8_beaten 3 = .ok (.istore_n 3, 1) := by decide +kernel
theorem dX8_beaten_4 : decode cX8_beaten 4 = .ok (.iload_n 3, 1) := by decide +kernel
theorem dX8_beaten_5 : decode cX8_beaten 5 = .ok (.sipush 256, 3) := by decide +kernel
theorem dX8_beaten_8 : decode cX8_beaten 8 = .ok (.if_icmp .ge 35, 3) := by decide +kernel
theorem dX8_beaten_11 : decode cX8_beaten 11 = .ok (.iload_n 2, 1) := by decide +kernel
theorem dX8_beaten_12 : decode cX8_beaten 12 = .ok (.aload_n 0, 1) := by decide +kernel
theorem dX8_beaten_13 : decode cX8_beaten 13 = .ok (.getfield 85, 3) := by decide +kernel
theorem dX8_beaten_16 : decode cX8_beaten 16 = .ok (.iload_n 3, 1) := by decide +kernel
theorem dX8_beaten_17 : decode cX8_beaten 17 = .ok (.baload, 1) := by decide +kernel
theorem dX8_beaten_18 : decode cX8_beaten 18 = .ok (.ifCond .eq 16, 3) := by decide +kernel
theorem dX8_beaten_21 : decode cX8_beaten 21 = .ok (.aload_n 0, 1) := by decide +kernel
theorem dX8_beaten_22 : decode cX8_beaten 22 = .ok (.iload_n 1, 1) := by decide +kernel
theorem dX8_beaten_23 : decode cX8_beaten 23 = .ok (.iload_n 3, 1) := by decide +kernel
theorem dX8_beaten_24 : decode cX8_beaten 24 = .ok (.invokevirtual 314, 3) := by decide +kernel
theorem dX8_beaten_27 : decode cX8_beaten 27 = .ok (.ifCond .eq 7, 3) := by decide +kernel
theorem dX8_beaten_30 : decode cX8_beaten 30 = .ok (.iconst 1, 1) := by decide +kernel
theorem dX8_beaten_31 : decode cX8_beaten 31 = .ok (.goto 4, 3) := by decide +kernel
theorem dX8_beaten_34 : decode cX8_beaten 34 = .ok (.iconst 0, 1) := by decide +kernel
theorem dX8_beaten_35 : decode cX8_beaten 35 = .ok (.iadd, 1) := by decide +kernel
theorem dX8_beaten_36 : decode cX8_beaten 36 = .ok (.istore_n 2, 1) := by decide +kernel
theorem dX8_beaten_37 : decode cX8_beaten 37 = .ok (.iinc 3 1, 3) := by decide +kernel
theorem dX8_beaten_40 : decode cX8_beaten 40 = .ok (.goto (-36), 3) := by decide +kernel
theorem dX8_beaten_43 : decode cX8_beaten 43 = .ok (.iload_n 2, 1) := by decide +kernel
theorem dX8_beaten_44 : decode cX8_beaten 44 = .ok (.ireturn, 1) := by decide +kernel
theorem dX8_prefers_0 : decode cX8_prefers 0 = .ok (.aload_n 0, 1) := by decide +kernel
theorem dX8_prefers_1 : decode cX8_prefers 1 = .ok (.iconst 0, 1) := by decide +kernel
theorem dX8_prefers_2 : decode cX8_prefers 2 = .ok (.putfield 95, 3) := by decide +kernel
theorem dX8_prefers_5 : decode cX8_prefers 5 = .ok (.iload_n 1, 1) := by decide +kernel
theorem dX8_prefers_6 : decode cX8_prefers 6 = .ok (.iconst 0, 1) := by decide +kernel
theorem dX8_prefers_7 : decode cX8_prefers 7 = .ok (.sipush 255, 3) := by decide +kernel
theorem dX8_prefers_10 : decode cX8_prefers 10 = .ok (.invokestatic 106, 3) := by decide +kernel
theorem dX8_prefers_13 : decode cX8_prefers 13 = .ok (.ifCond .eq 14, 3) := by decide +kernel
theorem dX8_prefers_16 : decode cX8_prefers 16 = .ok (.iload_n 2, 1) := by decide +kernel
theorem dX8_prefers_17 : decode cX8_prefers 17 = .ok (.iconst 0, 1) := by decide +kernel
theorem dX8_prefers_18 : decode cX8_prefers 18 = .ok (.sipush 255, 3) := by decide +kernel
theorem dX8_prefers_21 : decode cX8_prefers 21 = .ok (.invokestatic 106, 3) := by decide +kernel
theorem dX8_prefers_24 : decode cX8_prefers 24 = .ok (.ifCond .ne 5, 3) := by decide +kernel
theorem dX8_prefers_27 : decode cX8_prefers 27 = .ok (.iconst (-1), 1) := by decide +kernel
theorem dX8_prefers_28 : decode cX8_prefers 28 = .ok (.ireturn, 1) := by decide +kernel
theorem dX8_prefers_29 : decode cX8_prefers 29 = .ok (.aload_n 0, 1) := by decide +kernel
theorem dX8_prefers_30 : decode cX8_prefers 30 = .ok (.invokevirtual 272, 3) := by decide +kernel
theorem dX8_prefers_33 : decode cX8_prefers 33 = .ok (.aload_n 0, 1) := by decide +kernel
theorem dX8_prefers_34 : decode cX8_prefers 34 = .ok (.iload_n 1, 1) := by decide +kernel
theorem dX8_prefers_35 : decode cX8_prefers 35 = .ok (.iload_n 2, 1) := by decide +kernel
theorem dX8_prefers_36 : decode cX8_prefers 36 = .ok (.invokevirtual 259, 3) := by decide +kernel
theorem dX8_prefers_39 : decode cX8_prefers 39 = .ok (.ireturn, 1) := by decide +kernel
theorem dX8_open_0 : decode cX8_open 0 = .ok (.aload_n 0, 1) := by decide +kernel
theorem dX8_open_1 : decode cX8_open 1 = .ok (.iconst 0, 1) := by decide +kernel
theorem dX8_open_2 : decode cX8_open 2 = .ok (.putfield 95, 3) := by decide +kernel
theorem dX8_open_5 : decode cX8_open 5 = .ok (.aload_n 0, 1) := by decide +kernel
theorem dX8_open_6 : decode cX8_open 6 = .ok (.invokevirtual 323, 3) := by decide +kernel
theorem dX8_open_9 : decode cX8_open 9 = .ok (.pop, 1) := by decide +kernel
theorem dX8_open_10 : decode cX8_open 10 = .ok (.iconst 0, 1) := by decide +kernel
theorem dX8_open_11 : decode cX8_open 11 = .ok (.istore_n 2, 1) := by decide +kernel
theorem dX8_open_12 : decode cX8_open 12 = .ok (.iconst 0, 1) := by decide +kernel
theorem dX8_open_13 : decode cX8_open 13 = .ok (.istore_n 3, 1) := by decide +kernel
theorem dX8_open_14 : decode cX8_open 14 = .ok (.iload_n 3, 1) := by decide +kernel
theorem dX8_open_15 : decode cX8_open 15 = .ok (.sipush 256, 3) := by decide +kernel
theorem dX8_open_18 : decode cX8_open 18 = .ok (.if_icmp .ge 28, 3) := by decide +kernel
theorem dX8_open_21 : decode cX8_open 21 = .ok (.aload_n 0, 1) := by decide +kernel
theorem dX8_open_22 : decode cX8_open 22 = .ok (.getfield 85, 3) := by decide +kernel
theorem dX8_open_25 : decode cX8_open 25 = .ok (.iload_n 3, 1) := by decide +kernel
theorem dX8_open_26 : decode cX8_open 26 = .ok (.baload, 1) := by decide +kernel
theorem dX8_open_27 : decode cX8_open 27 = .ok (.ifCond .eq 13, 3) := by decide +kernel
theorem dX8_open_30 : decode cX8_open 30 = .ok (.iload_n 2, 1) := by decide +kernel
theorem dX8_open_31 : decode cX8_open 31 = .ok (.iload_n 1, 1) := by decide +kernel
theorem dX8_open_32 : decode cX8_open 32 = .ok (.if_icmp .ne 5, 3) := by decide +kernel
theorem dX8_open_35 : decode cX8_open 35 = .ok (.iload_n 3, 1) := by decide +kernel
theorem dX8_open_36 : decode cX8_open 36 = .ok (.ireturn, 1) := by decide +kernel
theorem dX8_open_37 : decode cX8_open 37 = .ok (.iinc 2 1, 3) := by decide +kernel
theorem dX8_open_40 : decode cX8_open 40 = .ok (.iinc 3 1, 3) := by decide +kernel
theorem dX8_open_43 : decode cX8_open 43 = .ok (.goto (-29), 3) := by decide +kernel
theorem dX8_open_46 : decode cX8_open 46 = .ok (.iconst (-1), 1) := by decide +kernel
theorem dX8_open_47 : decode cX8_open 47 = .ok (.ireturn, 1) := by decide +kernel
theorem dX8_winner_0 : decode cX8_winner 0 = .ok (.aload_n 0, 1) := by decide +kernel
theorem dX8_winner_1 : decode cX8_winner 1 = .ok (.iconst 0, 1) := by decide +kernel
theorem dX8_winner_2 : decode cX8_winner 2 = .ok (.putfield 95, 3) := by decide +kernel
theorem dX8_winner_5 : decode cX8_winner 5 = .ok (.aload_n 0, 1) := by decide +kernel
theorem dX8_winner_6 : decode cX8_winner 6 = .ok (.invokevirtual 323, 3) := by decide +kernel
theorem dX8_winner_9 : decode cX8_winner 9 = .ok (.istore_n 1, 1) := by decide +kernel
theorem dX8_winner_10 : decode cX8_winner 10 = .ok (.iconst 0, 1) := by decide +kernel
theorem dX8_winner_11 : decode cX8_winner 11 = .ok (.istore_n 2, 1) := by decide +kernel
theorem dX8_winner_12 : decode cX8_winner 12 = .ok (.iload_n 2, 1) := by decide +kernel
theorem dX8_winner_13 : decode cX8_winner 13 = .ok (.sipush 256, 3) := by decide +kernel
theorem dX8_winner_16 : decode cX8_winner 16 = .ok (.if_icmp .ge 31, 3) := by decide +kernel
theorem dX8_winner_19 : decode cX8_winner 19 = .ok (.aload_n 0, 1) := by decide +kernel
theorem dX8_winner_20 : decode cX8_winner 20 = .ok (.getfield 85, 3) := by decide +kernel
theorem dX8_winner_23 : decode cX8_winner 23 = .ok (.iload_n 2, 1) := by decide +kernel
theorem dX8_winner_24 : decode cX8_winner 24 = .ok (.baload, 1) := by decide +kernel
theorem dX8_winner_25 : decode cX8_winner 25 = .ok (.ifCond .eq 16, 3) := by decide +kernel
theorem dX8_winner_28 : decode cX8_winner 28 = .ok (.aload_n 0, 1) := by decide +kernel
theorem dX8_winner_29 : decode cX8_winner 29 = .ok (.iload_n 2, 1) := by decide +kernel
theorem dX8_winner_30 : decode cX8_winner 30 = .ok (.invokevirtual 326, 3) := by decide +kernel
theorem dX8_winner_33 : decode cX8_winner 33 = .ok (.iload_n 1, 1) := by decide +kernel
theorem dX8_winner_34 : decode cX8_winner 34 = .ok (.iconst 1, 1) := by decide +kernel
theorem dX8_winner_35 : decode cX8_winner 35 = .ok (.isub, 1) := by decide +kernel
theorem dX8_winner_36 : decode cX8_winner 36 = .ok (.if_icmp .ne 5, 3) := by decide +kernel
theorem dX8_winner_39 : decode cX8_winner 39 = .ok (.iload_n 2, 1) := by decide +kernel
theorem dX8_winner_40 : decode cX8_winner 40 = .ok (.ireturn, 1) := by decide +kernel
theorem dX8_winner_41 : decode cX8_winner 41 = .ok (.iinc 2 1, 3) := by decide +kernel
theorem dX8_winner_44 : decode cX8_winner 44 = .ok (.goto (-32), 3) := by decide +kernel
theorem dX8_winner_47 : decode cX8_winner 47 = .ok (.iconst (-1), 1) := by decide +kernel
theorem dX8_winner_48 : decode cX8_winner 48 = .ok (.ireturn, 1) := by decide +kernel
theorem dX8_standing_0 : decode cX8_standing 0 = .ok (.aload_n 0, 1) := by decide +kernel
theorem dX8_standing_1 : decode cX8_standing 1 = .ok (.iconst 0, 1) := by decide +kernel
theorem dX8_standing_2 : decode cX8_standing 2 = .ok (.putfield 95, 3) := by decide +kernel
theorem dX8_standing_5 : decode cX8_standing 5 = .ok (.aload_n 0, 1) := by decide +kernel
theorem dX8_standing_6 : decode cX8_standing 6 = .ok (.invokevirtual 323, 3) := by decide +kernel
theorem dX8_standing_9 : decode cX8_standing 9 = .ok (.pop, 1) := by decide +kernel
theorem dX8_standing_10 : decode cX8_standing 10 = .ok (.iload_n 1, 1) := by decide +kernel
theorem dX8_standing_11 : decode cX8_standing 11 = .ok (.iconst 0, 1) := by decide +kernel
theorem dX8_standing_12 : decode cX8_standing 12 = .ok (.sipush 255, 3) := by decide +kernel
theorem dX8_standing_15 : decode cX8_standing 15 = .ok (.invokestatic 106, 3) := by decide +kernel
theorem dX8_standing_18 : decode cX8_standing 18 = .ok (.ifCond .eq 21, 3) := by decide +kernel
theorem dX8_standing_21 : decode cX8_standing 21 = .ok (.aload_n 0, 1) := by decide +kernel
theorem dX8_standing_22 : decode cX8_standing 22 = .ok (.getfield 85, 3) := by decide +kernel
theorem dX8_standing_25 : decode cX8_standing 25 = .ok (.iload_n 1, 1) := by decide +kernel
theorem dX8_standing_26 : decode cX8_standing 26 = .ok (.baload, 1) := by decide +kernel
theorem dX8_standing_27 : decode cX8_standing 27 = .ok (.ifCond .eq 12, 3) := by decide +kernel
theorem dX8_standing_30 : decode cX8_standing 30 = .ok (.iload_n 2, 1) := by decide +kernel
theorem dX8_standing_31 : decode cX8_standing 31 = .ok (.iconst 0, 1) := by decide +kernel
theorem dX8_standing_32 : decode cX8_standing 32 = .ok (.iconst 2, 1) := by decide +kernel
theorem dX8_standing_33 : decode cX8_standing 33 = .ok (.invokestatic 106, 3) := by decide +kernel
theorem dX8_standing_36 : decode cX8_standing 36 = .ok (.ifCond .ne 5, 3) := by decide +kernel
theorem dX8_standing_39 : decode cX8_standing 39 = .ok (.iconst (-1), 1) := by decide +kernel
theorem dX8_standing_40 : decode cX8_standing 40 = .ok (.ireturn, 1) := by decide +kernel
theorem dX8_standing_41 : decode cX8_standing 41 = .ok (.iload_n 2, 1) := by decide +kernel
theorem dX8_standing_42 : decode cX8_standing 42 = .ok (.ifCond .ne 22, 3) := by decide +kernel
theorem dX8_standing_45 : decode cX8_standing 45 = .ok (.aload_n 0, 1) := by decide +kernel
theorem dX8_standing_46 : decode cX8_standing 46 = .ok (.invokevirtual 329, 3) := by decide +kernel
theorem dX8_standing_49 : decode cX8_standing 49 = .ok (.aload_n 0, 1) := by decide +kernel
theorem dX8_standing_50 : decode cX8_standing 50 = .ok (.getfield 89, 3) := by decide +kernel
theorem dX8_standing_53 : decode cX8_standing 53 = .ok (.iload_n 1, 1) := by decide +kernel
theorem dX8_standing_54 : decode cX8_standing 54 = .ok (.baload, 1) := by decide +kernel
theorem dX8_standing_55 : decode cX8_standing 55 = .ok (.ifCond .eq 7, 3) := by decide +kernel
theorem dX8_standing_58 : decode cX8_standing 58 = .ok (.iconst 1, 1) := by decide +kernel
theorem dX8_standing_59 : decode cX8_standing 59 = .ok (.goto 4, 3) := by decide +kernel
theorem dX8_standing_62 : decode cX8_standing 62 = .ok (.iconst 0, 1) := by decide +kernel
theorem dX8_standing_63 : decode cX8_standing 63 = .ok (.ireturn, 1) := by decide +kernel
theorem dX8_standing_64 : decode cX8_standing 64 = .ok (.iload_n 2, 1) := by decide +kernel
theorem dX8_standing_65 : decode cX8_standing 65 = .ok (.iconst 1, 1) := by decide +kernel
theorem dX8_standing_66 : decode cX8_standing 66 = .ok (.if_icmp .ne 19, 3) := by decide +kernel
theorem dX8_standing_69 : decode cX8_standing 69 = .ok (.aload_n 0, 1) := by decide +kernel
theorem dX8_standing_70 : decode cX8_standing 70 = .ok (.iload_n 1, 1) := by decide +kernel
theorem dX8_standing_71 : decode cX8_standing 71 = .ok (.invokevirtual 332, 3) := by decide +kernel
theorem dX8_standing_74 : decode cX8_standing 74 = .ok (.ifCond .eq 7, 3) := by decide +kernel
theorem dX8_standing_77 : decode cX8_standing 77 = .ok (.iconst 1, 1) := by decide +kernel
theorem dX8_standing_78 : decode cX8_standing 78 = .ok (.goto 12, 3) := by decide +kernel
theorem dX8_standing_81 : decode cX8_standing 81 = .ok (.iconst 0, 1) := by decide +kernel
theorem dX8_standing_82 : decode cX8_standing 82 = .ok (.goto 8, 3) := by decide +kernel
theorem dX8_standing_85 : decode cX8_standing 85 = .ok (.aload_n 0, 1) := by decide +kernel
theorem dX8_standing_86 : decode cX8_standing 86 = .ok (.iload_n 1, 1) := by decide +kernel
theorem dX8_standing_87 : decode cX8_standing 87 = .ok (.invokevirtual 326, 3) := by decide +kernel
theorem dX8_standing_90 : decode cX8_standing 90 = .ok (.ireturn, 1) := by decide +kernel
theorem dX8_weigh_0 : decode cX8_weigh 0 = .ok (.aload_n 0, 1) := by decide +kernel
theorem dX8_weigh_1 : decode cX8_weigh 1 = .ok (.iconst 0, 1) := by decide +kernel
theorem dX8_weigh_2 : decode cX8_weigh 2 = .ok (.putfield 95, 3) := by decide +kernel
theorem dX8_weigh_5 : decode cX8_weigh 5 = .ok (.aload_n 0, 1) := by decide +kernel
theorem dX8_weigh_6 : decode cX8_weigh 6 = .ok (.iload_n 1, 1) := by decide +kernel
theorem dX8_weigh_7 : decode cX8_weigh 7 = .ok (.invokevirtual 305, 3) := by decide +kernel
theorem dX8_weigh_10 : decode cX8_weigh 10 = .ok (.ifCond .eq 24, 3) := by decide +kernel
theorem dX8_weigh_13 : decode cX8_weigh 13 = .ok (.iload_n 2, 1) := by decide +kernel
theorem dX8_weigh_14 : decode cX8_weigh 14 = .ok (.iconst 0, 1) := by decide +kernel
theorem dX8_weigh_15 : decode cX8_weigh 15 = .ok (.bipush 7, 2) := by decide +kernel
theorem dX8_weigh_17 : decode cX8_weigh 17 = .ok (.invokestatic 106, 3) := by decide +kernel
theorem dX8_weigh_20 : decode cX8_weigh 20 = .ok (.ifCond .eq 14, 3) := by decide +kernel
theorem dX8_weigh_23 : decode cX8_weigh 23 = .ok (.iload_n 3, 1) := by decide +kernel
theorem dX8_weigh_24 : decode cX8_weigh 24 = .ok (.bipush (-9), 2) := by decide +kernel
theorem dX8_weigh_26 : decode cX8_weigh 26 = .ok (.bipush 9, 2) := by decide +kernel
theorem dX8_weigh_28 : decode cX8_weigh 28 = .ok (.invokestatic 106, 3) := by decide +kernel
theorem dX8_weigh_31 : decode cX8_weigh 31 = .ok (.ifCond .ne 5, 3) := by decide +kernel
theorem dX8_weigh_34 : decode cX8_weigh 34 = .ok (.iconst 0, 1) := by decide +kernel
theorem dX8_weigh_35 : decode cX8_weigh 35 = .ok (.ireturn, 1) := by decide +kernel
theorem dX8_weigh_36 : decode cX8_weigh 36 = .ok (.aload_n 0, 1) := by decide +kernel
theorem dX8_weigh_37 : decode cX8_weigh 37 = .ok (.getfield 40, 3) := by decide +kernel
theorem dX8_weigh_40 : decode cX8_weigh 40 = .ok (.bipush 8, 2) := by decide +kernel
theorem dX8_weigh_42 : decode cX8_weigh 42 = .ok (.iload_n 1, 1) := by decide +kernel
theorem dX8_weigh_43 : decode cX8_weigh 43 = .ok (.imul, 1) := by decide +kernel
theorem dX8_weigh_44 : decode cX8_weigh 44 = .ok (.iload_n 2, 1) := by decide +kernel
theorem dX8_weigh_45 : decode cX8_weigh 45 = .ok (.iadd, 1) := by decide +kernel
theorem dX8_weigh_46 : decode cX8_weigh 46 = .ok (.iload_n 3, 1) := by decide +kernel
theorem dX8_weigh_47 : decode cX8_weigh 47 = .ok (.iastore, 1) := by decide +kernel
theorem dX8_weigh_48 : decode cX8_weigh 48 = .ok (.iconst 1, 1) := by decide +kernel
theorem dX8_weigh_49 : decode cX8_weigh 49 = .ok (.ireturn, 1) := by decide +kernel
theorem dX8_count_0 : decode cX8_count 0 = .ok (.aload_n 0, 1) := by decide +kernel
theorem dX8_count_1 : decode cX8_count 1 = .ok (.iconst 0, 1) := by decide +kernel
theorem dX8_count_2 : decode cX8_count 2 = .ok (.putfield 95, 3) := by decide +kernel
theorem dX8_count_5 : decode cX8_count 5 = .ok (.iload_n 1, 1) := by decide +kernel
theorem dX8_count_6 : decode cX8_count 6 = .ok (.tableswitch 94 0 7 #[46, 53, 60, 67, 72, 79, 84, 89], 46) := by decide +kernel
theorem dX8_count_52 : decode cX8_count 52 = .ok (.aload_n 0, 1) := by decide +kernel
theorem dX8_count_53 : decode cX8_count 53 = .ok (.getfield 7, 3) := by decide +kernel
theorem dX8_count_56 : decode cX8_count 56 = .ok (.iconst 1, 1) := by decide +kernel
theorem dX8_count_57 : decode cX8_count 57 = .ok (.iaload, 1) := by decide +kernel
theorem dX8_count_58 : decode cX8_count 58 = .ok (.ireturn, 1) := by decide +kernel
theorem dX8_count_59 : decode cX8_count 59 = .ok (.aload_n 0, 1) := by decide +kernel
theorem dX8_count_60 : decode cX8_count 60 = .ok (.getfield 7, 3) := by decide +kernel
theorem dX8_count_63 : decode cX8_count 63 = .ok (.iconst 3, 1) := by decide +kernel
theorem dX8_count_64 : decode cX8_count 64 = .ok (.iaload, 1) := by decide +kernel
theorem dX8_count_65 : decode cX8_count 65 = .ok (.ireturn, 1) := by decide +kernel
theorem dX8_count_66 : decode cX8_count 66 = .ok (.aload_n 0, 1) := by decide +kernel
theorem dX8_count_67 : decode cX8_count 67 = .ok (.getfield 7, 3) := by decide +kernel
theorem dX8_count_70 : decode cX8_count 70 = .ok (.iconst 4, 1) := by decide +kernel
theorem dX8_count_71 : decode cX8_count 71 = .ok (.iaload, 1) := by decide +kernel
theorem dX8_count_72 : decode cX8_count 72 = .ok (.ireturn, 1) := by decide +kernel
theorem dX8_count_73 : decode cX8_count 73 = .ok (.aload_n 0, 1) := by decide +kernel
theorem dX8_count_74 : decode cX8_count 74 = .ok (.invokevirtual 262, 3) := by decide +kernel
theorem dX8_count_77 : decode cX8_count 77 = .ok (.ireturn, 1) := by decide +kernel
theorem dX8_count_78 : decode cX8_count 78 = .ok (.aload_n 0, 1) := by decide +kernel
theorem dX8_count_79 : decode cX8_count 79 = .ok (.getfield 7, 3) := by decide +kernel
theorem dX8_count_82 : decode cX8_count 82 = .ok (.iconst 0, 1) := by decide +kernel
theorem dX8_count_83 : decode cX8_count 83 = .ok (.iaload, 1) := by decide +kernel
theorem dX8_count_84 : decode cX8_count 84 = .ok (.ireturn, 1) := by decide +kernel
theorem dX8_count_85 : decode cX8_count 85 = .ok (.aload_n 0, 1) := by decide +kernel
theorem dX8_count_86 : decode cX8_count 86 = .ok (.invokevirtual 335, 3) := by decide +kernel
theorem dX8_count_89 : decode cX8_count 89 = .ok (.ireturn, 1) := by decide +kernel
theorem dX8_count_90 : decode cX8_count 90 = .ok (.aload_n 0, 1) := by decide +kernel
theorem dX8_count_91 : decode cX8_count 91 = .ok (.getfield 99, 3) := by decide +kernel
theorem dX8_count_94 : decode cX8_count 94 = .ok (.ireturn, 1) := by decide +kernel
theorem dX8_count_95 : decode cX8_count 95 = .ok (.aload_n 0, 1) := by decide +kernel
theorem dX8_count_96 : decode cX8_count 96 = .ok (.invokevirtual 323, 3) := by decide +kernel
theorem dX8_count_99 : decode cX8_count 99 = .ok (.ireturn, 1) := by decide +kernel
theorem dX8_count_100 : decode cX8_count 100 = .ok (.iconst (-1), 1) := by decide +kernel
theorem dX8_count_101 : decode cX8_count 101 = .ok (.ireturn, 1) := by decide +kernel
theorem dX8_placeOf_0 : decode cX8_placeOf 0 = .ok (.iconst 0, 1) := by decide +kernel
theorem dX8_placeOf_1 : decode cX8_placeOf 1 = .ok (.istore_n 2, 1) := by decide +kernel
theorem dX8_placeOf_2 : decode cX8_placeOf 2 = .ok (.aload_n 0, 1) := by decide +kernel
theorem dX8_placeOf_3 : decode cX8_placeOf 3 = .ok (.getfield 64, 3) := by decide +kernel
theorem dX8_placeOf_6 : decode cX8_placeOf 6 = .ok (.iload_n 2, 1) := by decide +kernel
theorem dX8_placeOf_7 : decode cX8_placeOf 7 = .ok (.iaload, 1) := by decide +kernel
theorem dX8_placeOf_8 : decode cX8_placeOf 8 = .ok (.iload_n 1, 1) := by decide +kernel
theorem dX8_placeOf_9 : decode cX8_placeOf 9 = .ok (.if_icmp .eq 9, 3) := by decide +kernel
theorem dX8_placeOf_12 : decode cX8_placeOf 12 = .ok (.iinc 2 1, 3) := by decide +kernel
theorem dX8_placeOf_15 : decode cX8_placeOf 15 = .ok (.goto (-13), 3) := by decide +kernel
theorem dX8_placeOf_18 : decode cX8_placeOf 18 = .ok (.iload_n 2, 1) := by decide +kernel
theorem dX8_placeOf_19 : decode cX8_placeOf 19 = .ok (.ireturn, 1) := by decide +kernel
theorem dX8_motion_0 : decode cX8_motion 0 = .ok (.aload_n 0, 1) := by decide +kernel
theorem dX8_motion_1 : decode cX8_motion 1 = .ok (.aload_n 0, 1) := by decide +kernel
theorem dX8_motion_2 : decode cX8_motion 2 = .ok (.iload_n 1, 1) := by decide +kernel
theorem dX8_motion_3 : decode cX8_motion 3 = .ok (.invokevirtual 299, 3) := by decide +kernel
theorem dX8_motion_6 : decode cX8_motion 6 = .ok (.ifCond .eq 16, 3) := by decide +kernel
theorem dX8_motion_9 : decode cX8_motion 9 = .ok (.iload_n 2, 1) := by decide +kernel
theorem dX8_motion_10 : decode cX8_motion 10 = .ok (.iconst 0, 1) := by decide +kernel
theorem dX8_motion_11 : decode cX8_motion 11 = .ok (.iconst 4, 1) := by decide +kernel
theorem dX8_motion_12 : decode cX8_motion 12 = .ok (.invokestatic 106, 3) := by decide +kernel
theorem dX8_motion_15 : decode cX8_motion 15 = .ok (.ifCond .eq 7, 3) := by decide +kernel
theorem dX8_motion_18 : decode cX8_motion 18 = .ok (.iconst 0, 1) := by decide +kernel
theorem dX8_motion_19 : decode cX8_motion 19 = .ok (.goto 4, 3) := by decide +kernel
theorem dX8_motion_22 : decode cX8_motion 22 = .ok (.iconst 1, 1) := by decide +kernel
theorem dX8_motion_23 : decode cX8_motion 23 = .ok (.putfield 95, 3) := by decide +kernel
theorem dX8_motion_26 : decode cX8_motion 26 = .ok (.aload_n 0, 1) := by decide +kernel
theorem dX8_motion_27 : decode cX8_motion 27 = .ok (.getfield 95, 3) := by decide +kernel
theorem dX8_motion_30 : decode cX8_motion 30 = .ok (.ifCond .le 5, 3) := by decide +kernel
theorem dX8_motion_33 : decode cX8_motion 33 = .ok (.iconst 0, 1) := by decide +kernel
theorem dX8_motion_34 : decode cX8_motion 34 = .ok (.ireturn, 1) := by decide +kernel
theorem dX8_motion_35 : decode cX8_motion 35 = .ok (.iload_n 2, 1) := by decide +kernel
theorem dX8_motion_36 : decode cX8_motion 36 = .ok (.tableswitch 60 0 3 #[32, 39, 46, 53], 32) := by decide +kernel
theorem dX8_motion_68 : decode cX8_motion 68 = .ok (.aload_n 0, 1) := by decide +kernel
theorem dX8_motion_69 : decode cX8_motion 69 = .ok (.getfield 16, 3) := by decide +kernel
theorem dX8_motion_72 : decode cX8_motion 72 = .ok (.iload_n 1, 1) := by decide +kernel
theorem dX8_motion_73 : decode cX8_motion 73 = .ok (.iaload, 1) := by decide +kernel
theorem dX8_motion_74 : decode cX8_motion 74 = .ok (.ireturn, 1) := by decide +kernel
theorem dX8_motion_75 : decode cX8_motion 75 = .ok (.aload_n 0, 1) := by decide +kernel
theorem dX8_motion_76 : decode cX8_motion 76 = .ok (.getfield 19, 3) := by decide +kernel
theorem dX8_motion_79 : decode cX8_motion 79 = .ok (.iload_n 1, 1) := by decide +kernel
theorem dX8_motion_80 : decode cX8_motion 80 = .ok (.iaload, 1) := by decide +kernel
theorem dX8_motion_81 : decode cX8_motion 81 = .ok (.ireturn, 1) := by decide +kernel
theorem dX8_motion_82 : decode cX8_motion 82 = .ok (.aload_n 0, 1) := by decide +kernel
theorem dX8_motion_83 : decode cX8_motion 83 = .ok (.getfield 22, 3) := by decide +kernel
theorem dX8_motion_86 : decode cX8_motion 86 = .ok (.iload_n 1, 1) := by decide +kernel
theorem dX8_motion_87 : decode cX8_motion 87 = .ok (.iaload, 1) := by decide +kernel
theorem dX8_motion_88 : decode cX8_motion 88 = .ok (.ireturn, 1) := by decide +kernel
theorem dX8_motion_89 : decode cX8_motion 89 = .ok (.aload_n 0, 1) := by decide +kernel
theorem dX8_motion_90 : decode cX8_motion 90 = .ok (.getfield 25, 3) := by decide +kernel
theorem dX8_motion_93 : decode cX8_motion 93 = .ok (.iload_n 1, 1) := by decide +kernel
theorem dX8_motion_94 : decode cX8_motion 94 = .ok (.iaload, 1) := by decide +kernel
theorem dX8_motion_95 : decode cX8_motion 95 = .ok (.ireturn, 1) := by decide +kernel
theorem dX8_motion_96 : decode cX8_motion 96 = .ok (.aload_n 0, 1) := by decide +kernel
theorem dX8_motion_97 : decode cX8_motion 97 = .ok (.iload_n 1, 1) := by decide +kernel
theorem dX8_motion_98 : decode cX8_motion 98 = .ok (.invokevirtual 338, 3) := by decide +kernel
theorem dX8_motion_101 : decode cX8_motion 101 = .ok (.ireturn, 1) := by decide +kernel
theorem dX8_weight_0 : decode cX8_weight 0 = .ok (.aload_n 0, 1) := by decide +kernel
theorem dX8_weight_1 : decode cX8_weight 1 = .ok (.aload_n 0, 1) := by decide +kernel
theorem dX8_weight_2 : decode cX8_weight 2 = .ok (.iload_n 1, 1) := by decide +kernel
theorem dX8_weight_3 : decode cX8_weight 3 = .ok (.invokevirtual 305, 3) := by decide +kernel
theorem dX8_weight_6 : decode cX8_weight 6 = .ok (.ifCond .eq 17, 3) := by decide +kernel
theorem dX8_weight_9 : decode cX8_weight 9 = .ok (.iload_n 2, 1) := by decide +kernel
theorem dX8_weight_10 : decode cX8_weight 10 = .ok (.iconst 0, 1) := by decide +kernel
theorem dX8_weight_11 : decode cX8_weight 11 = .ok (.bipush 7, 2) := by decide +kernel
theorem dX8_weight_13 : decode cX8_weight 13 = .ok (.invokestatic 106, 3) := by decide +kernel
theorem dX8_weight_16 : decode cX8_weight 16 = .ok (.ifCond .eq 7, 3) := by decide +kernel
theorem dX8_weight_19 : decode cX8_weight 19 = .ok (.iconst 0, 1) := by decide +kernel
theorem dX8_weight_20 : decode cX8_weight 20 = .ok (.goto 4, 3) := by decide +kernel
theorem dX8_weight_23 : decode cX8_weight 23 = .ok (.iconst 1, 1) := by decide +kernel
theorem dX8_weight_24 : decode cX8_weight 24 = .ok (.putfield 95, 3) := by decide +kernel
theorem dX8_weight_27 : decode cX8_weight 27 = .ok (.aload_n 0, 1) := by decide +kernel
theorem dX8_weight_28 : decode cX8_weight 28 = .ok (.getfield 95, 3) := by decide +kernel
theorem dX8_weight_31 : decode cX8_weight 31 = .ok (.ifCond .le 7, 3) := by decide +kernel
theorem dX8_weight_34 : decode cX8_weight 34 = .ok (.iconst 0, 1) := by decide +kernel
theorem dX8_weight_35 : decode cX8_weight 35 = .ok (.goto 14, 3) := by decide +kernel
theorem dX8_weight_38 : decode cX8_weight 38 = .ok (.aload_n 0, 1) := by decide +kernel
theorem dX8_weight_39 : decode cX8_weight 39 = .ok (.getfield 40, 3) := by decide +kernel
theorem dX8_weight_42 : decode cX8_weight 42 = .ok (.bipush 8, 2) := by decide +kernel
theorem dX8_weight_44 : decode cX8_weight 44 = .ok (.iload_n 1, 1) := by decide +kernel
theorem dX8_weight_45 : decode cX8_weight 45 = .ok (.imul, 1) := by decide +kernel
theorem dX8_weight_46 : decode cX8_weight 46 = .ok (.iload_n 2, 1) := by decide +kernel
theorem dX8_weight_47 : decode cX8_weight 47 = .ok (.iadd, 1) := by decide +kernel
theorem dX8_weight_48 : decode cX8_weight 48 = .ok (.iaload, 1) := by decide +kernel
theorem dX8_weight_49 : decode cX8_weight 49 = .ok (.ireturn, 1) := by decide +kernel
theorem dX8_likes_0 : decode cX8_likes 0 = .ok (.aload_n 0, 1) := by decide +kernel
theorem dX8_likes_1 : decode cX8_likes 1 = .ok (.aload_n 0, 1) := by decide +kernel
theorem dX8_likes_2 : decode cX8_likes 2 = .ok (.iload_n 1, 1) := by decide +kernel
theorem dX8_likes_3 : decode cX8_likes 3 = .ok (.invokevirtual 305, 3) := by decide +kernel
theorem dX8_likes_6 : decode cX8_likes 6 = .ok (.ifCond .eq 18, 3) := by decide +kernel
theorem dX8_likes_9 : decode cX8_likes 9 = .ok (.iload_n 2, 1) := by decide +kernel
theorem dX8_likes_10 : decode cX8_likes 10 = .ok (.iconst 0, 1) := by decide +kernel
theorem dX8_likes_11 : decode cX8_likes 11 = .ok (.sipush 255, 3) := by decide +kernel
theorem dX8_likes_14 : decode cX8_likes 14 = .ok (.invokestatic 106, 3) := by decide +kernel
theorem dX8_likes_17 : decode cX8_likes 17 = .ok (.ifCond .eq 7, 3) := by decide +kernel
theorem dX8_likes_20 : decode cX8_likes 20 = .ok (.iconst 0, 1) := by decide +kernel
theorem dX8_likes_21 : decode cX8_likes 21 = .ok (.goto 4, 3) := by decide +kernel
theorem dX8_likes_24 : decode cX8_likes 24 = .ok (.iconst 1, 1) := by decide +kernel
theorem dX8_likes_25 : decode cX8_likes 25 = .ok (.putfield 95, 3) := by decide +kernel
theorem dX8_likes_28 : decode cX8_likes 28 = .ok (.aload_n 0, 1) := by decide +kernel
theorem dX8_likes_29 : decode cX8_likes 29 = .ok (.getfield 95, 3) := by decide +kernel
theorem dX8_likes_32 : decode cX8_likes 32 = .ok (.ifCond .le 7, 3) := by decide +kernel
theorem dX8_likes_35 : decode cX8_likes 35 = .ok (.iconst 0, 1) := by decide +kernel
theorem dX8_likes_36 : decode cX8_likes 36 = .ok (.goto 9, 3) := by decide +kernel
theorem dX8_likes_39 : decode cX8_likes 39 = .ok (.aload_n 0, 1) := by decide +kernel
theorem dX8_likes_40 : decode cX8_likes 40 = .ok (.iload_n 1, 1) := by decide +kernel
theorem dX8_likes_41 : decode cX8_likes 41 = .ok (.iload_n 2, 1) := by decide +kernel
theorem dX8_likes_42 : decode cX8_likes 42 = .ok (.invokevirtual 247, 3) := by decide +kernel
theorem dX8_likes_45 : decode cX8_likes 45 = .ok (.ireturn, 1) := by decide +kernel
theorem dJ6_bitCount_0f7a4_0 : decode cJ6_bitCount_0f7a4 0 = .ok (.iload_n 0, 1) := by decide +kernel
theorem dJ6_bitCount_0f7a4_1 : decode cJ6_bitCount_0f7a4 1 = .ok (.iload_n 0, 1) := by decide +kernel
theorem dJ6_bitCount_0f7a4_2 : decode cJ6_bitCount_0f7a4 2 = .ok (.iconst 1, 1) := by decide +kernel
theorem dJ6_bitCount_0f7a4_3 : decode cJ6_bitCount_0f7a4 3 = .ok (.iushr, 1) := by decide +kernel
theorem dJ6_bitCount_0f7a4_4 : decode cJ6_bitCount_0f7a4 4 = .ok (.ldc_w 265, 3) := by decide +kernel
theorem dJ6_bitCount_0f7a4_7 : decode cJ6_bitCount_0f7a4 7 = .ok (.iand, 1) := by decide +kernel
theorem dJ6_bitCount_0f7a4_8 : decode cJ6_bitCount_0f7a4 8 = .ok (.isub, 1) := by decide +kernel
theorem dJ6_bitCount_0f7a4_9 : decode cJ6_bitCount_0f7a4 9 = .ok (.istore_n 0, 1) := by decide +kernel
theorem dJ6_bitCount_0f7a4_10 : decode cJ6_bitCount_0f7a4 10 = .ok (.iload_n 0, 1) := by decide +kernel
theorem dJ6_bitCount_0f7a4_11 : decode cJ6_bitCount_0f7a4 11 = .ok (.ldc_w 266, 3) := by decide +kernel
theorem dJ6_bitCount_0f7a4_14 : decode cJ6_bitCount_0f7a4 14 = .ok (.iand, 1) := by decide +kernel
theorem dJ6_bitCount_0f7a4_15 : decode cJ6_bitCount_0f7a4 15 = .ok (.iload_n 0, 1) := by decide +kernel
theorem dJ6_bitCount_0f7a4_16 : decode cJ6_bitCount_0f7a4 16 = .ok (.iconst 2, 1) := by decide +kernel
theorem dJ6_bitCount_0f7a4_17 : decode cJ6_bitCount_0f7a4 17 = .ok (.iushr, 1) := by decide +kernel
theorem dJ6_bitCount_0f7a4_18 : decode cJ6_bitCount_0f7a4 18 = .ok (.ldc_w 266, 3) := by decide +kernel
theorem dJ6_bitCount_0f7a4_21 : decode cJ6_bitCount_0f7a4 21 = .ok (.iand, 1) := by decide +kernel
theorem dJ6_bitCount_0f7a4_22 : decode cJ6_bitCount_0f7a4 22 = .ok (.iadd, 1) := by decide +kernel
theorem dJ6_bitCount_0f7a4_23 : decode cJ6_bitCount_0f7a4 23 = .ok (.istore_n 0, 1) := by decide +kernel
theorem dJ6_bitCount_0f7a4_24 : decode cJ6_bitCount_0f7a4 24 = .ok (.iload_n 0, 1) := by decide +kernel
theorem dJ6_bitCount_0f7a4_25 : decode cJ6_bitCount_0f7a4 25 = .ok (.iload_n 0, 1) := by decide +kernel
theorem dJ6_bitCount_0f7a4_26 : decode cJ6_bitCount_0f7a4 26 = .ok (.iconst 4, 1) := by decide +kernel
theorem dJ6_bitCount_0f7a4_27 : decode cJ6_bitCount_0f7a4 27 = .ok (.iushr, 1) := by decide +kernel
theorem dJ6_bitCount_0f7a4_28 : decode cJ6_bitCount_0f7a4 28 = .ok (.iadd, 1) := by decide +kernel
theorem dJ6_bitCount_0f7a4_29 : decode cJ6_bitCount_0f7a4 29 = .ok (.ldc_w 267, 3) := by decide +kernel
theorem dJ6_bitCount_0f7a4_32 : decode cJ6_bitCount_0f7a4 32 = .ok (.iand, 1) := by decide +kernel
theorem dJ6_bitCount_0f7a4_33 : decode cJ6_bitCount_0f7a4 33 = .ok (.istore_n 0, 1) := by decide +kernel
theorem dJ6_bitCount_0f7a4_34 : decode cJ6_bitCount_0f7a4 34 = .ok (.iload_n 0, 1) := by decide +kernel
theorem dJ6_bitCount_0f7a4_35 : decode cJ6_bitCount_0f7a4 35 = .ok (.iload_n 0, 1) := by decide +kernel
theorem dJ6_bitCount_0f7a4_36 : decode cJ6_bitCount_0f7a4 36 = .ok (.bipush 8, 2) := by decide +kernel
theorem dJ6_bitCount_0f7a4_38 : decode cJ6_bitCount_0f7a4 38 = .ok (.iushr, 1) := by decide +kernel
theorem dJ6_bitCount_0f7a4_39 : decode cJ6_bitCount_0f7a4 39 = .ok (.iadd, 1) := by decide +kernel
theorem dJ6_bitCount_0f7a4_40 : decode cJ6_bitCount_0f7a4 40 = .ok (.istore_n 0, 1) := by decide +kernel
theorem dJ6_bitCount_0f7a4_41 : decode cJ6_bitCount_0f7a4 41 = .ok (.iload_n 0, 1) := by decide +kernel
theorem dJ6_bitCount_0f7a4_42 : decode cJ6_bitCount_0f7a4 42 = .ok (.iload_n 0, 1) := by decide +kernel
theorem dJ6_bitCount_0f7a4_43 : decode cJ6_bitCount_0f7a4 43 = .ok (.bipush 16, 2) := by decide +kernel
theorem dJ6_bitCount_0f7a4_45 : decode cJ6_bitCount_0f7a4 45 = .ok (.iushr, 1) := by decide +kernel
theorem dJ6_bitCount_0f7a4_46 : decode cJ6_bitCount_0f7a4 46 = .ok (.iadd, 1) := by decide +kernel
theorem dJ6_bitCount_0f7a4_47 : decode cJ6_bitCount_0f7a4 47 = .ok (.istore_n 0, 1) := by decide +kernel
theorem dJ6_bitCount_0f7a4_48 : decode cJ6_bitCount_0f7a4 48 = .ok (.iload_n 0, 1) := by decide +kernel
theorem dJ6_bitCount_0f7a4_49 : decode cJ6_bitCount_0f7a4 49 = .ok (.bipush 63, 2) := by decide +kernel
theorem dJ6_bitCount_0f7a4_51 : decode cJ6_bitCount_0f7a4 51 = .ok (.iand, 1) := by decide +kernel
theorem dJ6_bitCount_0f7a4_52 : decode cJ6_bitCount_0f7a4 52 = .ok (.ireturn, 1) := by decide +kernel
theorem dJ9_max_7cf53_0 : decode cJ9_max_7cf53 0 = .ok (.iload_n 0, 1) := by decide +kernel
theorem dJ9_max_7cf53_1 : decode cJ9_max_7cf53 1 = .ok (.iload_n 1, 1) := by decide +kernel
theorem dJ9_max_7cf53_2 : decode cJ9_max_7cf53 2 = .ok (.if_icmp .lt 7, 3) := by decide +kernel
theorem dJ9_max_7cf53_5 : decode cJ9_max_7cf53 5 = .ok (.iload_n 0, 1) := by decide +kernel
theorem dJ9_max_7cf53_6 : decode cJ9_max_7cf53 6 = .ok (.goto 4, 3) := by decide +kernel
theorem dJ9_max_7cf53_9 : decode cJ9_max_7cf53 9 = .ok (.iload_n 1, 1) := by decide +kernel
theorem dJ9_max_7cf53_10 : decode cJ9_max_7cf53 10 = .ok (.ireturn, 1) := by decide +kernel
theorem dJ9_min_7cf53_0 : decode cJ9_min_7cf53 0 = .ok (.iload_n 0, 1) := by decide +kernel
theorem dJ9_min_7cf53_1 : decode cJ9_min_7cf53 1 = .ok (.iload_n 1, 1) := by decide +kernel
theorem dJ9_min_7cf53_2 : decode cJ9_min_7cf53 2 = .ok (.if_icmp .gt 7, 3) := by decide +kernel
theorem dJ9_min_7cf53_5 : decode cJ9_min_7cf53 5 = .ok (.iload_n 0, 1) := by decide +kernel
theorem dJ9_min_7cf53_6 : decode cJ9_min_7cf53 6 = .ok (.goto 4, 3) := by decide +kernel
theorem dJ9_min_7cf53_9 : decode cJ9_min_7cf53 9 = .ok (.iload_n 1, 1) := by decide +kernel
theorem dJ9_min_7cf53_10 : decode cJ9_min_7cf53 10 = .ok (.ireturn, 1) := by decide +kernel
theorem dJ0_length_8abf5_0 : decode cJ0_length_8abf5 0 = .ok (.aload_n 0, 1) := by decide +kernel
theorem dJ0_length_8abf5_1 : decode cJ0_length_8abf5 1 = .ok (.getfield 9, 3) := by decide +kernel
theorem dJ0_length_8abf5_4 : decode cJ0_length_8abf5 4 = .ok (.arraylength, 1) := by decide +kernel
theorem dJ0_length_8abf5_5 : decode cJ0_length_8abf5 5 = .ok (.aload_n 0, 1) := by decide +kernel
theorem dJ0_length_8abf5_6 : decode cJ0_length_8abf5 6 = .ok (.invokevirtual 335, 3) := by decide +kernel
theorem dJ0_length_8abf5_9 : decode cJ0_length_8abf5 9 = .ok (.ishr, 1) := by decide +kernel
theorem dJ0_length_8abf5_10 : decode cJ0_length_8abf5 10 = .ok (.ireturn, 1) := by decide +kernel
theorem dJ0_charAt_5068e_0 : decode cJ0_charAt_5068e 0 = .ok (.aload_n 0, 1) := by decide +kernel
theorem dJ0_charAt_5068e_1 : decode cJ0_charAt_5068e 1 = .ok (.invokevirtual 492, 3) := by decide +kernel
theorem dJ0_charAt_5068e_4 : decode cJ0_charAt_5068e 4 = .ok (.ifCond .eq 12, 3) := by decide +kernel
theorem dJ0_charAt_5068e_7 : decode cJ0_charAt_5068e 7 = .ok (.aload_n 0, 1) := by decide +kernel
theorem dJ0_charAt_5068e_8 : decode cJ0_charAt_5068e 8 = .ok (.getfield 9, 3) := by decide +kernel
theorem dJ0_charAt_5068e_11 : decode cJ0_charAt_5068e 11 = .ok (.iload_n 1, 1) := by decide +kernel
theorem dJ0_charAt_5068e_12 : decode cJ0_charAt_5068e 12 = .ok (.invokestatic 495, 3) := by decide +kernel
theorem dJ0_charAt_5068e_15 : decode cJ0_charAt_5068e 15 = .ok (.ireturn, 1) := by decide +kernel
theorem dJ0_charAt_5068e_16 : decode cJ0_charAt_5068e 16 = .ok (.aload_n 0, 1) := by decide +kernel
theorem dJ0_charAt_5068e_17 : decode cJ0_charAt_5068e 17 = .ok (.getfield 9, 3) := by decide +kernel
theorem dJ0_charAt_5068e_20 : decode cJ0_charAt_5068e 20 = .ok (.iload_n 1, 1) := by decide +kernel
theorem dJ0_charAt_5068e_21 : decode cJ0_charAt_5068e 21 = .ok (.invokestatic 498, 3) := by decide +kernel
theorem dJ0_charAt_5068e_24 : decode cJ0_charAt_5068e 24 = .ok (.ireturn, 1) := by decide +kernel
theorem dJ0_coder_7d493_0 : decode cJ0_coder_7d493 0 = .ok (.getstatic 38, 3) := by decide +kernel
theorem dJ0_coder_7d493_3 : decode cJ0_coder_7d493 3 = .ok (.ifCond .eq 10, 3) := by decide +kernel
theorem dJ0_coder_7d493_6 : decode cJ0_coder_7d493 6 = .ok (.aload_n 0, 1) := by decide +kernel
theorem dJ0_coder_7d493_7 : decode cJ0_coder_7d493 7 = .ok (.getfield 15, 3) := by decide +kernel
theorem dJ0_coder_7d493_10 : decode cJ0_coder_7d493 10 = .ok (.goto 4, 3) := by decide +kernel
theorem dJ0_coder_7d493_13 : decode cJ0_coder_7d493 13 = .ok (.iconst 1, 1) := by decide +kernel
theorem dJ0_coder_7d493_14 : decode cJ0_coder_7d493 14 = .ok (.ireturn, 1) := by decide +kernel
theorem dJ0_isLatin1_aae02_0 : decode cJ0_isLatin1_aae02 0 = .ok (.getstatic 38, 3) := by decide +kernel
theorem dJ0_isLatin1_aae02_3 : decode cJ0_isLatin1_aae02 3 = .ok (.ifCond .eq 14, 3) := by decide +kernel
theorem dJ0_isLatin1_aae02_6 : decode cJ0_isLatin1_aae02 6 = .ok (.aload_n 0, 1) := by decide +kernel
theorem dJ0_isLatin1_aae02_7 : decode cJ0_isLatin1_aae02 7 = .ok (.getfield 15, 3) := by decide +kernel
theorem dJ0_isLatin1_aae02_10 : decode cJ0_isLatin1_aae02 10 = .ok (.ifCond .ne 7, 3) := by decide +kernel
theorem dJ0_isLatin1_aae02_13 : decode cJ0_isLatin1_aae02 13 = .ok (.iconst 1, 1) := by decide +kernel
theorem dJ0_isLatin1_aae02_14 : decode cJ0_isLatin1_aae02 14 = .ok (.goto 4, 3) := by decide +kernel
theorem dJ0_isLatin1_aae02_17 : decode cJ0_isLatin1_aae02 17 = .ok (.iconst 0, 1) := by decide +kernel
theorem dJ0_isLatin1_aae02_18 : decode cJ0_isLatin1_aae02 18 = .ok (.ireturn, 1) := by decide +kernel
theorem dJ0_checkIndex_df160_0 : decode cJ0_checkIndex_df160 0 = .ok (.iload_n 0, 1) := by decide +kernel
theorem dJ0_checkIndex_df160_1 : decode cJ0_checkIndex_df160 1 = .ok (.iload_n 1, 1) := by decide +kernel
theorem dJ0_checkIndex_df160_2 : decode cJ0_checkIndex_df160 2 = .ok (.getstatic 1053, 3) := by decide +kernel
theorem dJ0_checkIndex_df160_5 : decode cJ0_checkIndex_df160 5 = .ok (.invokestatic 1059, 3) := by decide +kernel
theorem dJ0_checkIndex_df160_8 : decode cJ0_checkIndex_df160 8 = .ok (.pop, 1) := by decide +kernel
theorem dJ0_checkIndex_df160_9 : decode cJ0_checkIndex_df160 9 = .ok (.return_, 1) := by decide +kernel
theorem dJ1_charAt_3b067_0 : decode cJ1_charAt_3b067 0 = .ok (.iload_n 1, 1) := by decide +kernel
theorem dJ1_charAt_3b067_1 : decode cJ1_charAt_3b067 1 = .ok (.aload_n 0, 1) := by decide +kernel
theorem dJ1_charAt_3b067_2 : decode cJ1_charAt_3b067 2 = .ok (.arraylength, 1) := by decide +kernel
theorem dJ1_charAt_3b067_3 : decode cJ1_charAt_3b067 3 = .ok (.invokestatic 9, 3) := by decide +kernel
theorem dJ1_charAt_3b067_6 : decode cJ1_charAt_3b067 6 = .ok (.aload_n 0, 1) := by decide +kernel
theorem dJ1_charAt_3b067_7 : decode cJ1_charAt_3b067 7 = .ok (.iload_n 1, 1) := by decide +kernel
theorem dJ1_charAt_3b067_8 : decode cJ1_charAt_3b067 8 = .ok (.baload, 1) := by decide +kernel
theorem dJ1_charAt_3b067_9 : decode cJ1_charAt_3b067 9 = .ok (.sipush 255, 3) := by decide +kernel
theorem dJ1_charAt_3b067_12 : decode cJ1_charAt_3b067 12 = .ok (.iand, 1) := by decide +kernel
theorem dJ1_charAt_3b067_13 : decode cJ1_charAt_3b067 13 = .ok (.i2c, 1) := by decide +kernel
theorem dJ1_charAt_3b067_14 : decode cJ1_charAt_3b067 14 = .ok (.ireturn, 1) := by decide +kernel
theorem dJ2_getChar_3b067_0 : decode cJ2_getChar_3b067 0 = .ok (.getstatic 44, 3) := by decide +kernel
theorem dJ2_getChar_3b067_3 : decode cJ2_getChar_3b067 3 = .ok (.ifCond .ne 25, 3) := by decide +kernel
theorem dJ2_getChar_3b067_6 : decode cJ2_getChar_3b067 6 = .ok (.iload_n 1, 1) := by decide +kernel
theorem dJ2_getChar_3b067_7 : decode cJ2_getChar_3b067 7 = .ok (.ifCond .lt 11, 3) := by decide +kernel
theorem dJ2_getChar_3b067_10 : decode cJ2_getChar_3b067 10 = .ok (.iload_n 1, 1) := by decide +kernel
theorem dJ2_getChar_3b067_11 : decode cJ2_getChar_3b067 11 = .ok (.aload_n 0, 1) := by decide +kernel
theorem dJ2_getChar_3b067_12 : decode cJ2_getChar_3b067 12 = .ok (.invokestatic 48, 3) := by decide +kernel
theorem dJ2_getChar_3b067_15 : decode cJ2_getChar_3b067 15 = .ok (.if_icmp .lt 13, 3) := by decide +kernel
theorem dJ2_getChar_3b067_18 : decode cJ2_getChar_3b067 18 = .ok (.new 52, 3) := by decide +kernel
theorem dJ2_getChar_3b067_21 : decode cJ2_getChar_3b067 21 = .ok (.dup, 1) := by decide +kernel
theorem dJ2_getChar_3b067_22 : decode cJ2_getChar_3b067 22 = .ok (.ldc 54, 2) := by decide +kernel
theorem dJ2_getChar_3b067_24 : decode cJ2_getChar_3b067 24 = .ok (.invokespecial 56, 3) := by decide +kernel
theorem dJ2_getChar_3b067_27 : decode cJ2_getChar_3b067 27 = .ok (.athrow, 1) := by decide +kernel
theorem dJ2_getChar_3b067_28 : decode cJ2_getChar_3b067 28 = .ok (.iload_n 1, 1) := by decide +kernel
theorem dJ2_getChar_3b067_29 : decode cJ2_getChar_3b067 29 = .ok (.iconst 1, 1) := by decide +kernel
theorem dJ2_getChar_3b067_30 : decode cJ2_getChar_3b067 30 = .ok (.ishl, 1) := by decide +kernel
theorem dJ2_getChar_3b067_31 : decode cJ2_getChar_3b067 31 = .ok (.istore_n 1, 1) := by decide +kernel
theorem dJ2_getChar_3b067_32 : decode cJ2_getChar_3b067 32 = .ok (.aload_n 0, 1) := by decide +kernel
theorem dJ2_getChar_3b067_33 : decode cJ2_getChar_3b067 33 = .ok (.iload_n 1, 1) := by decide +kernel
theorem dJ2_getChar_3b067_34 : decode cJ2_getChar_3b067 34 = .ok (.iinc 1 1, 3) := by decide +kernel
theorem dJ2_getChar_3b067_37 : decode cJ2_getChar_3b067 37 = .ok (.baload, 1) := by decide +kernel
theorem dJ2_getChar_3b067_38 : decode cJ2_getChar_3b067 38 = .ok (.sipush 255, 3) := by decide +kernel
theorem dJ2_getChar_3b067_41 : decode cJ2_getChar_3b067 41 = .ok (.iand, 1) := by decide +kernel
theorem dJ2_getChar_3b067_42 : decode cJ2_getChar_3b067 42 = .ok (.getstatic 59, 3) := by decide +kernel
theorem dJ2_getChar_3b067_45 : decode cJ2_getChar_3b067 45 = .ok (.ishl, 1) := by decide +kernel
theorem dJ2_getChar_3b067_46 : decode cJ2_getChar_3b067 46 = .ok (.aload_n 0, 1) := by decide +kernel
theorem dJ2_getChar_3b067_47 : decode cJ2_getChar_3b067 47 = .ok (.iload_n 1, 1) := by decide +kernel
theorem dJ2_getChar_3b067_48 : decode cJ2_getChar_3b067 48 = .ok (.baload, 1) := by decide +kernel
theorem dJ2_getChar_3b067_49 : decode cJ2_getChar_3b067 49 = .ok (.sipush 255, 3) := by decide +kernel
theorem dJ2_getChar_3b067_52 : decode cJ2_getChar_3b067 52 = .ok (.iand, 1) := by decide +kernel
theorem dJ2_getChar_3b067_53 : decode cJ2_getChar_3b067 53 = .ok (.getstatic 63, 3) := by decide +kernel
theorem dJ2_getChar_3b067_56 : decode cJ2_getChar_3b067 56 = .ok (.ishl, 1) := by decide +kernel
theorem dJ2_getChar_3b067_57 : decode cJ2_getChar_3b067 57 = .ok (.ior, 1) := by decide +kernel
theorem dJ2_getChar_3b067_58 : decode cJ2_getChar_3b067 58 = .ok (.i2c, 1) := by decide +kernel
theorem dJ2_getChar_3b067_59 : decode cJ2_getChar_3b067 59 = .ok (.ireturn, 1) := by decide +kernel
theorem dJ2_length_9d52b_0 : decode cJ2_length_9d52b 0 = .ok (.aload_n 0, 1) := by decide +kernel
theorem dJ2_length_9d52b_1 : decode cJ2_length_9d52b 1 = .ok (.arraylength, 1) := by decide +kernel
theorem dJ2_length_9d52b_2 : decode cJ2_length_9d52b 2 = .ok (.iconst 1, 1) := by decide +kernel
theorem dJ2_length_9d52b_3 : decode cJ2_length_9d52b 3 = .ok (.ishr, 1) := by decide +kernel
theorem dJ2_length_9d52b_4 : decode cJ2_length_9d52b 4 = .ok (.ireturn, 1) := by decide +kernel
theorem dJ2_charAt_3b067_0 : decode cJ2_charAt_3b067 0 = .ok (.iload_n 1, 1) := by decide +kernel
theorem dJ2_charAt_3b067_1 : decode cJ2_charAt_3b067 1 = .ok (.aload_n 0, 1) := by decide +kernel
theorem dJ2_charAt_3b067_2 : decode cJ2_charAt_3b067 2 = .ok (.invokestatic 67, 3) := by decide +kernel
theorem dJ2_charAt_3b067_5 : decode cJ2_charAt_3b067 5 = .ok (.aload_n 0, 1) := by decide +kernel
theorem dJ2_charAt_3b067_6 : decode cJ2_charAt_3b067 6 = .ok (.iload_n 1, 1) := by decide +kernel
theorem dJ2_charAt_3b067_7 : decode cJ2_charAt_3b067 7 = .ok (.invokestatic 71, 3) := by decide +kernel
theorem dJ2_charAt_3b067_10 : decode cJ2_charAt_3b067 10 = .ok (.ireturn, 1) := by decide +kernel
theorem dJ2_checkIndex_2214a_0 : decode cJ2_checkIndex_2214a 0 = .ok (.iload_n 0, 1) := by decide +kernel
theorem dJ2_checkIndex_2214a_1 : decode cJ2_checkIndex_2214a 1 = .ok (.aload_n 1, 1) := by decide +kernel
theorem dJ2_checkIndex_2214a_2 : decode cJ2_checkIndex_2214a 2 = .ok (.invokestatic 48, 3) := by decide +kernel
theorem dJ2_checkIndex_2214a_5 : decode cJ2_checkIndex_2214a 5 = .ok (.invokestatic 414, 3) := by decide +kernel
theorem dJ2_checkIndex_2214a_8 : decode cJ2_checkIndex_2214a 8 = .ok (.return_, 1) := by decide +kernel
theorem dJ7_fill_53178_0 : decode cJ7_fill_53178 0 = .ok (.iconst 0, 1) := by decide +kernel
theorem dJ7_fill_53178_1 : decode cJ7_fill_53178 1 = .ok (.istore_n 2, 1) := by decide +kernel
theorem dJ7_fill_53178_2 : decode cJ7_fill_53178 2 = .ok (.aload_n 0, 1) := by decide +kernel
theorem dJ7_fill_53178_3 : decode cJ7_fill_53178 3 = .ok (.arraylength, 1) := by decide +kernel
theorem dJ7_fill_53178_4 : decode cJ7_fill_53178 4 = .ok (.istore_n 3, 1) := by decide +kernel
theorem dJ7_fill_53178_5 : decode cJ7_fill_53178 5 = .ok (.iload_n 2, 1) := by decide +kernel
theorem dJ7_fill_53178_6 : decode cJ7_fill_53178 6 = .ok (.iload_n 3, 1) := by decide +kernel
theorem dJ7_fill_53178_7 : decode cJ7_fill_53178 7 = .ok (.if_icmp .ge 13, 3) := by decide +kernel
theorem dJ7_fill_53178_10 : decode cJ7_fill_53178 10 = .ok (.aload_n 0, 1) := by decide +kernel
theorem dJ7_fill_53178_11 : decode cJ7_fill_53178 11 = .ok (.iload_n 2, 1) := by decide +kernel
theorem dJ7_fill_53178_12 : decode cJ7_fill_53178 12 = .ok (.iload_n 1, 1) := by decide +kernel
theorem dJ7_fill_53178_13 : decode cJ7_fill_53178 13 = .ok (.iastore, 1) := by decide +kernel
theorem dJ7_fill_53178_14 : decode cJ7_fill_53178 14 = .ok (.iinc 2 1, 3) := by decide +kernel
theorem dJ7_fill_53178_17 : decode cJ7_fill_53178 17 = .ok (.goto (-12), 3) := by decide +kernel
theorem dJ7_fill_53178_20 : decode cJ7_fill_53178 20 = .ok (.return_, 1) := by decide +kernel
theorem dJ3_checkIndex_8e157_0 : decode cJ3_checkIndex_8e157 0 = .ok (.iload_n 0, 1) := by decide +kernel
theorem dJ3_checkIndex_8e157_1 : decode cJ3_checkIndex_8e157 1 = .ok (.ifCond .lt 8, 3) := by decide +kernel
theorem dJ3_checkIndex_8e157_4 : decode cJ3_checkIndex_8e157 4 = .ok (.iload_n 0, 1) := by decide +kernel
theorem dJ3_checkIndex_8e157_5 : decode cJ3_checkIndex_8e157 5 = .ok (.iload_n 1, 1) := by decide +kernel
theorem dJ3_checkIndex_8e157_6 : decode cJ3_checkIndex_8e157 6 = .ok (.if_icmp .lt 10, 3) := by decide +kernel
theorem dJ3_checkIndex_8e157_9 : decode cJ3_checkIndex_8e157 9 = .ok (.aload_n 2, 1) := by decide +kernel
theorem dJ3_checkIndex_8e157_10 : decode cJ3_checkIndex_8e157 10 = .ok (.iload_n 0, 1) := by decide +kernel
theorem dJ3_checkIndex_8e157_11 : decode cJ3_checkIndex_8e157 11 = .ok (.iload_n 1, 1) := by decide +kernel
theorem dJ3_checkIndex_8e157_12 : decode cJ3_checkIndex_8e157 12 = .ok (.invokestatic 95, 3) := by decide +kernel
theorem dJ3_checkIndex_8e157_15 : decode cJ3_checkIndex_8e157 15 = .ok (.athrow, 1) := by decide +kernel
theorem dJ3_checkIndex_8e157_16 : decode cJ3_checkIndex_8e157 16 = .ok (.iload_n 0, 1) := by decide +kernel
theorem dJ3_checkIndex_8e157_17 : decode cJ3_checkIndex_8e157 17 = .ok (.ireturn, 1) := by decide +kernel
theorem dL_motion_0 : decode cL_motion 0 = .ok (.aload_n 3, 1) := by decide +kernel
theorem dL_motion_1 : decode cL_motion 1 = .ok (.iconst 0, 1) := by decide +kernel
theorem dL_motion_2 : decode cL_motion 2 = .ok (.aload_n 0, 1) := by decide +kernel
theorem dL_motion_3 : decode cL_motion 3 = .ok (.iload_n 1, 1) := by decide +kernel
theorem dL_motion_4 : decode cL_motion 4 = .ok (.iload_n 2, 1) := by decide +kernel
theorem dL_motion_5 : decode cL_motion 5 = .ok (.invokevirtual 7, 3) := by decide +kernel
theorem dL_motion_8 : decode cL_motion 8 = .ok (.i2l, 1) := by decide +kernel
theorem dL_motion_9 : decode cL_motion 9 = .ok (.lastore, 1) := by decide +kernel
theorem dL_motion_10 : decode cL_motion 10 = .ok (.goto 7, 3) := by decide +kernel
theorem dL_motion_13 : decode cL_motion 13 = .ok (.astore 4, 2) := by decide +kernel
theorem dL_motion_15 : decode cL_motion 15 = .ok (.iconst 1, 1) := by decide +kernel
theorem dL_motion_16 : decode cL_motion 16 = .ok (.ireturn, 1) := by decide +kernel
theorem dL_motion_17 : decode cL_motion 17 = .ok (.iconst 0, 1) := by decide +kernel
theorem dL_motion_18 : decode cL_motion 18 = .ok (.ireturn, 1) := by decide +kernel
theorem dL_weight_0 : decode cL_weight 0 = .ok (.aload_n 3, 1) := by decide +kernel
theorem dL_weight_1 : decode cL_weight 1 = .ok (.iconst 0, 1) := by decide +kernel
theorem dL_weight_2 : decode cL_weight 2 = .ok (.aload_n 0, 1) := by decide +kernel
theorem dL_weight_3 : decode cL_weight 3 = .ok (.iload_n 1, 1) := by decide +kernel
theorem dL_weight_4 : decode cL_weight 4 = .ok (.iload_n 2, 1) := by decide +kernel
theorem dL_weight_5 : decode cL_weight 5 = .ok (.invokevirtual 15, 3) := by decide +kernel
theorem dL_weight_8 : decode cL_weight 8 = .ok (.i2l, 1) := by decide +kernel
theorem dL_weight_9 : decode cL_weight 9 = .ok (.lastore, 1) := by decide +kernel
theorem dL_weight_10 : decode cL_weight 10 = .ok (.goto 7, 3) := by decide +kernel
theorem dL_weight_13 : decode cL_weight 13 = .ok (.astore 4, 2) := by decide +kernel
theorem dL_weight_15 : decode cL_weight 15 = .ok (.iconst 1, 1) := by decide +kernel
theorem dL_weight_16 : decode cL_weight 16 = .ok (.ireturn, 1) := by decide +kernel
theorem dL_weight_17 : decode cL_weight 17 = .ok (.iconst 0, 1) := by decide +kernel
theorem dL_weight_18 : decode cL_weight 18 = .ok (.ireturn, 1) := by decide +kernel
theorem dL_likes_0 : decode cL_likes 0 = .ok (.aload_n 3, 1) := by decide +kernel
theorem dL_likes_1 : decode cL_likes 1 = .ok (.iconst 0, 1) := by decide +kernel
theorem dL_likes_2 : decode cL_likes 2 = .ok (.aload_n 0, 1) := by decide +kernel
theorem dL_likes_3 : decode cL_likes 3 = .ok (.iload_n 1, 1) := by decide +kernel
theorem dL_likes_4 : decode cL_likes 4 = .ok (.iload_n 2, 1) := by decide +kernel
theorem dL_likes_5 : decode cL_likes 5 = .ok (.invokevirtual 18, 3) := by decide +kernel
theorem dL_likes_8 : decode cL_likes 8 = .ok (.i2l, 1) := by decide +kernel
theorem dL_likes_9 : decode cL_likes 9 = .ok (.lastore, 1) := by decide +kernel
theorem dL_likes_10 : decode cL_likes 10 = .ok (.goto 7, 3) := by decide +kernel
theorem dL_likes_13 : decode cL_likes 13 = .ok (.astore 4, 2) := by decide +kernel
theorem dL_likes_15 : decode cL_likes 15 = .ok (.iconst 1, 1) := by decide +kernel
theorem dL_likes_16 : decode cL_likes 16 = .ok (.ireturn, 1) := by decide +kernel
theorem dL_likes_17 : decode cL_likes 17 = .ok (.iconst 0, 1) := by decide +kernel
theorem dL_likes_18 : decode cL_likes 18 = .ok (.ireturn, 1) := by decide +kernel
theorem dL_law_0 : decode cL_law 0 = .ok (.new 8, 3) := by decide +kernel
theorem dL_law_3 : decode cL_law 3 = .ok (.dup, 1) := by decide +kernel
theorem dL_law_4 : decode cL_law 4 = .ok (.invokespecial 21, 3) := by decide +kernel
theorem dL_law_7 : decode cL_law 7 = .ok (.astore_n 1, 1) := by decide +kernel
theorem dL_law_8 : decode cL_law 8 = .ok (.new 22, 3) := by decide +kernel
theorem dL_law_11 : decode cL_law 11 = .ok (.dup, 1) := by decide +kernel
theorem dL_law_12 : decode cL_law 12 = .ok (.invokespecial 24, 3) := by decide +kernel
theorem dL_law_15 : decode cL_law 15 = .ok (.astore_n 2, 1) := by decide +kernel
theorem dL_law_16 : decode cL_law 16 = .ok (.iconst 1, 1) := by decide +kernel
theorem dL_law_17 : decode cL_law 17 = .ok (.newarray .long, 2) := by decide +kernel
theorem dL_law_19 : decode cL_law 19 = .ok (.astore_n 3, 1) := by decide +kernel
theorem dL_law_20 : decode cL_law 20 = .ok (.iconst 0, 1) := by decide +kernel
theorem dL_law_21 : decode cL_law 21 = .ok (.istore 4, 2) := by decide +kernel
theorem dL_law_23 : decode cL_law 23 = .ok (.iload 4, 2) := by decide +kernel
theorem dL_law_25 : decode cL_law 25 = .ok (.aload_n 0, 1) := by decide +kernel
theorem dL_law_26 : decode cL_law 26 = .ok (.arraylength, 1) := by decide +kernel
theorem dL_law_27 : decode cL_law 27 = .ok (.bipush 6, 2) := by decide +kernel
theorem dL_law_29 : decode cL_law 29 = .ok (.isub, 1) := by decide +kernel
theorem dL_law_30 : decode cL_law 30 = .ok (.if_icmp .gt 919, 3) := by decide +kernel
theorem dL_law_33 : decode cL_law 33 = .ok (.aload_n 0, 1) := by decide +kernel
theorem dL_law_34 : decode cL_law 34 = .ok (.iload 4, 2) := by decide +kernel
theorem dL_law_36 : decode cL_law 36 = .ok (.iaload, 1) := by decide +kernel
theorem dL_law_37 : decode cL_law 37 = .ok (.bipush 31, 2) := by decide +kernel
theorem dL_law_39 : decode cL_law 39 = .ok (.iand, 1) := by decide +kernel
theorem dL_law_40 : decode cL_law 40 = .ok (.tableswitch 903 0 21 #[104, 177, 202, 215, 228, 277, 302, 327, 395, 463, 531, 556, 581, 606, 643, 680, 717, 742, 791, 828, 853, 866], 104) := by decide +kernel
theorem dL_law_144 : decode cL_law 144 = .ok (.aload_n 1, 1) := by decide +kernel
theorem dL_law_145 : decode cL_law 145 = .ok (.aload_n 0, 1) := by decide +kernel
theorem dL_law_146 : decode cL_law 146 = .ok (.iload 4, 2) := by decide +kernel
theorem dL_law_148 : decode cL_law 148 = .ok (.iconst 1, 1) := by decide +kernel
theorem dL_law_149 : decode cL_law 149 = .ok (.iadd, 1) := by decide +kernel
theorem dL_law_150 : decode cL_law 150 = .ok (.iaload, 1) := by decide +kernel
theorem dL_law_151 : decode cL_law 151 = .ok (.aload_n 0, 1) := by decide +kernel
theorem dL_law_152 : decode cL_law 152 = .ok (.iload 4, 2) := by decide +kernel
theorem dL_law_154 : decode cL_law 154 = .ok (.iconst 2, 1) := by decide +kernel
theorem dL_law_155 : decode cL_law 155 = .ok (.iadd, 1) := by decide +kernel
theorem dL_law_156 : decode cL_law 156 = .ok (.iaload, 1) := by decide +kernel
theorem dL_law_157 : decode cL_law 157 = .ok (.aload_n 0, 1) := by decide +kernel
theorem dL_law_158 : decode cL_law 158 = .ok (.iload 4, 2) := by decide +kernel
theorem dL_law_160 : decode cL_law 160 = .ok (.iconst 3, 1) := by decide +kernel
theorem dL_law_161 : decode cL_law 161 = .ok (.iadd, 1) := by decide +kernel
theorem dL_law_162 : decode cL_law 162 = .ok (.iaload, 1) := by decide +kernel
theorem dL_law_163 : decode cL_law 163 = .ok (.aload_n 0, 1) := by decide +kernel
theorem dL_law_164 : decode cL_law 164 = .ok (.iload 4, 2) := by decide +kernel
theorem dL_law_166 : decode cL_law 166 = .ok (.iconst 4, 1) := by decide +kernel
theorem dL_law_167 : decode cL_law 167 = .ok (.iadd, 1) := by decide +kernel
theorem dL_law_168 : decode cL_law 168 = .ok (.iaload, 1) := by decide +kernel
theorem dL_law_169 : decode cL_law 169 = .ok (.aload_n 0, 1) := by decide +kernel
theorem dL_law_170 : decode cL_law 170 = .ok (.iload 4, 2) := by decide +kernel
theorem dL_law_172 : decode cL_law 172 = .ok (.iconst 5, 1) := by decide +kernel
theorem dL_law_173 : decode cL_law 173 = .ok (.iadd, 1) := by decide +kernel
theorem dL_law_174 : decode cL_law 174 = .ok (.iaload, 1) := by decide +kernel
theorem dL_law_175 : decode cL_law 175 = .ok (.invokevirtual 25, 3) := by decide +kernel
theorem dL_law_178 : decode cL_law 178 = .ok (.aload_n 2, 1) := by decide +kernel
theorem dL_law_179 : decode cL_law 179 = .ok (.aload_n 0, 1) := by decide +kernel
theorem dL_law_180 : decode cL_law 180 = .ok (.iload 4, 2) := by decide +kernel
theorem dL_law_182 : decode cL_law 182 = .ok (.iconst 1, 1) := by decide +kernel
theorem dL_law_183 : decode cL_law 183 = .ok (.iadd, 1) := by decide +kernel
theorem dL_law_184 : decode cL_law 184 = .ok (.iaload, 1) := by decide +kernel
theorem dL_law_185 : decode cL_law 185 = .ok (.aload_n 0, 1) := by decide +kernel
theorem dL_law_186 : decode cL_law 186 = .ok (.iload 4, 2) := by decide +kernel
theorem dL_law_188 : decode cL_law 188 = .ok (.iconst 2, 1) := by decide +kernel
theorem dL_law_189 : decode cL_law 189 = .ok (.iadd, 1) := by decide +kernel
theorem dL_law_190 : decode cL_law 190 = .ok (.iaload, 1) := by decide +kernel
theorem dL_law_191 : decode cL_law 191 = .ok (.aload_n 0, 1) := by decide +kernel
theorem dL_law_192 : decode cL_law 192 = .ok (.iload 4, 2) := by decide +kernel
theorem dL_law_194 : decode cL_law 194 = .ok (.iconst 3, 1) := by decide +kernel
theorem dL_law_195 : decode cL_law 195 = .ok (.iadd, 1) := by decide +kernel
theorem dL_law_196 : decode cL_law 196 = .ok (.iaload, 1) := by decide +kernel
theorem dL_law_197 : decode cL_law 197 = .ok (.aload_n 0, 1) := by decide +kernel
theorem dL_law_198 : decode cL_law 198 = .ok (.iload 4, 2) := by decide +kernel
theorem dL_law_200 : decode cL_law 200 = .ok (.iconst 4, 1) := by decide +kernel
theorem dL_law_201 : decode cL_law 201 = .ok (.iadd, 1) := by decide +kernel
theorem dL_law_202 : decode cL_law 202 = .ok (.iaload, 1) := by decide +kernel
theorem dL_law_203 : decode cL_law 203 = .ok (.aload_n 0, 1) := by decide +kernel
theorem dL_law_204 : decode cL_law 204 = .ok (.iload 4, 2) := by decide +kernel
theorem dL_law_206 : decode cL_law 206 = .ok (.iconst 5, 1) := by decide +kernel
theorem dL_law_207 : decode cL_law 207 = .ok (.iadd, 1) := by decide +kernel
theorem dL_law_208 : decode cL_law 208 = .ok (.iaload, 1) := by decide +kernel
theorem dL_law_209 : decode cL_law 209 = .ok (.invokevirtual 29, 3) := by decide +kernel
end
section
theorem dL_law_212 : decode cL_law 212 = .ok (.if_icmp .eq 731, 3) := by decide +kernel
theorem dL_law_215 : decode cL_law 215 = .ok (.iconst 0, 1) := by decide +kernel
theorem dL_law_216 : decode cL_law 216 = .ok (.ireturn, 1) := by decide +kernel
theorem dL_law_217 : decode cL_law 217 = .ok (.aload_n 1, 1) := by decide +kernel
theorem dL_law_218 : decode cL_law 218 = .ok (.aload_n 0, 1) := by decide +kernel
theorem dL_law_219 : decode cL_law 219 = .ok (.iload 4, 2) := by decide +kernel
theorem dL_law_221 : decode cL_law 221 = .ok (.iconst 1, 1) := by decide +kernel
theorem dL_law_222 : decode cL_law 222 = .ok (.iadd, 1) := by decide +kernel
theorem dL_law_223 : decode cL_law 223 = .ok (.iaload, 1) := by decide +kernel
theorem dL_law_224 : decode cL_law 224 = .ok (.invokevirtual 30, 3) := by decide +kernel
theorem dL_law_227 : decode cL_law 227 = .ok (.aload_n 2, 1) := by decide +kernel
theorem dL_law_228 : decode cL_law 228 = .ok (.aload_n 0, 1) := by decide +kernel
theorem dL_law_229 : decode cL_law 229 = .ok (.iload 4, 2) := by decide +kernel
theorem dL_law_231 : decode cL_law 231 = .ok (.iconst 1, 1) := by decide +kernel
theorem dL_law_232 : decode cL_law 232 = .ok (.iadd, 1) := by decide +kernel
theorem dL_law_233 : decode cL_law 233 = .ok (.iaload, 1) := by decide +kernel
theorem dL_law_234 : decode cL_law 234 = .ok (.invokevirtual 34, 3) := by decide +kernel
theorem dL_law_237 : decode cL_law 237 = .ok (.if_icmp .eq 706, 3) := by decide +kernel
theorem dL_law_240 : decode cL_law 240 = .ok (.iconst 0, 1) := by decide +kernel
theorem dL_law_241 : decode cL_law 241 = .ok (.ireturn, 1) := by decide +kernel
theorem dL_law_242 : decode cL_law 242 = .ok (.aload_n 1, 1) := by decide +kernel
theorem dL_law_243 : decode cL_law 243 = .ok (.invokevirtual 35, 3) := by decide +kernel
theorem dL_law_246 : decode cL_law 246 = .ok (.aload_n 2, 1) := by decide +kernel
theorem dL_law_247 : decode cL_law 247 = .ok (.invokevirtual 39, 3) := by decide +kernel
theorem dL_law_250 : decode cL_law 250 = .ok (.if_icmp .eq 693, 3) := by decide +kernel
theorem dL_law_253 : decode cL_law 253 = .ok (.iconst 0, 1) := by decide +kernel
theorem dL_law_254 : decode cL_law 254 = .ok (.ireturn, 1) := by decide +kernel
theorem dL_law_255 : decode cL_law 255 = .ok (.aload_n 1, 1) := by decide +kernel
theorem dL_law_256 : decode cL_law 256 = .ok (.invokevirtual 40, 3) := by decide +kernel
theorem dL_law_259 : decode cL_law 259 = .ok (.aload_n 2, 1) := by decide +kernel
theorem dL_law_260 : decode cL_law 260 = .ok (.invokevirtual 43, 3) := by decide +kernel
theorem dL_law_263 : decode cL_law 263 = .ok (.if_icmp .eq 680, 3) := by decide +kernel
theorem dL_law_266 : decode cL_law 266 = .ok (.iconst 0, 1) := by decide +kernel
theorem dL_law_267 : decode cL_law 267 = .ok (.ireturn, 1) := by decide +kernel
theorem dL_law_268 : decode cL_law 268 = .ok (.aload_n 1, 1) := by decide +kernel
theorem dL_law_269 : decode cL_law 269 = .ok (.aload_n 0, 1) := by decide +kernel
theorem dL_law_270 : decode cL_law 270 = .ok (.iload 4, 2) := by decide +kernel
theorem dL_law_272 : decode cL_law 272 = .ok (.iconst 1, 1) := by decide +kernel
theorem dL_law_273 : decode cL_law 273 = .ok (.iadd, 1) := by decide +kernel
theorem dL_law_274 : decode cL_law 274 = .ok (.iaload, 1) := by decide +kernel
theorem dL_law_275 : decode cL_law 275 = .ok (.aload_n 0, 1) := by decide +kernel
theorem dL_law_276 : decode cL_law 276 = .ok (.iload 4, 2) := by decide +kernel
theorem dL_law_278 : decode cL_law 278 = .ok (.iconst 2, 1) := by decide +kernel
theorem dL_law_279 : decode cL_law 279 = .ok (.iadd, 1) := by decide +kernel
theorem dL_law_280 : decode cL_law 280 = .ok (.iaload, 1) := by decide +kernel
theorem dL_law_281 : decode cL_law 281 = .ok (.aload_n 0, 1) := by decide +kernel
theorem dL_law_282 : decode cL_law 282 = .ok (.iload 4, 2) := by decide +kernel
theorem dL_law_284 : decode cL_law 284 = .ok (.iconst 3, 1) := by decide +kernel
theorem dL_law_285 : decode cL_law 285 = .ok (.iadd, 1) := by decide +kernel
theorem dL_law_286 : decode cL_law 286 = .ok (.iaload, 1) := by decide +kernel
theorem dL_law_287 : decode cL_law 287 = .ok (.invokevirtual 44, 3) := by decide +kernel
theorem dL_law_290 : decode cL_law 290 = .ok (.aload_n 2, 1) := by decide +kernel
theorem dL_law_291 : decode cL_law 291 = .ok (.aload_n 0, 1) := by decide +kernel
theorem dL_law_292 : decode cL_law 292 = .ok (.iload 4, 2) := by decide +kernel
theorem dL_law_294 : decode cL_law 294 = .ok (.iconst 1, 1) := by decide +kernel
theorem dL_law_295 : decode cL_law 295 = .ok (.iadd, 1) := by decide +kernel
theorem dL_law_296 : decode cL_law 296 = .ok (.iaload, 1) := by decide +kernel
theorem dL_law_297 : decode cL_law 297 = .ok (.aload_n 0, 1) := by decide +kernel
theorem dL_law_298 : decode cL_law 298 = .ok (.iload 4, 2) := by decide +kernel
theorem dL_law_300 : decode cL_law 300 = .ok (.iconst 2, 1) := by decide +kernel
theorem dL_law_301 : decode cL_law 301 = .ok (.iadd, 1) := by decide +kernel
theorem dL_law_302 : decode cL_law 302 = .ok (.iaload, 1) := by decide +kernel
theorem dL_law_303 : decode cL_law 303 = .ok (.aload_n 0, 1) := by decide +kernel
theorem dL_law_304 : decode cL_law 304 = .ok (.iload 4, 2) := by decide +kernel
theorem dL_law_306 : decode cL_law 306 = .ok (.iconst 3, 1) := by decide +kernel
theorem dL_law_307 : decode cL_law 307 = .ok (.iadd, 1) := by decide +kernel
theorem dL_law_308 : decode cL_law 308 = .ok (.iaload, 1) := by decide +kernel
theorem dL_law_309 : decode cL_law 309 = .ok (.invokevirtual 48, 3) := by decide +kernel
theorem dL_law_312 : decode cL_law 312 = .ok (.if_icmp .eq 631, 3) := by decide +kernel
theorem dL_law_315 : decode cL_law 315 = .ok (.iconst 0, 1) := by decide +kernel
theorem dL_law_316 : decode cL_law 316 = .ok (.ireturn, 1) := by decide +kernel
theorem dL_law_317 : decode cL_law 317 = .ok (.aload_n 1, 1) := by decide +kernel
theorem dL_law_318 : decode cL_law 318 = .ok (.aload_n 0, 1) := by decide +kernel
theorem dL_law_319 : decode cL_law 319 = .ok (.iload 4, 2) := by decide +kernel
theorem dL_law_321 : decode cL_law 321 = .ok (.iconst 1, 1) := by decide +kernel
theorem dL_law_322 : decode cL_law 322 = .ok (.iadd, 1) := by decide +kernel
theorem dL_law_323 : decode cL_law 323 = .ok (.iaload, 1) := by decide +kernel
theorem dL_law_324 : decode cL_law 324 = .ok (.invokevirtual 49, 3) := by decide +kernel
theorem dL_law_327 : decode cL_law 327 = .ok (.aload_n 2, 1) := by decide +kernel
theorem dL_law_328 : decode cL_law 328 = .ok (.aload_n 0, 1) := by decide +kernel
theorem dL_law_329 : decode cL_law 329 = .ok (.iload 4, 2) := by decide +kernel
theorem dL_law_331 : decode cL_law 331 = .ok (.iconst 1, 1) := by decide +kernel
theorem dL_law_332 : decode cL_law 332 = .ok (.iadd, 1) := by decide +kernel
theorem dL_law_333 : decode cL_law 333 = .ok (.iaload, 1) := by decide +kernel
theorem dL_law_334 : decode cL_law 334 = .ok (.invokevirtual 52, 3) := by decide +kernel
theorem dL_law_337 : decode cL_law 337 = .ok (.if_icmp .eq 606, 3) := by decide +kernel
theorem dL_law_340 : decode cL_law 340 = .ok (.iconst 0, 1) := by decide +kernel
theorem dL_law_341 : decode cL_law 341 = .ok (.ireturn, 1) := by decide +kernel
theorem dL_law_342 : decode cL_law 342 = .ok (.aload_n 1, 1) := by decide +kernel
theorem dL_law_343 : decode cL_law 343 = .ok (.aload_n 0, 1) := by decide +kernel
theorem dL_law_344 : decode cL_law 344 = .ok (.iload 4, 2) := by decide +kernel
theorem dL_law_346 : decode cL_law 346 = .ok (.iconst 1, 1) := by decide +kernel
theorem dL_law_347 : decode cL_law 347 = .ok (.iadd, 1) := by decide +kernel
theorem dL_law_348 : decode cL_law 348 = .ok (.iaload, 1) := by decide +kernel
theorem dL_law_349 : decode cL_law 349 = .ok (.invokevirtual 53, 3) := by decide +kernel
theorem dL_law_352 : decode cL_law 352 = .ok (.aload_n 2, 1) := by decide +kernel
theorem dL_law_353 : decode cL_law 353 = .ok (.aload_n 0, 1) := by decide +kernel
theorem dL_law_354 : decode cL_law 354 = .ok (.iload 4, 2) := by decide +kernel
theorem dL_law_356 : decode cL_law 356 = .ok (.iconst 1, 1) := by decide +kernel
theorem dL_law_357 : decode cL_law 357 = .ok (.iadd, 1) := by decide +kernel
theorem dL_law_358 : decode cL_law 358 = .ok (.iaload, 1) := by decide +kernel
theorem dL_law_359 : decode cL_law 359 = .ok (.invokevirtual 57, 3) := by decide +kernel
theorem dL_law_362 : decode cL_law 362 = .ok (.if_icmp .eq 581, 3) := by decide +kernel
theorem dL_law_365 : decode cL_law 365 = .ok (.iconst 0, 1) := by decide +kernel
theorem dL_law_366 : decode cL_law 366 = .ok (.ireturn, 1) := by decide +kernel
theorem dL_law_367 : decode cL_law 367 = .ok (.aload_n 1, 1) := by decide +kernel
theorem dL_law_368 : decode cL_law 368 = .ok (.aload_n 0, 1) := by decide +kernel
theorem dL_law_369 : decode cL_law 369 = .ok (.iload 4, 2) := by decide +kernel
theorem dL_law_371 : decode cL_law 371 = .ok (.iconst 1, 1) := by decide +kernel
theorem dL_law_372 : decode cL_law 372 = .ok (.iadd, 1) := by decide +kernel
theorem dL_law_373 : decode cL_law 373 = .ok (.iaload, 1) := by decide +kernel
theorem dL_law_374 : decode cL_law 374 = .ok (.aload_n 0, 1) := by decide +kernel
theorem dL_law_375 : decode cL_law 375 = .ok (.iload 4, 2) := by decide +kernel
theorem dL_law_377 : decode cL_law 377 = .ok (.iconst 2, 1) := by decide +kernel
theorem dL_law_378 : decode cL_law 378 = .ok (.iadd, 1) := by decide +kernel
theorem dL_law_379 : decode cL_law 379 = .ok (.iaload, 1) := by decide +kernel
theorem dL_law_380 : decode cL_law 380 = .ok (.aload_n 3, 1) := by decide +kernel
theorem dL_law_381 : decode cL_law 381 = .ok (.invokestatic 58, 3) := by decide +kernel
theorem dL_law_384 : decode cL_law 384 = .ok (.istore 5, 2) := by decide +kernel
theorem dL_law_386 : decode cL_law 386 = .ok (.aload_n 2, 1) := by decide +kernel
theorem dL_law_387 : decode cL_law 387 = .ok (.aload_n 0, 1) := by decide +kernel
theorem dL_law_388 : decode cL_law 388 = .ok (.iload 4, 2) := by decide +kernel
theorem dL_law_390 : decode cL_law 390 = .ok (.iconst 1, 1) := by decide +kernel
theorem dL_law_391 : decode cL_law 391 = .ok (.iadd, 1) := by decide +kernel
theorem dL_law_392 : decode cL_law 392 = .ok (.iaload, 1) := by decide +kernel
theorem dL_law_393 : decode cL_law 393 = .ok (.aload_n 0, 1) := by decide +kernel
theorem dL_law_394 : decode cL_law 394 = .ok (.iload 4, 2) := by decide +kernel
theorem dL_law_396 : decode cL_law 396 = .ok (.iconst 2, 1) := by decide +kernel
theorem dL_law_397 : decode cL_law 397 = .ok (.iadd, 1) := by decide +kernel
theorem dL_law_398 : decode cL_law 398 = .ok (.iaload, 1) := by decide +kernel
theorem dL_law_399 : decode cL_law 399 = .ok (.invokevirtual 63, 3) := by decide +kernel
theorem dL_law_402 : decode cL_law 402 = .ok (.istore 6, 2) := by decide +kernel
theorem dL_law_404 : decode cL_law 404 = .ok (.aload_n 2, 1) := by decide +kernel
theorem dL_law_405 : decode cL_law 405 = .ok (.invokevirtual 64, 3) := by decide +kernel
theorem dL_law_408 : decode cL_law 408 = .ok (.iload 5, 2) := by decide +kernel
theorem dL_law_410 : decode cL_law 410 = .ok (.if_icmp .eq 5, 3) := by decide +kernel
theorem dL_law_413 : decode cL_law 413 = .ok (.iconst 0, 1) := by decide +kernel
theorem dL_law_414 : decode cL_law 414 = .ok (.ireturn, 1) := by decide +kernel
theorem dL_law_415 : decode cL_law 415 = .ok (.iload 5, 2) := by decide +kernel
theorem dL_law_417 : decode cL_law 417 = .ok (.ifCond .ne 15, 3) := by decide +kernel
theorem dL_law_420 : decode cL_law 420 = .ok (.aload_n 3, 1) := by decide +kernel
theorem dL_law_421 : decode cL_law 421 = .ok (.iconst 0, 1) := by decide +kernel
theorem dL_law_422 : decode cL_law 422 = .ok (.laload, 1) := by decide +kernel
theorem dL_law_423 : decode cL_law 423 = .ok (.iload 6, 2) := by decide +kernel
theorem dL_law_425 : decode cL_law 425 = .ok (.i2l, 1) := by decide +kernel
theorem dL_law_426 : decode cL_law 426 = .ok (.lcmp, 1) := by decide +kernel
theorem dL_law_427 : decode cL_law 427 = .ok (.ifCond .eq 5, 3) := by decide +kernel
theorem dL_law_430 : decode cL_law 430 = .ok (.iconst 0, 1) := by decide +kernel
theorem dL_law_431 : decode cL_law 431 = .ok (.ireturn, 1) := by decide +kernel
theorem dL_law_432 : decode cL_law 432 = .ok (.goto 511, 3) := by decide +kernel
theorem dL_law_435 : decode cL_law 435 = .ok (.aload_n 1, 1) := by decide +kernel
theorem dL_law_436 : decode cL_law 436 = .ok (.aload_n 0, 1) := by decide +kernel
theorem dL_law_437 : decode cL_law 437 = .ok (.iload 4, 2) := by decide +kernel
theorem dL_law_439 : decode cL_law 439 = .ok (.iconst 1, 1) := by decide +kernel
theorem dL_law_440 : decode cL_law 440 = .ok (.iadd, 1) := by decide +kernel
theorem dL_law_441 : decode cL_law 441 = .ok (.iaload, 1) := by decide +kernel
theorem dL_law_442 : decode cL_law 442 = .ok (.aload_n 0, 1) := by decide +kernel
theorem dL_law_443 : decode cL_law 443 = .ok (.iload 4, 2) := by decide +kernel
theorem dL_law_445 : decode cL_law 445 = .ok (.iconst 2, 1) := by decide +kernel
theorem dL_law_446 : decode cL_law 446 = .ok (.iadd, 1) := by decide +kernel
theorem dL_law_447 : decode cL_law 447 = .ok (.iaload, 1) := by decide +kernel
theorem dL_law_448 : decode cL_law 448 = .ok (.aload_n 3, 1) := by decide +kernel
theorem dL_law_449 : decode cL_law 449 = .ok (.invokestatic 67, 3) := by decide +kernel
theorem dL_law_452 : decode cL_law 452 = .ok (.istore 5, 2) := by decide +kernel
theorem dL_law_454 : decode cL_law 454 = .ok (.aload_n 2, 1) := by decide +kernel
theorem dL_law_455 : decode cL_law 455 = .ok (.aload_n 0, 1) := by decide +kernel
theorem dL_law_456 : decode cL_law 456 = .ok (.iload 4, 2) := by decide +kernel
theorem dL_law_458 : decode cL_law 458 = .ok (.iconst 1, 1) := by decide +kernel
theorem dL_law_459 : decode cL_law 459 = .ok (.iadd, 1) := by decide +kernel
theorem dL_law_460 : decode cL_law 460 = .ok (.iaload, 1) := by decide +kernel
theorem dL_law_461 : decode cL_law 461 = .ok (.aload_n 0, 1) := by decide +kernel
theorem dL_law_462 : decode cL_law 462 = .ok (.iload 4, 2) := by decide +kernel
theorem dL_law_464 : decode cL_law 464 = .ok (.iconst 2, 1) := by decide +kernel
theorem dL_law_465 : decode cL_law 465 = .ok (.iadd, 1) := by decide +kernel
theorem dL_law_466 : decode cL_law 466 = .ok (.iaload, 1) := by decide +kernel
theorem dL_law_467 : decode cL_law 467 = .ok (.invokevirtual 69, 3) := by decide +kernel
theorem dL_law_470 : decode cL_law 470 = .ok (.istore 6, 2) := by decide +kernel
theorem dL_law_472 : decode cL_law 472 = .ok (.aload_n 2, 1) := by decide +kernel
theorem dL_law_473 : decode cL_law 473 = .ok (.invokevirtual 64, 3) := by decide +kernel
theorem dL_law_476 : decode cL_law 476 = .ok (.iload 5, 2) := by decide +kernel
theorem dL_law_478 : decode cL_law 478 = .ok (.if_icmp .eq 5, 3) := by decide +kernel
theorem dL_law_481 : decode cL_law 481 = .ok (.iconst 0, 1) := by decide +kernel
theorem dL_law_482 : decode cL_law 482 = .ok (.ireturn, 1) := by decide +kernel
theorem dL_law_483 : decode cL_law 483 = .ok (.iload 5, 2) := by decide +kernel
theorem dL_law_485 : decode cL_law 485 = .ok (.ifCond .ne 15, 3) := by decide +kernel
theorem dL_law_488 : decode cL_law 488 = .ok (.aload_n 3, 1) := by decide +kernel
theorem dL_law_489 : decode cL_law 489 = .ok (.iconst 0, 1) := by decide +kernel
theorem dL_law_490 : decode cL_law 490 = .ok (.laload, 1) := by decide +kernel
theorem dL_law_491 : decode cL_law 491 = .ok (.iload 6, 2) := by decide +kernel
theorem dL_law_493 : decode cL_law 493 = .ok (.i2l, 1) := by decide +kernel
theorem dL_law_494 : decode cL_law 494 = .ok (.lcmp, 1) := by decide +kernel
theorem dL_law_495 : decode cL_law 495 = .ok (.ifCond .eq 5, 3) := by decide +kernel
theorem dL_law_498 : decode cL_law 498 = .ok (.iconst 0, 1) := by decide +kernel
theorem dL_law_499 : decode cL_law 499 = .ok (.ireturn, 1) := by decide +kernel
theorem dL_law_500 : decode cL_law 500 = .ok (.goto 443, 3) := by decide +kernel
theorem dL_law_503 : decode cL_law 503 = .ok (.aload_n 1, 1) := by decide +kernel
theorem dL_law_504 : decode cL_law 504 = .ok (.aload_n 0, 1) := by decide +kernel
theorem dL_law_505 : decode cL_law 505 = .ok (.iload 4, 2) := by decide +kernel
theorem dL_law_507 : decode cL_law 507 = .ok (.iconst 1, 1) := by decide +kernel
theorem dL_law_508 : decode cL_law 508 = .ok (.iadd, 1) := by decide +kernel
theorem dL_law_509 : decode cL_law 509 = .ok (.iaload, 1) := by decide +kernel
theorem dL_law_510 : decode cL_law 510 = .ok (.aload_n 0, 1) := by decide +kernel
theorem dL_law_511 : decode cL_law 511 = .ok (.iload 4, 2) := by decide +kernel
theorem dL_law_513 : decode cL_law 513 = .ok (.iconst 2, 1) := by decide +kernel
theorem dL_law_514 : decode cL_law 514 = .ok (.iadd, 1) := by decide +kernel
theorem dL_law_515 : decode cL_law 515 = .ok (.iaload, 1) := by decide +kernel
theorem dL_law_516 : decode cL_law 516 = .ok (.aload_n 3, 1) := by decide +kernel
theorem dL_law_517 : decode cL_law 517 = .ok (.invokestatic 70, 3) := by decide +kernel
theorem dL_law_520 : decode cL_law 520 = .ok (.istore 5, 2) := by decide +kernel
theorem dL_law_522 : decode cL_law 522 = .ok (.aload_n 2, 1) := by decide +kernel
theorem dL_law_523 : decode cL_law 523 = .ok (.aload_n 0, 1) := by decide +kernel
theorem dL_law_524 : decode cL_law 524 = .ok (.iload 4, 2) := by decide +kernel
theorem dL_law_526 : decode cL_law 526 = .ok (.iconst 1, 1) := by decide +kernel
theorem dL_law_527 : decode cL_law 527 = .ok (.iadd, 1) := by decide +kernel
theorem dL_law_528 : decode cL_law 528 = .ok (.iaload, 1) := by decide +kernel
theorem dL_law_529 : decode cL_law 529 = .ok (.aload_n 0, 1) := by decide +kernel
theorem dL_law_530 : decode cL_law 530 = .ok (.iload 4, 2) := by decide +kernel
theorem dL_law_532 : decode cL_law 532 = .ok (.iconst 2, 1) := by decide +kernel
theorem dL_law_533 : decode cL_law 533 = .ok (.iadd, 1) := by decide +kernel
theorem dL_law_534 : decode cL_law 534 = .ok (.iaload, 1) := by decide +kernel
theorem dL_law_535 : decode cL_law 535 = .ok (.invokevirtual 72, 3) := by decide +kernel
theorem dL_law_538 : decode cL_law 538 = .ok (.istore 6, 2) := by decide +kernel
theorem dL_law_540 : decode cL_law 540 = .ok (.aload_n 2, 1) := by decide +kernel
theorem dL_law_541 : decode cL_law 541 = .ok (.invokevirtual 64, 3) := by decide +kernel
theorem dL_law_544 : decode cL_law 544 = .ok (.iload 5, 2) := by decide +kernel
theorem dL_law_546 : decode cL_law 546 = .ok (.if_icmp .eq 5, 3) := by decide +kernel
theorem dL_law_549 : decode cL_law 549 = .ok (.iconst 0, 1) := by decide +kernel
theorem dL_law_550 : decode cL_law 550 = .ok (.ireturn, 1) := by decide +kernel
theorem dL_law_551 : decode cL_law 551 = .ok (.iload 5, 2) := by decide +kernel
theorem dL_law_553 : decode cL_law 553 = .ok (.ifCond .ne 15, 3) := by decide +kernel
theorem dL_law_556 : decode cL_law 556 = .ok (.aload_n 3, 1) := by decide +kernel
theorem dL_law_557 : decode cL_law 557 = .ok (.iconst 0, 1) := by decide +kernel
theorem dL_law_558 : decode cL_law 558 = .ok (.laload, 1) := by decide +kernel
theorem dL_law_559 : decode cL_law 559 = .ok (.iload 6, 2) := by decide +kernel
theorem dL_law_561 : decode cL_law 561 = .ok (.i2l, 1) := by decide +kernel
theorem dL_law_562 : decode cL_law 562 = .ok (.lcmp, 1) := by decide +kernel
theorem dL_law_563 : decode cL_law 563 = .ok (.ifCond .eq 5, 3) := by decide +kernel
theorem dL_law_566 : decode cL_law 566 = .ok (.iconst 0, 1) := by decide +kernel
theorem dL_law_567 : decode cL_law 567 = .ok (.ireturn, 1) := by decide +kernel
theorem dL_law_568 : decode cL_law 568 = .ok (.goto 375, 3) := by decide +kernel
theorem dL_law_571 : decode cL_law 571 = .ok (.aload_n 1, 1) := by decide +kernel
theorem dL_law_572 : decode cL_law 572 = .ok (.aload_n 0, 1) := by decide +kernel
theorem dL_law_573 : decode cL_law 573 = .ok (.iload 4, 2) := by decide +kernel
theorem dL_law_575 : decode cL_law 575 = .ok (.iconst 1, 1) := by decide +kernel
theorem dL_law_576 : decode cL_law 576 = .ok (.iadd, 1) := by decide +kernel
theorem dL_law_577 : decode cL_law 577 = .ok (.iaload, 1) := by decide +kernel
theorem dL_law_578 : decode cL_law 578 = .ok (.invokevirtual 73, 3) := by decide +kernel
theorem dL_law_581 : decode cL_law 581 = .ok (.aload_n 2, 1) := by decide +kernel
theorem dL_law_582 : decode cL_law 582 = .ok (.aload_n 0, 1) := by decide +kernel
theorem dL_law_583 : decode cL_law 583 = .ok (.iload 4, 2) := by decide +kernel
theorem dL_law_585 : decode cL_law 585 = .ok (.iconst 1, 1) := by decide +kernel
theorem dL_law_586 : decode cL_law 586 = .ok (.iadd, 1) := by decide +kernel
theorem dL_law_587 : decode cL_law 587 = .ok (.iaload, 1) := by decide +kernel
theorem dL_law_588 : decode cL_law 588 = .ok (.invokevirtual 76, 3) := by decide +kernel
theorem dL_law_591 : decode cL_law 591 = .ok (.if_icmp .eq 352, 3) := by decide +kernel
theorem dL_law_594 : decode cL_law 594 = .ok (.iconst 0, 1) := by decide +kernel
theorem dL_law_595 : decode cL_law 595 = .ok (.ireturn, 1) := by decide +kernel
theorem dL_law_596 : decode cL_law 596 = .ok (.aload_n 1, 1) := by decide +kernel
theorem dL_law_597 : decode cL_law 597 = .ok (.aload_n 0, 1) := by decide +kernel
theorem dL_law_598 : decode cL_law 598 = .ok (.iload 4, 2) := by decide +kernel
theorem dL_law_600 : decode cL_law 600 = .ok (.iconst 1, 1) := by decide +kernel
theorem dL_law_601 : decode cL_law 601 = .ok (.iadd, 1) := by decide +kernel
theorem dL_law_602 : decode cL_law 602 = .ok (.iaload, 1) := by decide +kernel
theorem dL_law_603 : decode cL_law 603 = .ok (.invokevirtual 77, 3) := by decide +kernel
theorem dL_law_606 : decode cL_law 606 = .ok (.aload_n 2, 1) := by decide +kernel
theorem dL_law_607 : decode cL_law 607 = .ok (.aload_n 0, 1) := by decide +kernel
theorem dL_law_608 : decode cL_law 608 = .ok (.iload 4, 2) := by decide +kernel
theorem dL_law_610 : decode cL_law 610 = .ok (.iconst 1, 1) := by decide +kernel
theorem dL_law_611 : decode cL_law 611 = .ok (.iadd, 1) := by decide +kernel
theorem dL_law_612 : decode cL_law 612 = .ok (.iaload, 1) := by decide +kernel
theorem dL_law_613 : decode cL_law 613 = .ok (.invokevirtual 80, 3) := by decide +kernel
theorem dL_law_616 : decode cL_law 616 = .ok (.if_icmp .eq 327, 3) := by decide +kernel
theorem dL_law_619 : decode cL_law 619 = .ok (.iconst 0, 1) := by decide +kernel
theorem dL_law_620 : decode cL_law 620 = .ok (.ireturn, 1) := by decide +kernel
theorem dL_law_621 : decode cL_law 621 = .ok (.aload_n 1, 1) := by decide +kernel
theorem dL_law_622 : decode cL_law 622 = .ok (.aload_n 0, 1) := by decide +kernel
theorem dL_law_623 : decode cL_law 623 = .ok (.iload 4, 2) := by decide +kernel
theorem dL_law_625 : decode cL_law 625 = .ok (.iconst 1, 1) := by decide +kernel
theorem dL_law_626 : decode cL_law 626 = .ok (.iadd, 1) := by decide +kernel
theorem dL_law_627 : decode cL_law 627 = .ok (.iaload, 1) := by decide +kernel
theorem dL_law_628 : decode cL_law 628 = .ok (.invokevirtual 81, 3) := by decide +kernel
theorem dL_law_631 : decode cL_law 631 = .ok (.aload_n 2, 1) := by decide +kernel
theorem dL_law_632 : decode cL_law 632 = .ok (.aload_n 0, 1) := by decide +kernel
theorem dL_law_633 : decode cL_law 633 = .ok (.iload 4, 2) := by decide +kernel
theorem dL_law_635 : decode cL_law 635 = .ok (.iconst 1, 1) := by decide +kernel
theorem dL_law_636 : decode cL_law 636 = .ok (.iadd, 1) := by decide +kernel
theorem dL_law_637 : decode cL_law 637 = .ok (.iaload, 1) := by decide +kernel
theorem dL_law_638 : decode cL_law 638 = .ok (.invokevirtual 84, 3) := by decide +kernel
theorem dL_law_641 : decode cL_law 641 = .ok (.if_icmp .eq 302, 3) := by decide +kernel
theorem dL_law_644 : decode cL_law 644 = .ok (.iconst 0, 1) := by decide +kernel
theorem dL_law_645 : decode cL_law 645 = .ok (.ireturn, 1) := by decide +kernel
theorem dL_law_646 : decode cL_law 646 = .ok (.aload_n 1, 1) := by decide +kernel
theorem dL_law_647 : decode cL_law 647 = .ok (.aload_n 0, 1) := by decide +kernel
theorem dL_law_648 : decode cL_law 648 = .ok (.iload 4, 2) := by decide +kernel
theorem dL_law_650 : decode cL_law 650 = .ok (.iconst 1, 1) := by decide +kernel
theorem dL_law_651 : decode cL_law 651 = .ok (.iadd, 1) := by decide +kernel
theorem dL_law_652 : decode cL_law 652 = .ok (.iaload, 1) := by decide +kernel
theorem dL_law_653 : decode cL_law 653 = .ok (.aload_n 0, 1) := by decide +kernel
theorem dL_law_654 : decode cL_law 654 = .ok (.iload 4, 2) := by decide +kernel
theorem dL_law_656 : decode cL_law 656 = .ok (.iconst 2, 1) := by decide +kernel
theorem dL_law_657 : decode cL_law 657 = .ok (.iadd, 1) := by decide +kernel
theorem dL_law_658 : decode cL_law 658 = .ok (.iaload, 1) := by decide +kernel
theorem dL_law_659 : decode cL_law 659 = .ok (.invokevirtual 85, 3) := by decide +kernel
theorem dL_law_662 : decode cL_law 662 = .ok (.aload_n 2, 1) := by decide +kernel
theorem dL_law_663 : decode cL_law 663 = .ok (.aload_n 0, 1) := by decide +kernel
theorem dL_law_664 : decode cL_law 664 = .ok (.iload 4, 2) := by decide +kernel
theorem dL_law_666 : decode cL_law 666 = .ok (.iconst 1, 1) := by decide +kernel
theorem dL_law_667 : decode cL_law 667 = .ok (.iadd, 1) := by decide +kernel
theorem dL_law_668 : decode cL_law 668 = .ok (.iaload, 1) := by decide +kernel
theorem dL_law_669 : decode cL_law 669 = .ok (.aload_n 0, 1) := by decide +kernel
theorem dL_law_670 : decode cL_law 670 = .ok (.iload 4, 2) := by decide +kernel
theorem dL_law_672 : decode cL_law 672 = .ok (.iconst 2, 1) := by decide +kernel
theorem dL_law_673 : decode cL_law 673 = .ok (.iadd, 1) := by decide +kernel
theorem dL_law_674 : decode cL_law 674 = .ok (.iaload, 1) := by decide +kernel
theorem dL_law_675 : decode cL_law 675 = .ok (.invokevirtual 88, 3) := by decide +kernel
theorem dL_law_678 : decode cL_law 678 = .ok (.if_icmp .eq 265, 3) := by decide +kernel
theorem dL_law_681 : decode cL_law 681 = .ok (.iconst 0, 1) := by decide +kernel
theorem dL_law_682 : decode cL_law 682 = .ok (.ireturn, 1) := by decide +kernel
theorem dL_law_683 : decode cL_law 683 = .ok (.aload_n 1, 1) := by decide +kernel
theorem dL_law_684 : decode cL_law 684 = .ok (.aload_n 0, 1) := by decide +kernel
theorem dL_law_685 : decode cL_law 685 = .ok (.iload 4, 2) := by decide +kernel
theorem dL_law_687 : decode cL_law 687 = .ok (.iconst 1, 1) := by decide +kernel
theorem dL_law_688 : decode cL_law 688 = .ok (.iadd, 1) := by decide +kernel
theorem dL_law_689 : decode cL_law 689 = .ok (.iaload, 1) := by decide +kernel
theorem dL_law_690 : decode cL_law 690 = .ok (.aload_n 0, 1) := by decide +kernel
theorem dL_law_691 : decode cL_law 691 = .ok (.iload 4, 2) := by decide +kernel
theorem dL_law_693 : decode cL_law 693 = .ok (.iconst 2, 1) := by decide +kernel
theorem dL_law_694 : decode cL_law 694 = .ok (.iadd, 1) := by decide +kernel
theorem dL_law_695 : decode cL_law 695 = .ok (.iaload, 1) := by decide +kernel
theorem dL_law_696 : decode cL_law 696 = .ok (.invokevirtual 89, 3) := by decide +kernel
theorem dL_law_699 : decode cL_law 699 = .ok (.aload_n 2, 1) := by decide +kernel
theorem dL_law_700 : decode cL_law 700 = .ok (.aload_n 0, 1) := by decide +kernel
theorem dL_law_701 : decode cL_law 701 = .ok (.iload 4, 2) := by decide +kernel
theorem dL_law_703 : decode cL_law 703 = .ok (.iconst 1, 1) := by decide +kernel
theorem dL_law_704 : decode cL_law 704 = .ok (.iadd, 1) := by decide +kernel
theorem dL_law_705 : decode cL_law 705 = .ok (.iaload, 1) := by decide +kernel
theorem dL_law_706 : decode cL_law 706 = .ok (.aload_n 0, 1) := by decide +kernel
theorem dL_law_707 : decode cL_law 707 = .ok (.iload 4, 2) := by decide +kernel
theorem dL_law_709 : decode cL_law 709 = .ok (.iconst 2, 1) := by decide +kernel
theorem dL_law_710 : decode cL_law 710 = .ok (.iadd, 1) := by decide +kernel
theorem dL_law_711 : decode cL_law 711 = .ok (.iaload, 1) := by decide +kernel
theorem dL_law_712 : decode cL_law 712 = .ok (.invokevirtual 92, 3) := by decide +kernel
theorem dL_law_715 : decode cL_law 715 = .ok (.if_icmp .eq 228, 3) := by decide +kernel
theorem dL_law_718 : decode cL_law 718 = .ok (.iconst 0, 1) := by decide +kernel
theorem dL_law_719 : decode cL_law 719 = .ok (.ireturn, 1) := by decide +kernel
theorem dL_law_720 : decode cL_law 720 = .ok (.aload_n 1, 1) := by decide +kernel
theorem dL_law_721 : decode cL_law 721 = .ok (.aload_n 0, 1) := by decide +kernel
theorem dL_law_722 : decode cL_law 722 = .ok (.iload 4, 2) := by decide +kernel
theorem dL_law_724 : decode cL_law 724 = .ok (.iconst 1, 1) := by decide +kernel
theorem dL_law_725 : decode cL_law 725 = .ok (.iadd, 1) := by decide +kernel
theorem dL_law_726 : decode cL_law 726 = .ok (.iaload, 1) := by decide +kernel
theorem dL_law_727 : decode cL_law 727 = .ok (.aload_n 0, 1) := by decide +kernel
theorem dL_law_728 : decode cL_law 728 = .ok (.iload 4, 2) := by decide +kernel
theorem dL_law_730 : decode cL_law 730 = .ok (.iconst 2, 1) := by decide +kernel
theorem dL_law_731 : decode cL_law 731 = .ok (.iadd, 1) := by decide +kernel
theorem dL_law_732 : decode cL_law 732 = .ok (.iaload, 1) := by decide +kernel
theorem dL_law_733 : decode cL_law 733 = .ok (.invokevirtual 93, 3) := by decide +kernel
theorem dL_law_736 : decode cL_law 736 = .ok (.aload_n 2, 1) := by decide +kernel
theorem dL_law_737 : decode cL_law 737 = .ok (.aload_n 0, 1) := by decide +kernel
theorem dL_law_738 : decode cL_law 738 = .ok (.iload 4, 2) := by decide +kernel
theorem dL_law_740 : decode cL_law 740 = .ok (.iconst 1, 1) := by decide +kernel
theorem dL_law_741 : decode cL_law 741 = .ok (.iadd, 1) := by decide +kernel
theorem dL_law_742 : decode cL_law 742 = .ok (.iaload, 1) := by decide +kernel
theorem dL_law_743 : decode cL_law 743 = .ok (.aload_n 0, 1) := by decide +kernel
theorem dL_law_744 : decode cL_law 744 = .ok (.iload 4, 2) := by decide +kernel
theorem dL_law_746 : decode cL_law 746 = .ok (.iconst 2, 1) := by decide +kernel
theorem dL_law_747 : decode cL_law 747 = .ok (.iadd, 1) := by decide +kernel
theorem dL_law_748 : decode cL_law 748 = .ok (.iaload, 1) := by decide +kernel
theorem dL_law_749 : decode cL_law 749 = .ok (.invokevirtual 96, 3) := by decide +kernel
theorem dL_law_752 : decode cL_law 752 = .ok (.if_icmp .eq 191, 3) := by decide +kernel
theorem dL_law_755 : decode cL_law 755 = .ok (.iconst 0, 1) := by decide +kernel
theorem dL_law_756 : decode cL_law 756 = .ok (.ireturn, 1) := by decide +kernel
theorem dL_law_757 : decode cL_law 757 = .ok (.aload_n 1, 1) := by decide +kernel
theorem dL_law_758 : decode cL_law 758 = .ok (.aload_n 0, 1) := by decide +kernel
theorem dL_law_759 : decode cL_law 759 = .ok (.iload 4, 2) := by decide +kernel
theorem dL_law_761 : decode cL_law 761 = .ok (.iconst 1, 1) := by decide +kernel
theorem dL_law_762 : decode cL_law 762 = .ok (.iadd, 1) := by decide +kernel
theorem dL_law_763 : decode cL_law 763 = .ok (.iaload, 1) := by decide +kernel
theorem dL_law_764 : decode cL_law 764 = .ok (.invokevirtual 97, 3) := by decide +kernel
theorem dL_law_767 : decode cL_law 767 = .ok (.aload_n 2, 1) := by decide +kernel
theorem dL_law_768 : decode cL_law 768 = .ok (.aload_n 0, 1) := by decide +kernel
theorem dL_law_769 : decode cL_law 769 = .ok (.iload 4, 2) := by decide +kernel
theorem dL_law_771 : decode cL_law 771 = .ok (.iconst 1, 1) := by decide +kernel
theorem dL_law_772 : decode cL_law 772 = .ok (.iadd, 1) := by decide +kernel
theorem dL_law_773 : decode cL_law 773 = .ok (.iaload, 1) := by decide +kernel
theorem dL_law_774 : decode cL_law 774 = .ok (.invokevirtual 100, 3) := by decide +kernel
theorem dL_law_777 : decode cL_law 777 = .ok (.if_icmp .eq 166, 3) := by decide +kernel
theorem dL_law_780 : decode cL_law 780 = .ok (.iconst 0, 1) := by decide +kernel
theorem dL_law_781 : decode cL_law 781 = .ok (.ireturn, 1) := by decide +kernel
theorem dL_law_782 : decode cL_law 782 = .ok (.aload_n 1, 1) := by decide +kernel
theorem dL_law_783 : decode cL_law 783 = .ok (.aload_n 0, 1) := by decide +kernel
theorem dL_law_784 : decode cL_law 784 = .ok (.iload 4, 2) := by decide +kernel
theorem dL_law_786 : decode cL_law 786 = .ok (.iconst 1, 1) := by decide +kernel
theorem dL_law_787 : decode cL_law 787 = .ok (.iadd, 1) := by decide +kernel
theorem dL_law_788 : decode cL_law 788 = .ok (.iaload, 1) := by decide +kernel
theorem dL_law_789 : decode cL_law 789 = .ok (.aload_n 0, 1) := by decide +kernel
theorem dL_law_790 : decode cL_law 790 = .ok (.iload 4, 2) := by decide +kernel
theorem dL_law_792 : decode cL_law 792 = .ok (.iconst 2, 1) := by decide +kernel
theorem dL_law_793 : decode cL_law 793 = .ok (.iadd, 1) := by decide +kernel
theorem dL_law_794 : decode cL_law 794 = .ok (.iaload, 1) := by decide +kernel
theorem dL_law_795 : decode cL_law 795 = .ok (.aload_n 0, 1) := by decide +kernel
theorem dL_law_796 : decode cL_law 796 = .ok (.iload 4, 2) := by decide +kernel
theorem dL_law_798 : decode cL_law 798 = .ok (.iconst 3, 1) := by decide +kernel
theorem dL_law_799 : decode cL_law 799 = .ok (.iadd, 1) := by decide +kernel
theorem dL_law_800 : decode cL_law 800 = .ok (.iaload, 1) := by decide +kernel
theorem dL_law_801 : decode cL_law 801 = .ok (.invokevirtual 101, 3) := by decide +kernel
theorem dL_law_804 : decode cL_law 804 = .ok (.aload_n 2, 1) := by decide +kernel
theorem dL_law_805 : decode cL_law 805 = .ok (.aload_n 0, 1) := by decide +kernel
theorem dL_law_806 : decode cL_law 806 = .ok (.iload 4, 2) := by decide +kernel
theorem dL_law_808 : decode cL_law 808 = .ok (.iconst 1, 1) := by decide +kernel
theorem dL_law_809 : decode cL_law 809 = .ok (.iadd, 1) := by decide +kernel
theorem dL_law_810 : decode cL_law 810 = .ok (.iaload, 1) := by decide +kernel
theorem dL_law_811 : decode cL_law 811 = .ok (.aload_n 0, 1) := by decide +kernel
theorem dL_law_812 : decode cL_law 812 = .ok (.iload 4, 2) := by decide +kernel
theorem dL_law_814 : decode cL_law 814 = .ok (.iconst 2, 1) := by decide +kernel
theorem dL_law_815 : decode cL_law 815 = .ok (.iadd, 1) := by decide +kernel
theorem dL_law_816 : decode cL_law 816 = .ok (.iaload, 1) := by decide +kernel
theorem dL_law_817 : decode cL_law 817 = .ok (.aload_n 0, 1) := by decide +kernel
theorem dL_law_818 : decode cL_law 818 = .ok (.iload 4, 2) := by decide +kernel
theorem dL_law_820 : decode cL_law 820 = .ok (.iconst 3, 1) := by decide +kernel
theorem dL_law_821 : decode cL_law 821 = .ok (.iadd, 1) := by decide +kernel
theorem dL_law_822 : decode cL_law 822 = .ok (.iaload, 1) := by decide +kernel
theorem dL_law_823 : decode cL_law 823 = .ok (.invokevirtual 105, 3) := by decide +kernel
theorem dL_law_826 : decode cL_law 826 = .ok (.if_icmp .eq 117, 3) := by decide +kernel
theorem dL_law_829 : decode cL_law 829 = .ok (.iconst 0, 1) := by decide +kernel
theorem dL_law_830 : decode cL_law 830 = .ok (.ireturn, 1) := by decide +kernel
theorem dL_law_831 : decode cL_law 831 = .ok (.aload_n 1, 1) := by decide +kernel
theorem dL_law_832 : decode cL_law 832 = .ok (.aload_n 0, 1) := by decide +kernel
theorem dL_law_833 : decode cL_law 833 = .ok (.iload 4, 2) := by decide +kernel
theorem dL_law_835 : decode cL_law 835 = .ok (.iconst 1, 1) := by decide +kernel
theorem dL_law_836 : decode cL_law 836 = .ok (.iadd, 1) := by decide +kernel
theorem dL_law_837 : decode cL_law 837 = .ok (.iaload, 1) := by decide +kernel
theorem dL_law_838 : decode cL_law 838 = .ok (.aload_n 0, 1) := by decide +kernel
theorem dL_law_839 : decode cL_law 839 = .ok (.iload 4, 2) := by decide +kernel
theorem dL_law_841 : decode cL_law 841 = .ok (.iconst 2, 1) := by decide +kernel
theorem dL_law_842 : decode cL_law 842 = .ok (.iadd, 1) := by decide +kernel
theorem dL_law_843 : decode cL_law 843 = .ok (.iaload, 1) := by decide +kernel
theorem dL_law_844 : decode cL_law 844 = .ok (.invokevirtual 106, 3) := by decide +kernel
theorem dL_law_847 : decode cL_law 847 = .ok (.aload_n 2, 1) := by decide +kernel
theorem dL_law_848 : decode cL_law 848 = .ok (.aload_n 0, 1) := by decide +kernel
theorem dL_law_849 : decode cL_law 849 = .ok (.iload 4, 2) := by decide +kernel
theorem dL_law_851 : decode cL_law 851 = .ok (.iconst 1, 1) := by decide +kernel
theorem dL_law_852 : decode cL_law 852 = .ok (.iadd, 1) := by decide +kernel
theorem dL_law_853 : decode cL_law 853 = .ok (.iaload, 1) := by decide +kernel
theorem dL_law_854 : decode cL_law 854 = .ok (.aload_n 0, 1) := by decide +kernel
theorem dL_law_855 : decode cL_law 855 = .ok (.iload 4, 2) := by decide +kernel
theorem dL_law_857 : decode cL_law 857 = .ok (.iconst 2, 1) := by decide +kernel
theorem dL_law_858 : decode cL_law 858 = .ok (.iadd, 1) := by decide +kernel
theorem dL_law_859 : decode cL_law 859 = .ok (.iaload, 1) := by decide +kernel
theorem dL_law_860 : decode cL_law 860 = .ok (.invokevirtual 109, 3) := by decide +kernel
theorem dL_law_863 : decode cL_law 863 = .ok (.if_icmp .eq 80, 3) := by decide +kernel
theorem dL_law_866 : decode cL_law 866 = .ok (.iconst 0, 1) := by decide +kernel
theorem dL_law_867 : decode cL_law 867 = .ok (.ireturn, 1) := by decide +kernel
theorem dL_law_868 : decode cL_law 868 = .ok (.aload_n 1, 1) := by decide +kernel
theorem dL_law_869 : decode cL_law 869 = .ok (.aload_n 0, 1) := by decide +kernel
theorem dL_law_870 : decode cL_law 870 = .ok (.iload 4, 2) := by decide +kernel
theorem dL_law_872 : decode cL_law 872 = .ok (.iconst 1, 1) := by decide +kernel
theorem dL_law_873 : decode cL_law 873 = .ok (.iadd, 1) := by decide +kernel
theorem dL_law_874 : decode cL_law 874 = .ok (.iaload, 1) := by decide +kernel
theorem dL_law_875 : decode cL_law 875 = .ok (.invokevirtual 110, 3) := by decide +kernel
theorem dL_law_878 : decode cL_law 878 = .ok (.aload_n 2, 1) := by decide +kernel
theorem dL_law_879 : decode cL_law 879 = .ok (.aload_n 0, 1) := by decide +kernel
theorem dL_law_880 : decode cL_law 880 = .ok (.iload 4, 2) := by decide +kernel
theorem dL_law_882 : decode cL_law 882 = .ok (.iconst 1, 1) := by decide +kernel
theorem dL_law_883 : decode cL_law 883 = .ok (.iadd, 1) := by decide +kernel
theorem dL_law_884 : decode cL_law 884 = .ok (.iaload, 1) := by decide +kernel
theorem dL_law_885 : decode cL_law 885 = .ok (.invokevirtual 113, 3) := by decide +kernel
theorem dL_law_888 : decode cL_law 888 = .ok (.if_icmp .eq 55, 3) := by decide +kernel
theorem dL_law_891 : decode cL_law 891 = .ok (.iconst 0, 1) := by decide +kernel
theorem dL_law_892 : decode cL_law 892 = .ok (.ireturn, 1) := by decide +kernel
theorem dL_law_893 : decode cL_law 893 = .ok (.aload_n 1, 1) := by decide +kernel
theorem dL_law_894 : decode cL_law 894 = .ok (.invokevirtual 114, 3) := by decide +kernel
theorem dL_law_897 : decode cL_law 897 = .ok (.aload_n 2, 1) := by decide +kernel
theorem dL_law_898 : decode cL_law 898 = .ok (.invokevirtual 117, 3) := by decide +kernel
theorem dL_law_901 : decode cL_law 901 = .ok (.if_icmp .eq 42, 3) := by decide +kernel
theorem dL_law_904 : decode cL_law 904 = .ok (.iconst 0, 1) := by decide +kernel
theorem dL_law_905 : decode cL_law 905 = .ok (.ireturn, 1) := by decide +kernel
theorem dL_law_906 : decode cL_law 906 = .ok (.aload_n 1, 1) := by decide +kernel
theorem dL_law_907 : decode cL_law 907 = .ok (.aload_n 0, 1) := by decide +kernel
theorem dL_law_908 : decode cL_law 908 = .ok (.iload 4, 2) := by decide +kernel
theorem dL_law_910 : decode cL_law 910 = .ok (.iconst 1, 1) := by decide +kernel
theorem dL_law_911 : decode cL_law 911 = .ok (.iadd, 1) := by decide +kernel
theorem dL_law_912 : decode cL_law 912 = .ok (.iaload, 1) := by decide +kernel
theorem dL_law_913 : decode cL_law 913 = .ok (.aload_n 0, 1) := by decide +kernel
theorem dL_law_914 : decode cL_law 914 = .ok (.iload 4, 2) := by decide +kernel
theorem dL_law_916 : decode cL_law 916 = .ok (.iconst 2, 1) := by decide +kernel
theorem dL_law_917 : decode cL_law 917 = .ok (.iadd, 1) := by decide +kernel
theorem dL_law_918 : decode cL_law 918 = .ok (.iaload, 1) := by decide +kernel
theorem dL_law_919 : decode cL_law 919 = .ok (.invokevirtual 118, 3) := by decide +kernel
theorem dL_law_922 : decode cL_law 922 = .ok (.aload_n 2, 1) := by decide +kernel
theorem dL_law_923 : decode cL_law 923 = .ok (.aload_n 0, 1) := by decide +kernel
theorem dL_law_924 : decode cL_law 924 = .ok (.iload 4, 2) := by decide +kernel
theorem dL_law_926 : decode cL_law 926 = .ok (.iconst 1, 1) := by decide +kernel
theorem dL_law_927 : decode cL_law 927 = .ok (.iadd, 1) := by decide +kernel
theorem dL_law_928 : decode cL_law 928 = .ok (.iaload, 1) := by decide +kernel
theorem dL_law_929 : decode cL_law 929 = .ok (.aload_n 0, 1) := by decide +kernel
theorem dL_law_930 : decode cL_law 930 = .ok (.iload 4, 2) := by decide +kernel
theorem dL_law_932 : decode cL_law 932 = .ok (.iconst 2, 1) := by decide +kernel
theorem dL_law_933 : decode cL_law 933 = .ok (.iadd, 1) := by decide +kernel
theorem dL_law_934 : decode cL_law 934 = .ok (.iaload, 1) := by decide +kernel
theorem dL_law_935 : decode cL_law 935 = .ok (.invokevirtual 121, 3) := by decide +kernel
theorem dL_law_938 : decode cL_law 938 = .ok (.if_icmp .eq 5, 3) := by decide +kernel
theorem dL_law_941 : decode cL_law 941 = .ok (.iconst 0, 1) := by decide +kernel
theorem dL_law_942 : decode cL_law 942 = .ok (.ireturn, 1) := by decide +kernel
theorem dL_law_943 : decode cL_law 943 = .ok (.iinc 4 6, 3) := by decide +kernel
theorem dL_law_946 : decode cL_law 946 = .ok (.goto (-923), 3) := by decide +kernel
theorem dL_law_949 : decode cL_law 949 = .ok (.iconst 1, 1) := by decide +kernel
theorem dL_law_950 : decode cL_law 950 = .ok (.ireturn, 1) := by decide +kernel
end
section
/-! THE LIGHT LOGIC: all cells of the class, the reference and the law's long array as one world, whose numbers are a function d of a place and an index; values on the stack are zi, zl, zr; zV: the machine from here on, zC: a method's contract -/
abbrev zD : Type := Nat → Nat → Int
abbrev zAm : Type := (Nat → Prop) → State → Heap → Prop
abbrev zG : Type := (Nat → ClassId) × (Nat → Nat → Nat) × (Nat → Nat) × (Nat → ClassId) × zAm
abbrev zM : Type := String × MethodName × ByteArray × Nat × Option FieldType
abbrev zX : Type := Program × Env × State × MethodId × Array Value × List Frame × Method × Code × (Nat → Prop)
def zi (a : Int) : Value := .int (Int32.ofInt a)
def zl (a : Int) : Value := .long (Int64.ofInt a)
def zr (g : zG) (p : Nat) : Value := .ref (g.2.2.1 p)
/-- the world's shape: an object of a class (its fields: references to places, or numbers), or a row (0 int, 1 boolean, 2 long) of a length -/
def zsh : Nat → (Nat × List (Option Nat)) ⊕ (Nat × Nat) := fun p => match p with
  | 0 => .inl (7, [some 1, none, none, some 2, some 11, some 20, some 21, some 24, some 26, some 31, some 32])
  | 1 => .inr (0, 400)
  | 2 => .inl (2, [none, none, none, none, none, none, some 3, some 4, some 5, some 6, some 7, some 8, some 9, some 10])
  | 3 => .inr (0, 6) | 4 => .inr (0, 6) | 5 => .inr (0, 6) | 6 => .inr (0, 6) | 7 => .inr (0, 72) | 8 => .inr (0, 6) | 9 => .inr (0, 6) | 10 => .inr (0, 6)
  | 11 => .inl (2, [none, none, none, none, none, none, some 12, some 13, some 14, some 15, some 16, some 17, some 18, some 19])
  | 12 => .inr (0, 6) | 13 => .inr (0, 6) | 14 => .inr (0, 6) | 15 => .inr (0, 6) | 16 => .inr (0, 72) | 17 => .inr (0, 6) | 18 => .inr (0, 6) | 19 => .inr (0, 6)
  | 20 => .inl (3, [some 1, some 11, none, none, none, none, none, none, none, none, none, none, none])
  | 21 => .inl (0, [some 2, some 22, some 23])
  | 22 => .inr (0, 6) | 23 => .inr (0, 64)
  | 24 => .inl (5, [some 2, some 25])
  | 25 => .inr (0, 2304)
  | 26 => .inl (6, [some 2, some 21, some 24, some 27, some 28, some 29, some 30, none, none])
  | 27 => .inr (0, 64) | 28 => .inr (0, 448) | 29 => .inr (0, 6) | 30 => .inr (0, 7)
  | 31 => .inl (4, [some 2, some 24, some 26, some 21, none, none, none, none])
  | 32 => .inl (1, [some 2, some 24, some 26, some 33, none, some 34, some 35, none, some 36, none])
  | 33 => .inr (0, 65) | 34 => .inr (0, 8) | 35 => .inr (0, 195) | 36 => .inr (0, 65)
  | 37 => .inl (8, [none, some 38, some 39, some 40, some 41, some 42, some 43, some 44, some 45, some 46, some 47, some 48, some 49, some 50, some 51, some 52, some 53, some 54, some 55, some 56, some 57, none, none, none, none, none, none, none, none, none, none, none, none, some 58, some 59, some 60, some 61, none, some 62, none, some 63, some 64, some 65])
  | 38 => .inr (0, 6) | 39 => .inr (0, 6) | 40 => .inr (0, 6) | 41 => .inr (0, 6) | 42 => .inr (0, 6) | 43 => .inr (0, 6) | 44 => .inr (0, 6) | 45 => .inr (0, 6) | 46 => .inr (0, 6) | 47 => .inr (0, 6)
  | 48 => .inr (0, 72) | 49 => .inr (0, 72) | 50 => .inr (0, 6) | 51 => .inr (0, 6) | 52 => .inr (0, 6) | 53 => .inr (0, 6) | 54 => .inr (0, 6) | 55 => .inr (0, 6) | 56 => .inr (0, 6) | 57 => .inr (0, 400)
  | 58 => .inr (0, 6) | 59 => .inr (0, 2304) | 60 => .inr (0, 448) | 61 => .inr (0, 448) | 62 => .inr (0, 80) | 63 => .inr (1, 256) | 64 => .inr (1, 256) | 65 => .inr (1, 256)
  | _ => .inr (2, 1)
def zfv (g : zG) (r : Nat → Int) : Nat → List (Option Nat) → List Value
  | _, [] => []
  | k, some q :: t => zr g q :: zfv g r (k + 1) t
  | k, none :: t => zi (r k) :: zfv g r (k + 1) t
def zar (g : zG) (r : Nat → Int) (t n : Nat) : va_E := if t = 2 then .inl (g.2.2.2.1 2, n, .inr (.inl (fun i => Int64.ofInt (r i)))) else .inl (g.2.2.2.1 t, n, .inl (fun i => Int32.ofInt (r i)))
def zcell (g : zG) (d : zD) (p : Nat) : va_E := match zsh p with
  | .inl o => .inr (o.1, zfv g (d p) 0 o.2)
  | .inr a => zar g (d p) a.1 a.2
def zN : Nat := 67
def zw (g : zG) (d : zD) : va_W := (List.range zN).map (fun p => (g.2.2.1 p, zcell g d p))
def zu (d : zD) (p i : Nat) (v : Int) : zD := fun q j => if q = p then (if j = i then v else d q j) else d q j
abbrev zgD (g : zG) : va_G := (g.1, g.2.1)
abbrev zty (g : zG) : List (ClassId × FieldType) := [(g.2.2.2.1 0, .int), (g.2.2.2.1 1, .boolean), (g.2.2.2.1 2, .long)]
def zrm (n : Nat) : Room := { frames := n, cells := 0, slots := 0, locals := 40 * n }
def zNest : Cond → Bool
  | .fieldLinkNest .. => true
  | .methodLinkNest .. => true
  | _ => false
def zTB : List Cond := lw_tbl.filter goodWord
def zNW : List Cond := lw_tbl.filter zNest
theorem zTB_in {w : Cond} (i : Nat) (h : lw_tbl[i]? = some w) (hg : goodWord w = true) : w ∈ zTB := List.mem_filter.mpr ⟨List.mem_of_getElem? h, hg⟩
theorem zTB_of {w : Cond} (h : w ∈ lw_tbl) (hg : goodWord w = true) : w ∈ zTB := List.mem_filter.mpr ⟨h, hg⟩
theorem zNW_in {w : Cond} (i : Nat) (h : lw_tbl[i]? = some w) (hg : zNest w = true) : w ∈ zNW := List.mem_filter.mpr ⟨List.mem_of_getElem? h, hg⟩
/-- what the ambient facts (nest links, strings, statics) keep to -/
def zAmOk (g : zG) : Prop :=
  (∀ (A : Nat → Prop) (s U : State) (H : Heap), s.WarmedH U.vm → g.2.2.2.2 A s H → g.2.2.2.2 A U H) ∧
  (∀ (A : Nat → Prop) (s U : State) (H : Heap), s.vm = U.vm → g.2.2.2.2 A s H → g.2.2.2.2 A U H) ∧
  (∀ (A : Nat → Prop) (s : State) (H H1 : Heap), (∀ a : Nat, a < H.size → ¬ A a → H1[a]? = H[a]?) → g.2.2.2.2 A s H → g.2.2.2.2 A s H1) ∧
  (∀ (A B : Nat → Prop) (s : State) (H : Heap), (∀ q, B q → A q) → g.2.2.2.2 A s H → g.2.2.2.2 B s H) ∧
  (∀ (A : Nat → Prop) (s : State) (H : Heap), g.2.2.2.2 A s H → ∀ w ∈ zNW, va_Nw w s)
def zQc (g : zG) (A : Nat → Prop) (Qp : Option Value → zD → Prop) : Array Value → State → Outcome → State → Prop := fun _ st o t =>
  (∃ (r : Option Value) (d' : zD), o = .returned r ∧ Qp r d' ∧ va_P (zgD g) vwCl (zw g d') t.heap ∧ va_K (zgD g) vwCl (zty g) t ∧ va_D A (zw g d')) ∧ va_F A st t
def zPc (g : zG) (d : zD) (av : List Value) (sz : Nat) : Array Value → State → Prop :=
  va_Pc av (fun U => U.heap.size = sz ∧ va_P (zgD g) vwCl (zw g d) U.heap ∧ va_K (zgD g) vwCl (zty g) U ∧ va_D (fun _ => True) (zw g d) ∧ g.2.2.2.2 (va_A (zw g d) sz) U U.heap)
abbrev zws (M : zM) : List Cond := Cond.code M.2.1 M.2.2.1 M.2.2.2.1 M.2.2.2.2 :: zTB
/-- a method's contract, n frames deep: called with av in a world of numbers d it returns, and Qp holds of its answer and the numbers behind it -/
def zC (l : Launch) (g : zG) (M : zM) (n : Nat) (av : List Value) (d : zD) (Qp : Option Value → zD → Prop) : Prop :=
  ∀ sz : Nat, Met l M.2.1 (zws M) (zrm n) (zPc g d av sz) (zQc g (va_A (zw g d) sz) Qp) 0 0 (va_A (zw g d) sz)
def zOk (x : zX) (g : zG) (M : zM) : Prop := match x with
  | (p, _, s, m, args, _, meth, c, A) =>
    p.tables.exec = Jvm.exec ∧ c.code = M.2.2.1 ∧ c.maxLocals = M.2.2.2.1 ∧ s.vm.findClass M.1 = some m.cls ∧ (∀ w ∈ zTB, w.before args s = true) ∧ meth.sig.returnType = M.2.2.2.2 ∧
    va_K (zgD g) vwCl (zty g) s ∧ (∀ q : Nat, s.heap.size ≤ q → A q) ∧ meth.locks = false ∧ zAmOk g ∧ g.2.2.2.2 A s s.heap
/-- the machine from here on, in the method M: at pc, with locals L, stack st, numbers d -/
def zV (l : Launch) (x : zX) (g : zG) (M : zM) (n : Nat) (Qp : Option Value → zD → Prop) (pc : Nat) (L : List (Nat × Value)) (st : List Value) (d : zD) : Prop := match x with
  | (p, e, s, m, args, below, meth, c, A) => zOk (p, e, s, m, args, below, meth, c, A) g M → ∀ (H : Heap) (locs : List Loc) (ls : Array Slot),
    va_P (zgD g) vwCl (zw g d) H → va_D A (zw g d) → va_S A s.heap H locs → lv_has ls M.2.2.2.1 L →
    W p l e (zrm n) s m args below meth c H locs 0 0 (MQ below (zQc g A Qp) args s 0 0 A) (F0 m pc ls st)
theorem zw_len (g : zG) (d : zD) : (zw g d).length = zN := by simp [zw]
theorem zw_at (g : zG) (d : zD) {p : Nat} (hp : p < zN) : (zw g d)[p]? = some (g.2.2.1 p, zcell g d p) := by simp [zw, hp]
theorem zcell_congr (g : zG) {d d' : zD} {p : Nat} (h : d p = d' p) : zcell g d p = zcell g d' p := by unfold zcell; rw [h]
theorem zw_set (g : zG) {d d' : zD} {p : Nat} {e : va_E} (hp : p < zN) (h : ∀ q, q ≠ p → d' q = d q) (he : e = zcell g d' p) : (zw g d).set p (g.2.2.1 p, e) = zw g d' := by
  subst he
  apply List.ext_getElem?
  intro k
  by_cases hk : k = p
  · subst hk
    rw [List.getElem?_set_self (by rw [zw_len]; exact hp), zw_at g d' hp]
  · rw [List.getElem?_set_ne (Ne.symm hk)]
    by_cases hl : k < zN
    · rw [zw_at g d hl, zw_at g d' hl, zcell_congr g (h k hk)]
    · rw [List.getElem?_eq_none (by rw [zw_len]; omega), List.getElem?_eq_none (by rw [zw_len]; omega)]
theorem zu_ne {d : zD} {p i : Nat} {v : Int} {q : Nat} (h : q ≠ p) : zu d p i v q = d q := by funext j; simp [zu, h]
theorem zu_at (d : zD) (p i : Nat) (v : Int) : zu d p i v p i = v := by simp [zu]
theorem zu_row (d : zD) (p i : Nat) (v : Int) (j : Nat) : zu d p i v p j = if j = i then v else d p j := by simp [zu]
theorem zfv_get_n (g : zG) (r : Nat → Int) : ∀ (fs : List (Option Nat)) (k0 k : Nat), fs[k]? = some none → (zfv g r k0 fs)[k]? = some (zi (r (k0 + k)))
  | [], _, _, h => by simp at h
  | some q :: t, k0, 0, h => by simp at h
  | none :: t, k0, 0, h => by simp [zfv]
  | some q :: t, k0, k + 1, h => by
    have := zfv_get_n g r t (k0 + 1) k (by simpa using h)
    simp only [zfv, List.getElem?_cons_succ, this]
    congr 3; omega
  | none :: t, k0, k + 1, h => by
    have := zfv_get_n g r t (k0 + 1) k (by simpa using h)
    simp only [zfv, List.getElem?_cons_succ, this]
    congr 3; omega
theorem zfv_get_s (g : zG) (r : Nat → Int) {q : Nat} : ∀ (fs : List (Option Nat)) (k0 k : Nat), fs[k]? = some (some q) → (zfv g r k0 fs)[k]? = some (zr g q)
  | [], _, _, h => by simp at h
  | some q' :: t, k0, 0, h => by
    simp at h; subst h; simp [zfv]
  | none :: t, k0, 0, h => by simp at h
  | some q' :: t, k0, k + 1, h => by
    simpa only [zfv, List.getElem?_cons_succ] using zfv_get_s g r t (k0 + 1) k (by simpa using h)
  | none :: t, k0, k + 1, h => by
    simpa only [zfv, List.getElem?_cons_succ] using zfv_get_s g r t (k0 + 1) k (by simpa using h)
theorem zfv_ext (g : zG) {r r' : Nat → Int} : ∀ (fs : List (Option Nat)) (k0 : Nat), (∀ j, k0 ≤ j → r' j = r j) → zfv g r' k0 fs = zfv g r k0 fs
  | [], _, _ => rfl
  | some q :: t, k0, h => by simp only [zfv]; rw [zfv_ext g t (k0 + 1) (fun j hj => h j (by omega))]
  | none :: t, k0, h => by simp only [zfv]; rw [zfv_ext g t (k0 + 1) (fun j hj => h j (by omega)), h k0 (Nat.le_refl _)]
theorem zfv_set (g : zG) {r r' : Nat → Int} {v : Int} : ∀ (fs : List (Option Nat)) (k0 k : Nat), fs[k]? = some none → (∀ j, j ≠ k0 + k → r' j = r j) → r' (k0 + k) = v → (zfv g r k0 fs).set k (zi v) = zfv g r' k0 fs
  | [], _, _, h, _, _ => by simp at h
  | some q :: t, k0, 0, h, _, _ => by simp at h
  | none :: t, k0, 0, h, h1, h2 => by
    simp only [zfv, List.set_cons_zero]
    rw [zfv_ext g (r := r) (r' := r') t (k0 + 1) (fun j hj => h1 j (by omega))]
    have h2' : r' k0 = v := h2
    rw [h2']
  | some q :: t, k0, k + 1, h, h1, h2 => by
    simp only [zfv, List.set_cons_succ]
    rw [zfv_set g t (k0 + 1) k (by simpa using h) (fun j hj => h1 j (by omega)) (by rw [← h2]; congr 1; omega)]
  | none :: t, k0, k + 1, h, h1, h2 => by
    simp only [zfv, List.set_cons_succ]
    rw [zfv_set g t (k0 + 1) k (by simpa using h) (fun j hj => h1 j (by omega)) (by rw [← h2]; congr 1; omega), h1 k0 (by omega)]
theorem zfv_len (g : zG) (r : Nat → Int) : ∀ (fs : List (Option Nat)) (k0 : Nat), (zfv g r k0 fs).length = fs.length
  | [], _ => rfl
  | some q :: t, k0 => by simp [zfv, zfv_len g r t]
  | none :: t, k0 => by simp [zfv, zfv_len g r t]
theorem zcell_o (g : zG) (d : zD) {p ci : Nat} {fs : List (Option Nat)} (h : zsh p = .inl (ci, fs)) : zcell g d p = .inr (ci, zfv g (d p) 0 fs) := by unfold zcell; rw [h]
theorem zcell_a (g : zG) (d : zD) {p t n : Nat} (h : zsh p = .inr (t, n)) (ht : t ≠ 2) : zcell g d p = .inl (g.2.2.2.1 t, n, .inl (fun i => Int32.ofInt (d p i))) := by unfold zcell; rw [h]; simp [zar, ht]
theorem zcell_l (g : zG) (d : zD) {p n : Nat} (h : zsh p = .inr (2, n)) : zcell g d p = .inl (g.2.2.2.1 2, n, .inr (.inl (fun i => Int64.ofInt (d p i)))) := by unfold zcell; rw [h]; simp [zar]
/-- in the range of an int -/
abbrev zin (a : Int) : Prop := -2147483648 ≤ a ∧ a < 2147483648
theorem zto {a : Int} (h : zin a) : (Int32.ofInt a).toInt = a := Int32.toInt_ofInt_of_le h.1 h.2
theorem zlt {a b : Int} (ha : zin a) (hb : zin b) : Int32.ofInt a < Int32.ofInt b ↔ a < b := by rw [Int32.lt_iff_toInt_lt, zto ha, zto hb]
theorem zle {a b : Int} (ha : zin a) (hb : zin b) : Int32.ofInt a ≤ Int32.ofInt b ↔ a ≤ b := by rw [Int32.le_iff_toInt_le, zto ha, zto hb]
theorem zeq {a b : Int} (ha : zin a) (hb : zin b) : Int32.ofInt a = Int32.ofInt b ↔ a = b := by rw [← Int32.toInt_inj, zto ha, zto hb]
theorem zz0 : (0 : Int32) = Int32.ofInt 0 := rfl
theorem zin0 : zin 0 := by decide
theorem zclamp {k : Nat} (h : (k : Int) < 2147483648) : (Int32.ofInt (k : Int)).toNatClampNeg = k := by
  show (Int32.ofInt (k : Int)).toInt.toNat = k
  rw [zto ⟨by omega, h⟩]; omega
theorem zvin {k n : Nat} (h : k < n) (hn : n < 2147483648) : vp_in (Int32.ofInt (k : Int)) n := by
  rw [vp_in_iff, zto ⟨by omega, by omega⟩]; omega
end
section
section ZR
variable {l : Launch} {x : zX} {g : zG} {M : zM} {n : Nat} {Q : Option Value → zD → Prop} {pc : Nat} {L : List (Nat × Value)} {st : List Value} {d : zD}
theorem z_iconst {a : Int} (hd : decode M.2.2.1 pc = .ok (.iconst a, 1)) (k : zV l x g M n Q (pc + 1) L (zi a :: st) d) : zV l x g M n Q pc L (st) d := by
  obtain ⟨p, e, s, m, args, below, meth, c, A⟩ := x
  intro ok H locs ls hP hD hS hl
  exact lv_iconst ok.1 ok.2.1 hd rfl (k ok H locs ls hP hD hS hl)
theorem z_bipush {a : Int} (hd : decode M.2.2.1 pc = .ok (.bipush a, 2)) (ha : (Int8.ofInt a).toInt32 = Int32.ofInt a) (k : zV l x g M n Q (pc + 2) L (zi a :: st) d) : zV l x g M n Q pc L (st) d := by
  obtain ⟨p, e, s, m, args, below, meth, c, A⟩ := x
  intro ok H locs ls hP hD hS hl
  exact lv_bipush ok.1 ok.2.1 hd ha (k ok H locs ls hP hD hS hl)
theorem z_sipush {a : Int} (hd : decode M.2.2.1 pc = .ok (.sipush a, 3)) (ha : (Int16.ofInt a).toInt32 = Int32.ofInt a) (k : zV l x g M n Q (pc + 3) L (zi a :: st) d) : zV l x g M n Q pc L (st) d := by
  obtain ⟨p, e, s, m, args, below, meth, c, A⟩ := x
  intro ok H locs ls hP hD hS hl
  exact lv_sipush ok.1 ok.2.1 hd ha (k ok H locs ls hP hD hS hl)
theorem z_iload_n (j : Nat) {i : Nat} {kk : Fin 4} {a : Int} (hd : decode M.2.2.1 pc = .ok (.iload_n kk, 1)) (hi : (kk : Nat) = i) (hj : L[j]? = some (i, zi a)) (k : zV l x g M n Q (pc + 1) L (zi a :: st) d) : zV l x g M n Q pc L (st) d := by
  obtain ⟨p, e, s, m, args, below, meth, c, A⟩ := x
  intro ok H locs ls hP hD hS hl
  exact lv_iload_n ok.1 ok.2.1 hd hi (lv_at hl j hj) (k ok H locs ls hP hD hS hl)
theorem z_iload (j : Nat) {i : Nat} {a : Int} (hd : decode M.2.2.1 pc = .ok (.iload i, 2)) (hj : L[j]? = some (i, zi a)) (k : zV l x g M n Q (pc + 2) L (zi a :: st) d) : zV l x g M n Q pc L (st) d := by
  obtain ⟨p, e, s, m, args, below, meth, c, A⟩ := x
  intro ok H locs ls hP hD hS hl
  exact lv_iload ok.1 ok.2.1 hd (lv_at hl j hj) (k ok H locs ls hP hD hS hl)
theorem z_aload_n (j : Nat) {i : Nat} {kk : Fin 4} {q : Nat} (hd : decode M.2.2.1 pc = .ok (.aload_n kk, 1)) (hi : (kk : Nat) = i) (hj : L[j]? = some (i, zr g q)) (k : zV l x g M n Q (pc + 1) L (zr g q :: st) d) : zV l x g M n Q pc L (st) d := by
  obtain ⟨p, e, s, m, args, below, meth, c, A⟩ := x
  intro ok H locs ls hP hD hS hl
  exact lv_aload_n ok.1 ok.2.1 hd hi (lv_at hl j hj) (k ok H locs ls hP hD hS hl)
theorem z_aload (j : Nat) {i : Nat} {q : Nat} (hd : decode M.2.2.1 pc = .ok (.aload i, 2)) (hj : L[j]? = some (i, zr g q)) (k : zV l x g M n Q (pc + 2) L (zr g q :: st) d) : zV l x g M n Q pc L (st) d := by
  obtain ⟨p, e, s, m, args, below, meth, c, A⟩ := x
  intro ok H locs ls hP hD hS hl
  exact lv_aload ok.1 ok.2.1 hd (lv_at hl j hj) (k ok H locs ls hP hD hS hl)
theorem z_lload_n (j : Nat) {i : Nat} {kk : Fin 4} {a : Int} (hd : decode M.2.2.1 pc = .ok (.lload_n kk, 1)) (hi : (kk : Nat) = i) (hj : L[j]? = some (i, zl a)) (k : zV l x g M n Q (pc + 1) L (zl a :: st) d) : zV l x g M n Q pc L (st) d := by
  obtain ⟨p, e, s, m, args, below, meth, c, A⟩ := x
  intro ok H locs ls hP hD hS hl
  exact lv_lload_n ok.1 ok.2.1 hd hi (lv_at hl j hj) (k ok H locs ls hP hD hS hl)
/-- a local is set: the list sorted by number -/
def zset : List (Nat × Value) → Nat → Value → List (Nat × Value)
  | [], i, v => [(i, v)]
  | (j, w) :: t, i, v => if j = i then (i, v) :: t else if j < i then (if j + 1 = i ∧ w.category = 2 then zset t i v else (j, w) :: zset t i v) else (i, v) :: (j, w) :: t
def zsorted : List (Nat × Value) → Bool
  | [] => true
  | [_] => true
  | (i, v) :: (j, w) :: t => decide (i < j) && zsorted ((j, w) :: t)
def zlows (i : Nat) : List (Nat × Value) → Bool
  | [] => true
  | (j, _) :: t => decide (i < j) && zlows i t
/-- the numbers rise -/
def zup : List (Nat × Value) → Bool
  | [] => true
  | (j, _) :: t => zlows j t && zup t
theorem zlows_mem {i : Nat} : ∀ {L : List (Nat × Value)}, zlows i L = true → ∀ q ∈ L, i < q.1
  | [], _, q, h => by cases h
  | (j, w) :: t, hl, q, h => by
    simp only [zlows, Bool.and_eq_true, decide_eq_true_eq] at hl
    rcases List.mem_cons.mp h with rfl | h
    · exact hl.1
    · exact zlows_mem hl.2 q h
theorem zset_mem {i : Nat} {v : Value} : ∀ {L : List (Nat × Value)}, zup L = true → ∀ q ∈ zset L i v, q = (i, v) ∨ (q ∈ L ∧ q.1 ≠ i ∧ ¬ (q.1 + 1 = i ∧ q.2.category = 2))
  | [], _, q, h => by
    simp only [zset, List.mem_singleton] at h
    exact Or.inl h
  | (j, w) :: t, hu, q, h => by
    simp only [zup, Bool.and_eq_true] at hu
    simp only [zset] at h
    split at h
    · rename_i hji
      rcases List.mem_cons.mp h with h | h
      · exact Or.inl h
      · have := zlows_mem hu.1 q h
        exact Or.inr ⟨List.mem_cons_of_mem _ h, by omega, by omega⟩
    · rename_i hji
      split at h
      · rename_i hlt
        split at h
        · rcases zset_mem hu.2 q h with h | h
          · exact Or.inl h
          · exact Or.inr ⟨List.mem_cons_of_mem _ h.1, h.2⟩
        · rename_i hc
          rcases List.mem_cons.mp h with h | h
          · subst h
            exact Or.inr ⟨List.mem_cons_self, hji, hc⟩
          · rcases zset_mem hu.2 q h with h | h
            · exact Or.inl h
            · exact Or.inr ⟨List.mem_cons_of_mem _ h.1, h.2⟩
      · rename_i hlt
        rcases List.mem_cons.mp h with h | h
        · exact Or.inl h
        · refine Or.inr ⟨h, ?_⟩
          have : i < q.1 := by
            rcases List.mem_cons.mp h with rfl | h
            · show i < j; omega
            · have := zlows_mem hu.1 q h; omega
          exact ⟨by omega, by omega⟩
theorem zset_has {i nL : Nat} {v : Value} {L : List (Nat × Value)} {ls : Array Slot} (hu : zup L = true) (h : lv_has ls nL ((i, v) :: L.filter (fun q => !(q.1 == i) && !(q.1 + 1 == i && q.2.category == 2)))) : lv_has ls nL (zset L i v) := by
  refine ⟨h.1, h.2.1, fun q hq => ?_⟩
  rcases zset_mem hu q hq with rfl | ⟨h1, h2, h3⟩
  · exact h.2.2 _ List.mem_cons_self
  · refine h.2.2 q (List.mem_cons_of_mem _ (List.mem_filter.mpr ⟨h1, ?_⟩))
    simp only [Bool.and_eq_true, Bool.not_eq_true', beq_eq_false_iff_ne, ne_eq, Bool.and_eq_false_iff]
    refine ⟨h2, ?_⟩
    by_cases hc : q.1 + 1 = i
    · exact Or.inr (fun z => h3 ⟨hc, z⟩)
    · exact Or.inl hc
theorem z_istore_n {i : Nat} {kk : Fin 4} {a : Int} {L' : List (Nat × Value)} (hd : decode M.2.2.1 pc = .ok (.istore_n kk, 1)) (hi : (kk : Nat) = i) (hn : i < M.2.2.2.1) (hu : zup L = true) (hL : zset L i (zi a) = L') (k : zV l x g M n Q (pc + 1) L' st d) : zV l x g M n Q pc L (zi a :: st) d := by
  obtain ⟨p, e, s, m, args, below, meth, c, A⟩ := x
  intro ok H locs ls hP hD hS hl
  subst hL
  exact lv_istore_n ok.1 ok.2.1 hd hi hl hn rfl (fun ls' hl' => k ok H locs ls' hP hD hS (zset_has hu hl'))
theorem z_istore {i : Nat} {a : Int} {L' : List (Nat × Value)} (hd : decode M.2.2.1 pc = .ok (.istore i, 2)) (hn : i < M.2.2.2.1) (hu : zup L = true) (hL : zset L i (zi a) = L') (k : zV l x g M n Q (pc + 2) L' st d) : zV l x g M n Q pc L (zi a :: st) d := by
  obtain ⟨p, e, s, m, args, below, meth, c, A⟩ := x
  intro ok H locs ls hP hD hS hl
  subst hL
  exact lv_istore ok.1 ok.2.1 hd hl hn rfl (fun ls' hl' => k ok H locs ls' hP hD hS (zset_has hu hl'))
theorem z_astore_n {i : Nat} {kk : Fin 4} {q : Nat} {L' : List (Nat × Value)} (hd : decode M.2.2.1 pc = .ok (.astore_n kk, 1)) (hi : (kk : Nat) = i) (hn : i < M.2.2.2.1) (hu : zup L = true) (hL : zset L i (zr g q) = L') (k : zV l x g M n Q (pc + 1) L' st d) : zV l x g M n Q pc L (zr g q :: st) d := by
  obtain ⟨p, e, s, m, args, below, meth, c, A⟩ := x
  intro ok H locs ls hP hD hS hl
  subst hL
  exact lv_astore_n ok.1 ok.2.1 hd hi hl hn rfl (fun ls' hl' => k ok H locs ls' hP hD hS (zset_has hu hl'))
theorem z_astore {i : Nat} {q : Nat} {L' : List (Nat × Value)} (hd : decode M.2.2.1 pc = .ok (.astore i, 2)) (hn : i < M.2.2.2.1) (hu : zup L = true) (hL : zset L i (zr g q) = L') (k : zV l x g M n Q (pc + 2) L' st d) : zV l x g M n Q pc L (zr g q :: st) d := by
  obtain ⟨p, e, s, m, args, below, meth, c, A⟩ := x
  intro ok H locs ls hP hD hS hl
  subst hL
  exact lv_astore ok.1 ok.2.1 hd hl hn rfl (fun ls' hl' => k ok H locs ls' hP hD hS (zset_has hu hl'))
theorem z_iinc (j : Nat) {i : Nat} {a b : Int} {L' : List (Nat × Value)} (hd : decode M.2.2.1 pc = .ok (.iinc i b, 3)) (hn : i < M.2.2.2.1) (hu : zup L = true) (hj : L[j]? = some (i, zi a)) (hL : zset L i (zi (a + b)) = L') (k : zV l x g M n Q (pc + 3) L' st d) : zV l x g M n Q pc L st d := by
  obtain ⟨p, e, s, m, args, below, meth, c, A⟩ := x
  intro ok H locs ls hP hD hS hl
  subst hL
  exact lv_iinc ok.1 ok.2.1 hd hl hj (v := Int32.ofInt (a + b)) (Int32.ofInt_add a b).symm hn rfl (fun ls' hl' => k ok H locs ls' hP hD hS (zset_has hu hl'))
/-- a long in slots i and i + 1; the locals from i on are forgotten -/
theorem z_lstore_n {kk : Fin 4} {i : Nat} {a : Int} {L' : List (Nat × Value)} (hd : decode M.2.2.1 pc = .ok (.lstore_n kk, 1)) (hi : (kk : Nat) = i) (hn : i + 1 < M.2.2.2.1) (hL : L.filter (fun q => decide (q.1 + 1 < i) || (decide (q.1 < i) && q.2.category == 1)) ++ [(i, zl a)] = L') (k : zV l x g M n Q (pc + 1) L' st d) : zV l x g M n Q pc L (zl a :: st) d := by
  obtain ⟨p, e, s, m, args, below, meth, c, A⟩ := x
  intro ok H locs ls hP hD hS hl
  subst hL
  refine lv_lstore_n ok.1 ok.2.1 hd hi hl hn rfl (fun ls' hl' => k ok H locs ls' hP hD hS ⟨hl'.1, hl'.2.1, fun q hq => ?_⟩)
  rcases List.mem_append.mp hq with hq | hq
  · obtain ⟨h1, h2⟩ := List.mem_filter.mp hq
    refine hl'.2.2 q (List.mem_cons_of_mem _ (List.mem_filter.mpr ⟨h1, ?_⟩))
    simp only [Bool.or_eq_true, Bool.and_eq_true, decide_eq_true_eq, beq_iff_eq] at h2
    simp only [Bool.and_eq_true, Bool.not_eq_true', beq_eq_false_iff_ne, ne_eq, Bool.and_eq_false_iff]
    refine ⟨by omega, by omega, ?_⟩
    rcases h2 with h2 | h2
    · exact Or.inl (by omega)
    · exact Or.inr (by omega)
  · rw [List.mem_singleton] at hq
    subst hq
    exact hl'.2.2 _ List.mem_cons_self
theorem z_iadd {a b : Int} (hd : decode M.2.2.1 pc = .ok (.iadd, 1)) (k : zV l x g M n Q (pc + 1) L (zi (a + b) :: st) d) : zV l x g M n Q pc L (zi b :: zi a :: st) d := by
  obtain ⟨p, e, s, m, args, below, meth, c, A⟩ := x
  intro ok H locs ls hP hD hS hl
  exact lv_iadd ok.1 ok.2.1 hd (by rw [← Int32.ofInt_add]; exact k ok H locs ls hP hD hS hl)
theorem z_isub {a b : Int} (hd : decode M.2.2.1 pc = .ok (.isub, 1)) (k : zV l x g M n Q (pc + 1) L (zi (a - b) :: st) d) : zV l x g M n Q pc L (zi b :: zi a :: st) d := by
  obtain ⟨p, e, s, m, args, below, meth, c, A⟩ := x
  intro ok H locs ls hP hD hS hl
  exact lv_isub ok.1 ok.2.1 hd (by rw [← Int32.ofInt_sub]; exact k ok H locs ls hP hD hS hl)
theorem z_imul {a b : Int} (hd : decode M.2.2.1 pc = .ok (.imul, 1)) (k : zV l x g M n Q (pc + 1) L (zi (a * b) :: st) d) : zV l x g M n Q pc L (zi b :: zi a :: st) d := by
  obtain ⟨p, e, s, m, args, below, meth, c, A⟩ := x
  intro ok H locs ls hP hD hS hl
  exact lv_imul ok.1 ok.2.1 hd (by rw [← Int32.ofInt_mul]; exact k ok H locs ls hP hD hS hl)
theorem z_ineg {a : Int} (hd : decode M.2.2.1 pc = .ok (.ineg, 1)) (k : zV l x g M n Q (pc + 1) L (zi (-a) :: st) d) : zV l x g M n Q pc L (zi a :: st) d := by
  obtain ⟨p, e, s, m, args, below, meth, c, A⟩ := x
  intro ok H locs ls hP hD hS hl
  exact lv_ineg ok.1 ok.2.1 hd (by rw [← Int32.ofInt_neg]; exact k ok H locs ls hP hD hS hl)
theorem z_iand {a b : Int} (v : Int) (hv : Int32.ofInt a &&& Int32.ofInt b = Int32.ofInt v) (hd : decode M.2.2.1 pc = .ok (.iand, 1)) (k : zV l x g M n Q (pc + 1) L (zi v :: st) d) : zV l x g M n Q pc L (zi b :: zi a :: st) d := by
  obtain ⟨p, e, s, m, args, below, meth, c, A⟩ := x
  intro ok H locs ls hP hD hS hl
  exact lv_iand ok.1 ok.2.1 hd (by rw [hv]; exact k ok H locs ls hP hD hS hl)
theorem z_ior {a b : Int} (v : Int) (hv : Int32.ofInt a ||| Int32.ofInt b = Int32.ofInt v) (hd : decode M.2.2.1 pc = .ok (.ior, 1)) (k : zV l x g M n Q (pc + 1) L (zi v :: st) d) : zV l x g M n Q pc L (zi b :: zi a :: st) d := by
  obtain ⟨p, e, s, m, args, below, meth, c, A⟩ := x
  intro ok H locs ls hP hD hS hl
  exact lv_ior ok.1 ok.2.1 hd (by rw [hv]; exact k ok H locs ls hP hD hS hl)
theorem z_ixor {a b : Int} (v : Int) (hv : Int32.ofInt a ^^^ Int32.ofInt b = Int32.ofInt v) (hd : decode M.2.2.1 pc = .ok (.ixor, 1)) (k : zV l x g M n Q (pc + 1) L (zi v :: st) d) : zV l x g M n Q pc L (zi b :: zi a :: st) d := by
  obtain ⟨p, e, s, m, args, below, meth, c, A⟩ := x
  intro ok H locs ls hP hD hS hl
  exact lv_ixor ok.1 ok.2.1 hd (by rw [hv]; exact k ok H locs ls hP hD hS hl)
theorem z_ishl {a b : Int} (v : Int) (hv : Int32.ofInt a <<< (Int32.ofInt b &&& 31) = Int32.ofInt v) (hd : decode M.2.2.1 pc = .ok (.ishl, 1)) (k : zV l x g M n Q (pc + 1) L (zi v :: st) d) : zV l x g M n Q pc L (zi b :: zi a :: st) d := by
  obtain ⟨p, e, s, m, args, below, meth, c, A⟩ := x
  intro ok H locs ls hP hD hS hl
  exact lv_ishl ok.1 ok.2.1 hd (by rw [hv]; exact k ok H locs ls hP hD hS hl)
theorem z_ishr {a b : Int} (v : Int) (hv : Int32.ofInt a >>> (Int32.ofInt b &&& 31) = Int32.ofInt v) (hd : decode M.2.2.1 pc = .ok (.ishr, 1)) (k : zV l x g M n Q (pc + 1) L (zi v :: st) d) : zV l x g M n Q pc L (zi b :: zi a :: st) d := by
  obtain ⟨p, e, s, m, args, below, meth, c, A⟩ := x
  intro ok H locs ls hP hD hS hl
  exact lv_ishr ok.1 ok.2.1 hd (by rw [hv]; exact k ok H locs ls hP hD hS hl)
theorem z_iushr {a b : Int} (v : Int) (hv : ((Int32.ofInt a).toUInt32 >>> ((Int32.ofInt b).toUInt32 &&& Int32.toUInt32 31)).toInt32 = Int32.ofInt v) (hd : decode M.2.2.1 pc = .ok (.iushr, 1)) (k : zV l x g M n Q (pc + 1) L (zi v :: st) d) : zV l x g M n Q pc L (zi b :: zi a :: st) d := by
  obtain ⟨p, e, s, m, args, below, meth, c, A⟩ := x
  intro ok H locs ls hP hD hS hl
  exact lv_iushr ok.1 ok.2.1 hd hv (k ok H locs ls hP hD hS hl)
theorem z_idiv {a b : Int} (v : Int) (hb : ¬ Int32.ofInt b = 0) (hv : Int32.ofInt a / Int32.ofInt b = Int32.ofInt v) (hd : decode M.2.2.1 pc = .ok (.idiv, 1)) (k : zV l x g M n Q (pc + 1) L (zi v :: st) d) : zV l x g M n Q pc L (zi b :: zi a :: st) d := by
  obtain ⟨p, e, s, m, args, below, meth, c, A⟩ := x
  intro ok H locs ls hP hD hS hl
  exact lv_idiv ok.1 ok.2.1 hd hb (by rw [hv]; exact k ok H locs ls hP hD hS hl)
theorem z_irem {a b : Int} (v : Int) (hb : ¬ Int32.ofInt b = 0) (hv : Int32.ofInt a - Int32.ofInt a / Int32.ofInt b * Int32.ofInt b = Int32.ofInt v) (hd : decode M.2.2.1 pc = .ok (.irem, 1)) (k : zV l x g M n Q (pc + 1) L (zi v :: st) d) : zV l x g M n Q pc L (zi b :: zi a :: st) d := by
  obtain ⟨p, e, s, m, args, below, meth, c, A⟩ := x
  intro ok H locs ls hP hD hS hl
  exact lv_irem ok.1 ok.2.1 hd hb (by rw [hv]; exact k ok H locs ls hP hD hS hl)
theorem z_dup {v : Value} (hd : decode M.2.2.1 pc = .ok (.dup, 1)) (hv : v.category = 1) (k : zV l x g M n Q (pc + 1) L (v :: v :: st) d) : zV l x g M n Q pc L (v :: st) d := by
  obtain ⟨p, e, s, m, args, below, meth, c, A⟩ := x
  intro ok H locs ls hP hD hS hl
  exact lv_dup ok.1 ok.2.1 hd hv (k ok H locs ls hP hD hS hl)
theorem z_dup2 {v w : Value} (hd : decode M.2.2.1 pc = .ok (.dup2, 1)) (hv : v.category = 1) (hw : w.category = 1) (k : zV l x g M n Q (pc + 1) L (v :: w :: v :: w :: st) d) : zV l x g M n Q pc L (v :: w :: st) d := by
  obtain ⟨p, e, s, m, args, below, meth, c, A⟩ := x
  intro ok H locs ls hP hD hS hl
  exact lv_dup2_11 ok.1 ok.2.1 hd hv hw (k ok H locs ls hP hD hS hl)
theorem z_pop {v : Value} (hd : decode M.2.2.1 pc = .ok (.pop, 1)) (hv : v.category = 1) (k : zV l x g M n Q (pc + 1) L (st) d) : zV l x g M n Q pc L (v :: st) d := by
  obtain ⟨p, e, s, m, args, below, meth, c, A⟩ := x
  intro ok H locs ls hP hD hS hl
  exact lv_pop ok.1 ok.2.1 hd hv (k ok H locs ls hP hD hS hl)
theorem z_pop2 {v : Value} (hd : decode M.2.2.1 pc = .ok (.pop2, 1)) (hv : v.category = 2) (k : zV l x g M n Q (pc + 1) L (st) d) : zV l x g M n Q pc L (v :: st) d := by
  obtain ⟨p, e, s, m, args, below, meth, c, A⟩ := x
  intro ok H locs ls hP hD hS hl
  exact lv_pop2_2 ok.1 ok.2.1 hd hv (k ok H locs ls hP hD hS hl)
theorem z_goto {off : Int} (t : Nat) (hd : decode M.2.2.1 pc = .ok (.goto off, 3)) (ht : (pc : Int) + off = (t : Int)) (k : zV l x g M n Q t L st d) : zV l x g M n Q pc L st d := by
  obtain ⟨p, e, s, m, args, below, meth, c, A⟩ := x
  intro ok H locs ls hP hD hS hl
  exact lv_goto ok.1 ok.2.1 hd ht (k ok H locs ls hP hD hS hl)
theorem z_icmp_eq {a b : Int} {off : Int} (t : Nat) (ha : zin a) (hb : zin b) (hd : decode M.2.2.1 pc = .ok (.if_icmp .eq off, 3)) (ht : (pc : Int) + off = (t : Int)) (kt : a = b → zV l x g M n Q t L st d) (kf : a ≠ b → zV l x g M n Q (pc + 3) L st d) : zV l x g M n Q pc L (zi b :: zi a :: st) d := by
  obtain ⟨p, e, s, m, args, below, meth, c, A⟩ := x
  intro ok H locs ls hP hD hS hl
  exact lv_icmp_eq ok.1 ok.2.1 hd ht (fun hc => kt ((zeq ha hb).mp hc) ok H locs ls hP hD hS hl) (fun hc => kf (fun z => hc ((zeq ha hb).mpr z)) ok H locs ls hP hD hS hl)
theorem z_if_eq {a : Int} {off : Int} (t : Nat) (ha : zin a) (hd : decode M.2.2.1 pc = .ok (.ifCond .eq off, 3)) (ht : (pc : Int) + off = (t : Int)) (kt : a = 0 → zV l x g M n Q t L st d) (kf : a ≠ 0 → zV l x g M n Q (pc + 3) L st d) : zV l x g M n Q pc L (zi a :: st) d := by
  obtain ⟨p, e, s, m, args, below, meth, c, A⟩ := x
  intro ok H locs ls hP hD hS hl
  exact lv_if_eq ok.1 ok.2.1 hd ht (fun hc => kt ((zeq ha zin0).mp hc) ok H locs ls hP hD hS hl) (fun hc => kf (fun z => hc ((zeq ha zin0).mpr z)) ok H locs ls hP hD hS hl)
theorem z_icmp_ne {a b : Int} {off : Int} (t : Nat) (ha : zin a) (hb : zin b) (hd : decode M.2.2.1 pc = .ok (.if_icmp .ne off, 3)) (ht : (pc : Int) + off = (t : Int)) (kt : a ≠ b → zV l x g M n Q t L st d) (kf : a = b → zV l x g M n Q (pc + 3) L st d) : zV l x g M n Q pc L (zi b :: zi a :: st) d := by
  obtain ⟨p, e, s, m, args, below, meth, c, A⟩ := x
  intro ok H locs ls hP hD hS hl
  exact lv_icmp_ne ok.1 ok.2.1 hd ht (fun hc => kt (fun z => hc ((zeq ha hb).mpr z)) ok H locs ls hP hD hS hl) (fun hc => kf ((zeq ha hb).mp hc) ok H locs ls hP hD hS hl)
theorem z_if_ne {a : Int} {off : Int} (t : Nat) (ha : zin a) (hd : decode M.2.2.1 pc = .ok (.ifCond .ne off, 3)) (ht : (pc : Int) + off = (t : Int)) (kt : a ≠ 0 → zV l x g M n Q t L st d) (kf : a = 0 → zV l x g M n Q (pc + 3) L st d) : zV l x g M n Q pc L (zi a :: st) d := by
  obtain ⟨p, e, s, m, args, below, meth, c, A⟩ := x
  intro ok H locs ls hP hD hS hl
  exact lv_if_ne ok.1 ok.2.1 hd ht (fun hc => kt (fun z => hc ((zeq ha zin0).mpr z)) ok H locs ls hP hD hS hl) (fun hc => kf ((zeq ha zin0).mp hc) ok H locs ls hP hD hS hl)
theorem z_icmp_lt {a b : Int} {off : Int} (t : Nat) (ha : zin a) (hb : zin b) (hd : decode M.2.2.1 pc = .ok (.if_icmp .lt off, 3)) (ht : (pc : Int) + off = (t : Int)) (kt : a < b → zV l x g M n Q t L st d) (kf : b ≤ a → zV l x g M n Q (pc + 3) L st d) : zV l x g M n Q pc L (zi b :: zi a :: st) d := by
  obtain ⟨p, e, s, m, args, below, meth, c, A⟩ := x
  intro ok H locs ls hP hD hS hl
  exact lv_icmp_lt ok.1 ok.2.1 hd ht (fun hc => kt ((zlt ha hb).mp hc) ok H locs ls hP hD hS hl) (fun hc => kf (Int.not_lt.mp (fun z => hc ((zlt ha hb).mpr z))) ok H locs ls hP hD hS hl)
theorem z_if_lt {a : Int} {off : Int} (t : Nat) (ha : zin a) (hd : decode M.2.2.1 pc = .ok (.ifCond .lt off, 3)) (ht : (pc : Int) + off = (t : Int)) (kt : a < 0 → zV l x g M n Q t L st d) (kf : 0 ≤ a → zV l x g M n Q (pc + 3) L st d) : zV l x g M n Q pc L (zi a :: st) d := by
  obtain ⟨p, e, s, m, args, below, meth, c, A⟩ := x
  intro ok H locs ls hP hD hS hl
  exact lv_if_lt ok.1 ok.2.1 hd ht (fun hc => kt ((zlt ha zin0).mp hc) ok H locs ls hP hD hS hl) (fun hc => kf (Int.not_lt.mp (fun z => hc ((zlt ha zin0).mpr z))) ok H locs ls hP hD hS hl)
theorem z_icmp_ge {a b : Int} {off : Int} (t : Nat) (ha : zin a) (hb : zin b) (hd : decode M.2.2.1 pc = .ok (.if_icmp .ge off, 3)) (ht : (pc : Int) + off = (t : Int)) (kt : b ≤ a → zV l x g M n Q t L st d) (kf : a < b → zV l x g M n Q (pc + 3) L st d) : zV l x g M n Q pc L (zi b :: zi a :: st) d := by
  obtain ⟨p, e, s, m, args, below, meth, c, A⟩ := x
  intro ok H locs ls hP hD hS hl
  exact lv_icmp_ge ok.1 ok.2.1 hd ht (fun hc => kt ((zle hb ha).mp hc) ok H locs ls hP hD hS hl) (fun hc => kf (Int.not_le.mp (fun z => hc ((zle hb ha).mpr z))) ok H locs ls hP hD hS hl)
theorem z_if_ge {a : Int} {off : Int} (t : Nat) (ha : zin a) (hd : decode M.2.2.1 pc = .ok (.ifCond .ge off, 3)) (ht : (pc : Int) + off = (t : Int)) (kt : 0 ≤ a → zV l x g M n Q t L st d) (kf : a < 0 → zV l x g M n Q (pc + 3) L st d) : zV l x g M n Q pc L (zi a :: st) d := by
  obtain ⟨p, e, s, m, args, below, meth, c, A⟩ := x
  intro ok H locs ls hP hD hS hl
  exact lv_if_ge ok.1 ok.2.1 hd ht (fun hc => kt ((zle zin0 ha).mp hc) ok H locs ls hP hD hS hl) (fun hc => kf (Int.not_le.mp (fun z => hc ((zle zin0 ha).mpr z))) ok H locs ls hP hD hS hl)
theorem z_icmp_gt {a b : Int} {off : Int} (t : Nat) (ha : zin a) (hb : zin b) (hd : decode M.2.2.1 pc = .ok (.if_icmp .gt off, 3)) (ht : (pc : Int) + off = (t : Int)) (kt : b < a → zV l x g M n Q t L st d) (kf : a ≤ b → zV l x g M n Q (pc + 3) L st d) : zV l x g M n Q pc L (zi b :: zi a :: st) d := by
  obtain ⟨p, e, s, m, args, below, meth, c, A⟩ := x
  intro ok H locs ls hP hD hS hl
  exact lv_icmp_gt ok.1 ok.2.1 hd ht (fun hc => kt ((zlt hb ha).mp hc) ok H locs ls hP hD hS hl) (fun hc => kf (Int.not_lt.mp (fun z => hc ((zlt hb ha).mpr z))) ok H locs ls hP hD hS hl)
theorem z_if_gt {a : Int} {off : Int} (t : Nat) (ha : zin a) (hd : decode M.2.2.1 pc = .ok (.ifCond .gt off, 3)) (ht : (pc : Int) + off = (t : Int)) (kt : 0 < a → zV l x g M n Q t L st d) (kf : a ≤ 0 → zV l x g M n Q (pc + 3) L st d) : zV l x g M n Q pc L (zi a :: st) d := by
  obtain ⟨p, e, s, m, args, below, meth, c, A⟩ := x
  intro ok H locs ls hP hD hS hl
  exact lv_if_gt ok.1 ok.2.1 hd ht (fun hc => kt ((zlt zin0 ha).mp hc) ok H locs ls hP hD hS hl) (fun hc => kf (Int.not_lt.mp (fun z => hc ((zlt zin0 ha).mpr z))) ok H locs ls hP hD hS hl)
theorem z_icmp_le {a b : Int} {off : Int} (t : Nat) (ha : zin a) (hb : zin b) (hd : decode M.2.2.1 pc = .ok (.if_icmp .le off, 3)) (ht : (pc : Int) + off = (t : Int)) (kt : a ≤ b → zV l x g M n Q t L st d) (kf : b < a → zV l x g M n Q (pc + 3) L st d) : zV l x g M n Q pc L (zi b :: zi a :: st) d := by
  obtain ⟨p, e, s, m, args, below, meth, c, A⟩ := x
  intro ok H locs ls hP hD hS hl
  exact lv_icmp_le ok.1 ok.2.1 hd ht (fun hc => kt ((zle ha hb).mp hc) ok H locs ls hP hD hS hl) (fun hc => kf (Int.not_le.mp (fun z => hc ((zle ha hb).mpr z))) ok H locs ls hP hD hS hl)
theorem z_if_le {a : Int} {off : Int} (t : Nat) (ha : zin a) (hd : decode M.2.2.1 pc = .ok (.ifCond .le off, 3)) (ht : (pc : Int) + off = (t : Int)) (kt : a ≤ 0 → zV l x g M n Q t L st d) (kf : 0 < a → zV l x g M n Q (pc + 3) L st d) : zV l x g M n Q pc L (zi a :: st) d := by
  obtain ⟨p, e, s, m, args, below, meth, c, A⟩ := x
  intro ok H locs ls hP hD hS hl
  exact lv_if_le ok.1 ok.2.1 hd ht (fun hc => kt ((zle ha zin0).mp hc) ok H locs ls hP hD hS hl) (fun hc => kf (Int.not_le.mp (fun z => hc ((zle ha zin0).mpr z))) ok H locs ls hP hD hS hl)
def zb (b : Bool) : Int := if b then 1 else 0
theorem zb_in (b : Bool) : zin (zb b) := by cases b <;> decide
theorem z_if_eq_b {b : Bool} {off : Int} (t : Nat) (hd : decode M.2.2.1 pc = .ok (.ifCond .eq off, 3)) (ht : (pc : Int) + off = (t : Int)) (kt : b = false → zV l x g M n Q t L st d) (kf : b = true → zV l x g M n Q (pc + 3) L st d) : zV l x g M n Q pc L (zi (zb b) :: st) d :=
  z_if_eq t (zb_in b) hd ht (fun h => kt (by cases b <;> simp_all [zb])) (fun h => kf (by cases b <;> simp_all [zb]))
theorem z_if_ne_b {b : Bool} {off : Int} (t : Nat) (hd : decode M.2.2.1 pc = .ok (.ifCond .ne off, 3)) (ht : (pc : Int) + off = (t : Int)) (kt : b = true → zV l x g M n Q t L st d) (kf : b = false → zV l x g M n Q (pc + 3) L st d) : zV l x g M n Q pc L (zi (zb b) :: st) d :=
  z_if_ne t (zb_in b) hd ht (fun h => kt (by cases b <;> simp_all [zb])) (fun h => kf (by cases b <;> simp_all [zb]))
def zfl (own : String) (idx ci k : Nat) : Prop := ∃ (C : String) (T : u_T) (N : Nat), vwCl[ci]? = some (C, T, N) ∧ k < N ∧ (∀ w ∈ u_ws C T N, w ∈ zTB) ∧
  (Cond.fieldLink own idx (T k).1 (T k).2.1 (T k).2.2.1 ∈ zTB ∨ ∃ host : String, Cond.fieldLinkNest own idx (T k).1 (T k).2.1 (T k).2.2.1 host ∈ zNW)
def zfp (own : String) (idx ci k : Nat) (ty : FieldType) : Prop := ∃ (C : String) (T : u_T) (N : Nat) (ty0 : Nat → FieldType), vwCl[ci]? = some (C, T, N) ∧ k < N ∧ (∀ w ∈ u_ws C T N, w ∈ zTB) ∧
  (Cond.fieldLink own idx (T k).1 (T k).2.1 (T k).2.2.1 ∈ zTB ∨ ∃ host : String, Cond.fieldLinkNest own idx (T k).1 (T k).2.1 (T k).2.2.1 host ∈ zNW) ∧
  (∀ k, k < N → parseFieldDescriptor (T k).2.2.1 = some (ty0 k)) ∧ (∀ a, a < N → ∀ b, b < N → a ≠ b → (T a).2.1 ≠ (T b).2.1) ∧ (T k).2.2.2 = false ∧ parseFieldDescriptor (T k).2.2.1 = some ty
theorem zget {ci k q : Nat} {v : Value} {vs : List Value} {idx : Nat} (hf : zfl M.1 idx ci k) (hq : (zw g d)[q]? = some (g.2.2.1 q, .inr (ci, vs))) (hv : vs[k]? = some v) (hd : decode M.2.2.1 pc = .ok (.getfield idx, 3)) (kk : zV l x g M n Q (pc + 3) L (v :: st) d) : zV l x g M n Q pc L (zr g q :: st) d := by
  obtain ⟨p, e, s, m, args, below, meth, c, A⟩ := x
  intro ok H locs ls hP hD hS hl
  have kk' := kk ok H locs ls hP hD hS hl
  obtain ⟨hx, hb, hml, hown, hts, hr, hK, hA, hlk, hao, ham⟩ := ok
  obtain ⟨C, T, N, hc, hk, hin, hlink⟩ := hf
  rcases hlink with hlink | ⟨host, hlink⟩
  · exact va_get hx hb hts hin hown hK hP q hq hc k hk (hts _ hlink) (fun _ h => h) hv hd kk'
  · exact va_getN (host := host) hx hb hts hin hown hK hP q hq hc k hk (va_Nw.use (by rfl) (hao.2.2.2.2 _ _ _ ham _ hlink)) (fun _ h => h) hv hd kk'
theorem z_geti {ci k q : Nat} {fs : List (Option Nat)} {idx : Nat} (hf : zfl M.1 idx ci k) (hq : q < zN) (hsh : zsh q = .inl (ci, fs)) (hk : fs[k]? = some none) (hd : decode M.2.2.1 pc = .ok (.getfield idx, 3)) (kk : zV l x g M n Q (pc + 3) L (zi (d q k) :: st) d) : zV l x g M n Q pc L (zr g q :: st) d := by
  refine zget hf (by rw [zw_at g d hq, zcell_o g d hsh]) ?_ hd kk
  have := zfv_get_n g (d q) fs 0 k hk
  rwa [Nat.zero_add] at this
theorem z_getr {ci k q t : Nat} {fs : List (Option Nat)} {idx : Nat} (hf : zfl M.1 idx ci k) (hq : q < zN) (hsh : zsh q = .inl (ci, fs)) (hk : fs[k]? = some (some t)) (hd : decode M.2.2.1 pc = .ok (.getfield idx, 3)) (kk : zV l x g M n Q (pc + 3) L (zr g t :: st) d) : zV l x g M n Q pc L (zr g q :: st) d :=
  zget hf (by rw [zw_at g d hq, zcell_o g d hsh]) (zfv_get_s g (d q) fs 0 k hk) hd kk
theorem z_putg {ci k q : Nat} {fs : List (Option Nat)} {idx : Nat} {ty : FieldType} {v : Int} (hf : zfp M.1 idx ci k ty) (hq : q < zN) (hsh : zsh q = .inl (ci, fs)) (hk : fs[k]? = some none) (hn : narrow ty (zi v) = zi v) (hfit : fits ty (zi v) = true) (hd : decode M.2.2.1 pc = .ok (.putfield idx, 3)) (kk : zV l x g M n Q (pc + 3) L st (zu d q k v)) : zV l x g M n Q pc L (zi v :: zr g q :: st) d := by
  obtain ⟨p, e, s, m, args, below, meth, c, A⟩ := x
  intro ok H locs ls hP hD hS hl
  have ok' := ok
  obtain ⟨hx, hb, hml, hown, hts, hr, hK, hA, hlk, hao, ham⟩ := ok
  obtain ⟨C, T, N, ty0, hc, hkN, hin, hlink, hty, hnm, hfin, hpd⟩ := hf
  have hat : (zw g d)[q]? = some (g.2.2.1 q, .inr (ci, zfv g (d q) 0 fs)) := by rw [zw_at g d hq, zcell_o g d hsh]
  have hset : (zw g d).set q (g.2.2.1 q, .inr (ci, (zfv g (d q) 0 fs).set k (zi v))) = zw g (zu d q k v) := by
    refine zw_set g hq (fun j hj => zu_ne hj) ?_
    rw [zcell_o g _ hsh, zfv_set g fs 0 k hk (r' := zu d q k v q) (v := v) (fun j hj => by rw [zu_row]; rw [if_neg (by omega)]) (by rw [Nat.zero_add]; exact zu_at d q k v)]
  have hlen : k < (zfv g (d q) 0 fs).length := by rw [zfv_len]; exact (List.getElem?_eq_some_iff.mp hk).1
  rcases hlink with hlink | ⟨host, hlink⟩
  · exact va_put hx hb hts hin ty0 hty hnm hown hK hP hD hS q hat hc k hkN (hts _ hlink) (fun _ h => h) hfin hpd hn hfit hlen hd (fun H1 locs1 hP1 hD1 hS1 => by rw [hset] at hP1 hD1; exact kk ok' H1 locs1 ls hP1 hD1 hS1 hl)
  · exact va_putN (host := host) hx hb hts hin ty0 hty hnm hown hK hP hD hS q hat hc k hkN (va_Nw.use (by rfl) (hao.2.2.2.2 _ _ _ ham _ hlink)) (fun _ h => h) hfin hpd hn hfit hlen hd (fun H1 locs1 hP1 hD1 hS1 => by rw [hset] at hP1 hD1; exact kk ok' H1 locs1 ls hP1 hD1 hS1 hl)
theorem z_puti {ci k q : Nat} {fs : List (Option Nat)} {idx : Nat} {v : Int} (hf : zfp M.1 idx ci k .int) (hq : q < zN) (hsh : zsh q = .inl (ci, fs)) (hk : fs[k]? = some none) (hd : decode M.2.2.1 pc = .ok (.putfield idx, 3)) (kk : zV l x g M n Q (pc + 3) L st (zu d q k v)) : zV l x g M n Q pc L (zi v :: zr g q :: st) d :=
  z_putg hf hq hsh hk rfl rfl hd kk
theorem z_putb {ci k q : Nat} {fs : List (Option Nat)} {idx : Nat} {b : Bool} (hf : zfp M.1 idx ci k .boolean) (hq : q < zN) (hsh : zsh q = .inl (ci, fs)) (hk : fs[k]? = some none) (hd : decode M.2.2.1 pc = .ok (.putfield idx, 3)) (kk : zV l x g M n Q (pc + 3) L st (zu d q k (zb b))) : zV l x g M n Q pc L (zi (zb b) :: zr g q :: st) d :=
  z_putg hf hq hsh hk (by cases b <;> decide +kernel) (by cases b <;> decide +kernel) hd kk
theorem z_iald {q sz : Nat} {a : Int} (j : Nat) (hq : q < zN) (hsh : zsh q = .inr (0, sz)) (ha : a = (j : Int)) (hj : j < sz) (hsz : sz < 2147483648) (hd : decode M.2.2.1 pc = .ok (.iaload, 1)) (kk : zV l x g M n Q (pc + 1) L (zi (d q j) :: st) d) : zV l x g M n Q pc L (zi a :: zr g q :: st) d := by
  obtain ⟨p, e, s, m, args, below, meth, c, A⟩ := x
  intro ok H locs ls hP hD hS hl
  subst ha
  have kk' := kk ok H locs ls hP hD hS hl
  have hat : (zw g d)[q]? = some (g.2.2.1 q, .inl (g.2.2.2.1 0, sz, .inl (fun i => Int32.ofInt (d q i)))) := by rw [zw_at g d hq, zcell_a g d hsh (by decide)]
  refine va_iald ok.1 ok.2.1 ok.2.2.2.2.2.2.1 hP q 0 hat rfl (zvin hj hsz) hd ?_
  rw [zclamp (by omega)]
  exact kk'
theorem z_bald {q sz : Nat} {a : Int} (j : Nat) (hq : q < zN) (hsh : zsh q = .inr (1, sz)) (ha : a = (j : Int)) (hj : j < sz) (hsz : sz < 2147483648) (hd : decode M.2.2.1 pc = .ok (.baload, 1)) (kk : zV l x g M n Q (pc + 1) L (zi (d q j) :: st) d) : zV l x g M n Q pc L (zi a :: zr g q :: st) d := by
  obtain ⟨p, e, s, m, args, below, meth, c, A⟩ := x
  intro ok H locs ls hP hD hS hl
  subst ha
  have kk' := kk ok H locs ls hP hD hS hl
  have hat : (zw g d)[q]? = some (g.2.2.1 q, .inl (g.2.2.2.1 1, sz, .inl (fun i => Int32.ofInt (d q i)))) := by rw [zw_at g d hq, zcell_a g d hsh (by decide)]
  refine va_zald ok.1 ok.2.1 ok.2.2.2.2.2.2.1 hP q 1 hat rfl (zvin hj hsz) hd ?_
  rw [zclamp (by omega)]
  exact kk'
theorem z_iast {q sz : Nat} {a v : Int} (j : Nat) (hq : q < zN) (hsh : zsh q = .inr (0, sz)) (ha : a = (j : Int)) (hj : j < sz) (hsz : sz < 2147483648) (hd : decode M.2.2.1 pc = .ok (.iastore, 1)) (kk : zV l x g M n Q (pc + 1) L st (zu d q j v)) : zV l x g M n Q pc L (zi v :: zi a :: zr g q :: st) d := by
  obtain ⟨p, e, s, m, args, below, meth, c, A⟩ := x
  intro ok H locs ls hP hD hS hl
  subst ha
  have hat : (zw g d)[q]? = some (g.2.2.1 q, .inl (g.2.2.2.1 0, sz, .inl (fun i => Int32.ofInt (d q i)))) := by rw [zw_at g d hq, zcell_a g d hsh (by decide)]
  have hset : (zw g d).set q (g.2.2.1 q, .inl (g.2.2.2.1 0, sz, .inl (upd (fun i => Int32.ofInt (d q i)) (Int32.ofInt (j : Int)).toNatClampNeg (Int32.ofInt v)))) = zw g (zu d q j v) := by
    refine zw_set g hq (fun i hi => zu_ne hi) ?_
    rw [zcell_a g _ hsh (by decide), zclamp (by omega)]
    congr 4
    funext i
    by_cases hi : i = j
    · subst hi; rw [pk_us, zu_at]
    · rw [pk_un hi, zu_row, if_neg hi]
  exact va_iast ok.1 ok.2.1 ok.2.2.2.2.2.2.1 hP hD hS q 0 hat rfl (zvin hj hsz) hd (fun H1 locs1 hP1 hD1 hS1 => by rw [hset] at hP1 hD1; exact kk ok H1 locs1 ls hP1 hD1 hS1 hl)
theorem z_bast {q sz : Nat} {a : Int} {b : Bool} (j : Nat) (hq : q < zN) (hsh : zsh q = .inr (1, sz)) (ha : a = (j : Int)) (hj : j < sz) (hsz : sz < 2147483648) (hd : decode M.2.2.1 pc = .ok (.bastore, 1)) (kk : zV l x g M n Q (pc + 1) L st (zu d q j (zb b))) : zV l x g M n Q pc L (zi (zb b) :: zi a :: zr g q :: st) d := by
  obtain ⟨p, e, s, m, args, below, meth, c, A⟩ := x
  intro ok H locs ls hP hD hS hl
  subst ha
  have hat : (zw g d)[q]? = some (g.2.2.1 q, .inl (g.2.2.2.1 1, sz, .inl (fun i => Int32.ofInt (d q i)))) := by rw [zw_at g d hq, zcell_a g d hsh (by decide)]
  have hset : (zw g d).set q (g.2.2.1 q, .inl (g.2.2.2.1 1, sz, .inl (upd (fun i => Int32.ofInt (d q i)) (Int32.ofInt (j : Int)).toNatClampNeg (vp_nar .boolean (Int32.ofInt (zb b)))))) = zw g (zu d q j (zb b)) := by
    refine zw_set g hq (fun i hi => zu_ne hi) ?_
    rw [zcell_a g _ hsh (by decide), zclamp (by omega)]
    have hnb : vp_nar .boolean (Int32.ofInt (zb b)) = Int32.ofInt (zb b) := by cases b <;> decide +kernel
    rw [hnb]
    congr 4
    funext i
    by_cases hi : i = j
    · subst hi; rw [pk_us, zu_at]
    · rw [pk_un hi, zu_row, if_neg hi]
  exact va_zast ok.1 ok.2.1 ok.2.2.2.2.2.2.1 hP hD hS q 1 hat rfl (zvin hj hsz) hd (fun H1 locs1 hP1 hD1 hS1 => by rw [hset] at hP1 hD1; exact kk ok H1 locs1 ls hP1 hD1 hS1 hl)
theorem z_alen {q t sz : Nat} (hq : q < zN) (hsh : zsh q = .inr (t, sz)) (ht : t < 2) (hd : decode M.2.2.1 pc = .ok (.arraylength, 1)) (kk : zV l x g M n Q (pc + 1) L (zi (sz : Int) :: st) d) : zV l x g M n Q pc L (zr g q :: st) d := by
  obtain ⟨p, e, s, m, args, below, meth, c, A⟩ := x
  intro ok H locs ls hP hD hS hl
  have kk' := kk ok H locs ls hP hD hS hl
  have hat : (zw g d)[q]? = some (g.2.2.1 q, .inl (g.2.2.2.1 t, sz, .inl (fun i => Int32.ofInt (d q i)))) := by rw [zw_at g d hq, zcell_a g d hsh (by omega)]
  have ht' : ∃ ty, (zty g)[t]? = some (g.2.2.2.1 t, ty) := by
    rcases (show t = 0 ∨ t = 1 by omega) with rfl | rfl
    · exact ⟨_, rfl⟩
    · exact ⟨_, rfl⟩
  obtain ⟨ty, hty⟩ := ht'
  exact va_alen ok.1 ok.2.1 ok.2.2.2.2.2.2.1 hP q t hat hty (v := Int32.ofInt (sz : Int)) rfl hd kk'
/-- fewer locals -/
theorem z_sub {L' : List (Nat × Value)} (ks : List Nat) (hL : lv_pick L ks = L') (k : zV l x g M n Q pc L' st d) : zV l x g M n Q pc L st d := by
  obtain ⟨p, e, s, m, args, below, meth, c, A⟩ := x
  intro ok H locs ls hP hD hS hl
  exact k ok H locs ls hP hD hS (lv_sub hl ks hL)
theorem z_iret {v : Int} (hr : M.2.2.2.2 = some .int) (hd : decode M.2.2.1 pc = .ok (.ireturn, 1)) (hq : Q (some (zi v)) d) : zV l x g M n Q pc L [zi v] d := by
  obtain ⟨p, e, s, m, args, below, meth, c, A⟩ := x
  intro ok H locs ls hP hD hS hl
  obtain ⟨hx, hb, hml, hown, hts, hrt, hK, hA, hlk, hao, ham⟩ := ok
  exact W.iret (v := Int32.ofInt v) hx hb (hrt.trans hr) (fun t ht hW => ⟨⟨_, d, rfl, hq, by rw [ht]; exact hP, va_K.moved hW.alike hK, hD⟩, hS.F ht⟩) hS.2.2 hd hlk
theorem z_bret {b : Bool} (hr : M.2.2.2.2 = some .boolean) (hd : decode M.2.2.1 pc = .ok (.ireturn, 1)) (hq : Q (some (zi (zb b))) d) : zV l x g M n Q pc L [zi (zb b)] d := by
  obtain ⟨p, e, s, m, args, below, meth, c, A⟩ := x
  intro ok H locs ls hP hD hS hl
  obtain ⟨hx, hb, hml, hown, hts, hrt, hK, hA, hlk, hao, ham⟩ := ok
  exact W.zret (v := Int32.ofInt (zb b)) (ty := .boolean) hx hb (hrt.trans hr) (by cases b <;> decide +kernel) (fun t ht hW => ⟨⟨_, d, rfl, hq, by rw [ht]; exact hP, va_K.moved hW.alike hK, hD⟩, hS.F ht⟩) hS.2.2 hd hlk
theorem z_lret {v : Int} (hr : M.2.2.2.2 = some .long) (hd : decode M.2.2.1 pc = .ok (.lreturn, 1)) (hq : Q (some (zl v)) d) : zV l x g M n Q pc L [zl v] d := by
  obtain ⟨p, e, s, m, args, below, meth, c, A⟩ := x
  intro ok H locs ls hP hD hS hl
  obtain ⟨hx, hb, hml, hown, hts, hrt, hK, hA, hlk, hao, ham⟩ := ok
  exact W.lret (v := Int64.ofInt v) hx hb (hrt.trans hr) (fun t ht hW => ⟨⟨_, d, rfl, hq, by rw [ht]; exact hP, va_K.moved hW.alike hK, hD⟩, hS.F ht⟩) hS.2.2 hd hlk
theorem z_vret (hr : M.2.2.2.2 = none) (hd : decode M.2.2.1 pc = .ok (.return_, 1)) (hq : Q none d) : zV l x g M n Q pc L [] d := by
  obtain ⟨p, e, s, m, args, below, meth, c, A⟩ := x
  intro ok H locs ls hP hD hS hl
  obtain ⟨hx, hb, hml, hown, hts, hrt, hK, hA, hlk, hao, ham⟩ := ok
  exact W.vret hx hb (hrt.trans hr) (fun t ht hW => ⟨⟨_, d, rfl, hq, by rw [ht]; exact hP, va_K.moved hW.alike hK, hD⟩, hS.F ht⟩) hS.2.2 hd hlk
end ZR
end
section
/-! calls: what a method is by the tables, how it is reached, and the row of a call -/
def zmk (M : zM) (k : Nat) : Prop := plainName M.2.1.cls = true ∧ M.1 = M.2.1.cls ∧ (M.2.1.cls ≠ "java/lang/invoke/MethodHandle" ∧ M.2.1.cls ≠ "java/lang/invoke/VarHandle" ∧ (parseMethodDescriptor M.2.1.desc).map (fun d => d.parameters.length) = some k) ∧
  Cond.code M.2.1 M.2.2.1 M.2.2.2.1 M.2.2.2.2 ∈ zTB ∧ Cond.initialized M.2.1.cls ∈ zTB ∧ M.2.2.2.1 ≤ 21
def zmi (M : zM) : Prop := Cond.instanceMethod M.2.1 ∈ zTB ∧ Cond.selects M.2.1.cls M.2.1 M.2.1 ∈ zTB
def zms (M : zM) : Prop := Cond.static M.2.1 ∈ zTB
def zml (own : String) (idx : Nat) (M : zM) : Prop := Cond.methodLink own idx M.2.1 ∈ zTB ∨ ∃ host : String, Cond.methodLinkNest own idx M.2.1 host ∈ zNW
theorem zgood {ws : List Cond} (h : ∀ w ∈ ws, w ∈ zTB) : GoodIn zTB ws := fun w hw => ⟨h w hw, good_of_word (List.mem_filter.mp (h w hw)).2⟩
theorem zgood_M {M : zM} {k : Nat} (h : zmk M k) : GoodIn zTB (zws M) := zgood (fun w hw => by
  rcases List.mem_cons.mp hw with rfl | hw
  · exact h.2.2.2.1
  · exact hw)
theorem zC.of {l : Launch} {g : zG} {M : zM} {n : Nat} {av : List Value} {d : zD} {Q : Option Value → zD → Prop} {k : Nat} (hM : zmk M k) (hn : (lg_sl av).length ≤ M.2.2.2.1) (hg : zAmOk g) (body : ∀ x : zX, zV l x g M n Q 0 (lv_args 0 av) [] d) : zC l g M n av d Q := by
  intro sz
  refine Met.ofW (cc := M.2.2.1) (maxL := M.2.2.2.1) (ret := M.2.2.2.2) hM.1 rfl ?_
  intro p e s m args below meth c s₁ B hml hv
  obtain ⟨rfl, hsz, hP, hK, hD0, ham⟩ := hv
  subst hsz
  have hD := hD0.self (sz := s.heap.size)
  have hl := lv_entry av hn
  rw [lg_entry_eq]
  have hts := atoms_spec (ws := zws M) B.pre
  exact body (p, e, s, m, _, below, meth, c, va_A (zw g d) s.heap.size) ⟨B.exec, B.bytes, hml, by rw [hM.2.1]; exact findClass_of_methodNamed B.named, fun w hw => hts w (List.mem_cons_of_mem _ hw), B.returns, hK, fun q h => Or.inr h, B.notSynchronized, hg, ham⟩ s.heap [] _ hP hD va_S.rf hl
section ZCALL
variable {l : Launch} {p : Program} {e : Env} {s : State} {m : MethodId} {args : Array Value} {below : List Frame} {meth : Method} {c : Code} {A : Nat → Prop} {g : zG} {M : zM} {n : Nat} {Q : Option Value → zD → Prop} {pc : Nat} {L : List (Nat × Value)} {st : List Value} {d : zD} {H : Heap} {locs : List Loc} {ls : Array Slot}
theorem zfree (hD : va_D A (zw g d)) (hS : va_S A s.heap H locs) (hA : ∀ q : Nat, s.heap.size ≤ q → A q) : ∀ q, va_A (zw g d) H.size q → A q := by
  intro q h
  rcases h with ⟨k, e, h⟩ | h
  · exact hD.2 k (q, e) h
  · exact hA q (Nat.le_trans hS.1 h)
theorem zpre {av : List Value} (ok : zOk (p, e, s, m, args, below, meth, c, A) g M) (hP : va_P (zgD g) vwCl (zw g d) H) (hD : va_D A (zw g d)) (hS : va_S A s.heap H locs) : FrameBlind (zPc g d av H.size) ∧ ∀ U : State, U.heap = H → s.WarmedH U.vm → zPc g d av H.size av.toArray U := by
  obtain ⟨hx, hb, hml, hown, hts, hr, hK, hA, hlk, hao, ham⟩ := ok
  refine ⟨fun a U g' mk q => ?_, fun U hU hW => ?_⟩
  · obtain ⟨q0, q1, qP, qK, qD, qA⟩ := q
    exact ⟨q0, q1, qP, va_K.moved (u := U) (U := U.calling g' mk a) (Vm.Alike.refl U.vm) qK, qD, hao.2.1 _ U _ _ rfl qA⟩
  · refine ⟨rfl, by rw [hU], by rw [hU]; exact hP, va_K.moved hW.alike hK, hD.weaken (fun _ _ _ _ => trivial), ?_⟩
    rw [hU]
    exact hao.1 _ s U H hW (hao.2.2.2.1 A _ s H (zfree hD hS hA) (hao.2.2.1 A s s.heap H (fun a h1 h2 => hS.2.1 a h1 h2) ham))
theorem zrun {Q' : Option Value → zD → Prop} {a : Array Value} {st0 rest : List Value} (hr : va_Run p l e (zrm n) s m args below meth c H locs 0 0 0 0 (F0 m pc ls st0) rest (zQc g (va_A (zw g d) H.size) Q' a) (va_A (zw g d) H.size)) (ok : zOk (p, e, s, m, args, below, meth, c, A) g M) (hD : va_D A (zw g d)) (hS : va_S A s.heap H locs) (hl : lv_has ls M.2.2.2.1 L)
    (k : ∀ (r : Option Value) (d' : zD), Q' r d' → zV l (p, e, s, m, args, below, meth, c, A) g M n Q (pc + 3) L (r.toList ++ rest) d') : W p l e (zrm n) s m args below meth c H locs 0 0 (MQ below (zQc g A Q) args s 0 0 A) (F0 m pc ls st0) := by
  have hA : ∀ q : Nat, s.heap.size ≤ q → A q := ok.2.2.2.2.2.2.2.1
  have hF := zfree hD hS hA
  intro T hT X
  obtain ⟨v, st₀, t, T', L1, h0, X', hL, e1, e2, ⟨⟨r, d', hv, hq, hP1, hK1, hD1⟩, hz, hk⟩, stp⟩ := hr T hT X
  cases hv
  rw [h0] at hz hk
  obtain ⟨t2, a1, b1⟩ := k _ d' hq ok T'.heap (locs ++ L1) ls (by rw [e1]; exact hP1) (hD1.weaken (fun k q _ h => hF q.1 h)) ⟨Nat.le_trans hS.1 (by rw [e1]; exact hz), fun q h1 h2 => by rw [e1, hk q (Nat.lt_of_lt_of_le h1 hS.1) (fun z => h2 (hF q z))]; exact hS.2.1 q h1 h2, fun q hq => by
      rcases List.mem_append.mp hq with h | h
      · exact hS.2.2 q h
      · exact hF _ (hL q h)⟩ hl T' rfl X'
  exact ⟨t2, stp t2 a1, b1⟩
end ZCALL
section ZCROW
variable {l : Launch} {x : zX} {g : zG} {M : zM} {n : Nat} {Q : Option Value → zD → Prop} {pc : Nat} {L : List (Nat × Value)} {st : List Value} {d : zD}
/-- a call of an object's method -/
theorem z_cv {M' : zM} {n' idx q ci k N : Nat} {fs : List (Option Nat)} {T : u_T} {As st0 : List Value} {Q' : Option Value → zD → Prop} (hc : zC l g M' n' (zr g q :: As) d Q') (hM : zmk M' k) (hi : zmi M') (hlk : zml M.1 idx M') (hn : n' < n) (hq : q < zN) (hsh : zsh q = .inl (ci, fs)) (hcl : vwCl[ci]? = some (M'.2.1.cls, T, N)) (hA : As.length = k) (hst : st0 = As.reverse ++ zr g q :: st) (hw : (st.map fun v => v.category).sum ≤ 8) (hd : decode M.2.2.1 pc = .ok (.invokevirtual idx, 3))
    (kk : ∀ (r : Option Value) (d' : zD), Q' r d' → zV l x g M n Q (pc + 3) L (r.toList ++ st) d') : zV l x g M n Q pc L st0 d := by
  obtain ⟨p, e, s, m, args, below, meth, c, A⟩ := x
  intro ok H locs ls hP hD hS hl
  have ok' := ok
  have hpre := zpre (av := zr g q :: As) ok hP hD hS
  obtain ⟨hx, hb, hml, hown, hts, hr, hK, hAA, hlks, hao, ham⟩ := ok
  have hrec := va_recv hK hP hcl (show (zw g d)[q]? = some (g.2.2.1 q, .inr (ci, zfv g (d q) 0 fs)) by rw [zw_at g d hq, zcell_o g d hsh])
  have hR : (zrm n').frames + 1 ≤ (zrm n).frames ∧ 8 + (M'.2.2.2.1 + 11) + (zrm n').locals ≤ (zrm n).locals := by
    have := hM.2.2.2.2.2
    simp only [zrm]
    omega
  subst hst
  refine zrun (Q' := Q') (a := (zr g q :: As).toArray) (rest := st) ?_ ok' hD hS hl kk
  rcases hlk with hlk | ⟨host, hlk⟩
  · exact va_runV (As := As) (rest := st) (C := M'.2.1.cls) (b := g.2.2.1 q) ⟨hx, hb, hml, hown, hts⟩ (hc H.size) (cwV k hts (zgood (fun w hw => by
      rcases List.mem_append.mp hw with hw | hw
      · simp only [List.mem_cons, List.not_mem_nil, or_false] at hw
        rcases hw with rfl | rfl | rfl | rfl
        · exact hlk
        · exact hi.1
        · exact hi.2
        · exact hM.2.2.2.2.1
      · exact (zgood_M hM w hw).1)) rfl rfl rfl ⟨rfl, hM.2.2.1⟩ hR) ⟨hpre.1, hrec, hpre.2⟩ rfl hA hl.1 rfl (lv_room hw) hd ⟨Nat.le_refl _, Nat.le_refl _⟩
  · exact va_runVN (As := As) (rest := st) (C := M'.2.1.cls) (host := host) (b := g.2.2.1 q) ⟨hx, hb, hml, hown, hts⟩ (hc H.size) ⟨va_cnB k hts (zgood_M hM) rfl rfl rfl (hao.2.2.2.2 _ _ _ ham _ hlk) (hts _ hM.2.2.2.2.1) hM.2.2.1 hR, hts _ hi.1, hts _ hi.2⟩ ⟨hpre.1, hrec, hpre.2⟩ rfl hA hl.1 rfl (lv_room hw) hd ⟨Nat.le_refl _, Nat.le_refl _⟩
/-- a call of a static method -/
theorem z_cs {M' : zM} {n' idx k : Nat} {As st0 : List Value} {Q' : Option Value → zD → Prop} (hc : zC l g M' n' As d Q') (hM : zmk M' k) (hi : zms M') (hlk : zml M.1 idx M') (hn : n' < n) (hA : As.length = k) (hst : st0 = As.reverse ++ st) (hw : (st.map fun v => v.category).sum ≤ 8) (hd : decode M.2.2.1 pc = .ok (.invokestatic idx, 3))
    (kk : ∀ (r : Option Value) (d' : zD), Q' r d' → zV l x g M n Q (pc + 3) L (r.toList ++ st) d') : zV l x g M n Q pc L st0 d := by
  obtain ⟨p, e, s, m, args, below, meth, c, A⟩ := x
  intro ok H locs ls hP hD hS hl
  have ok' := ok
  have hpre := zpre (av := As) ok hP hD hS
  obtain ⟨hx, hb, hml, hown, hts, hr, hK, hAA, hlks, hao, ham⟩ := ok
  have hR : (zrm n').frames + 1 ≤ (zrm n).frames ∧ 8 + (M'.2.2.2.1 + 11) + (zrm n').locals ≤ (zrm n).locals := by
    have := hM.2.2.2.2.2
    simp only [zrm]
    omega
  subst hst
  refine zrun (Q' := Q') (a := As.toArray) (rest := st) ?_ ok' hD hS hl kk
  rcases hlk with hlk | ⟨host, hlk⟩
  · exact va_runS (As := As) (rest := st) ⟨hx, hb, hml, hown, hts⟩ (hc H.size) ⟨callB_of k hts (zgood_M hM) rfl rfl rfl (hts _ hM.2.2.2.2.1) (hts _ hlk) hM.2.2.1 hR, hts _ hi⟩ hpre rfl hA hl.1 rfl (lv_room hw) hd ⟨Nat.le_refl _, Nat.le_refl _⟩
  · exact va_runSN (As := As) (rest := st) (host := host) ⟨hx, hb, hml, hown, hts⟩ (hc H.size) ⟨va_cnB k hts (zgood_M hM) rfl rfl rfl (hao.2.2.2.2 _ _ _ ham _ hlk) (hts _ hM.2.2.2.2.1) hM.2.2.1 hR, hts _ hi, trivial⟩ hpre rfl hA hl.1 rfl (lv_room hw) hd ⟨Nat.le_refl _, Nat.le_refl _⟩
/-- the answer's condition may be weakened -/
theorem zC.mono {av : List Value} {Q Q' : Option Value → zD → Prop} (h : zC l g M n av d Q) (hm : ∀ r d', Q r d' → Q' r d') : zC l g M n av d Q' := by
  intro sz p e ha hc hk s m args below hf happ hP hK
  obtain ⟨t, o, h1, h2, h3, ⟨⟨r, d', hv, hq, h4⟩, h5⟩, h6⟩ := h sz p e ha hc hk s m args below hf happ hP hK
  exact ⟨t, o, h1, h2, h3, ⟨⟨r, d', hv, hm _ _ hq, h4⟩, h5⟩, h6⟩
end ZCROW
end
section
theorem uinX0 : ∀ w ∈ u_ws RX0 TX0 3, w ∈ zTB := by
  have h : ∀ w ∈ wsX00, goodWord w = true := by decide +kernel
  exact fun w hw => zTB_of (inX0 w hw) (h w hw)
theorem uinX1 : ∀ w ∈ u_ws RX1 TX1 10, w ∈ zTB := by
  have h : ∀ w ∈ wsX10, goodWord w = true := by decide +kernel
  exact fun w hw => zTB_of (inX1 w hw) (h w hw)
theorem uinX2 : ∀ w ∈ u_ws RX2 TX2 14, w ∈ zTB := by
  have h : ∀ w ∈ wsX20, goodWord w = true := by decide +kernel
  exact fun w hw => zTB_of (inX2 w hw) (h w hw)
theorem uinX3 : ∀ w ∈ u_ws RX3 TX3 13, w ∈ zTB := by
  have h : ∀ w ∈ wsX30, goodWord w = true := by decide +kernel
  exact fun w hw => zTB_of (inX3 w hw) (h w hw)
theorem uinX4 : ∀ w ∈ u_ws RX4 TX4 8, w ∈ zTB := by
  have h : ∀ w ∈ wsX40, goodWord w = true := by decide +kernel
  exact fun w hw => zTB_of (inX4 w hw) (h w hw)
theorem uinX5 : ∀ w ∈ u_ws RX5 TX5 2, w ∈ zTB := by
  have h : ∀ w ∈ wsX50, goodWord w = true := by decide +kernel
  exact fun w hw => zTB_of (inX5 w hw) (h w hw)
theorem uinX6 : ∀ w ∈ u_ws RX6 TX6 9, w ∈ zTB := by
  have h : ∀ w ∈ wsX60, goodWord w = true := by decide +kernel
  exact fun w hw => zTB_of (inX6 w hw) (h w hw)
theorem uinX7 : ∀ w ∈ u_ws RX7 TX7 11, w ∈ zTB := by
  have h : ∀ w ∈ wsX70, goodWord w = true := by decide +kernel
  exact fun w hw => zTB_of (inX7 w hw) (h w hw)
theorem uinX8 : ∀ w ∈ u_ws RX8 TX8 43, w ∈ zTB := by
  have h : ∀ w ∈ wsX80, goodWord w = true := by decide +kernel
  exact fun w hw => zTB_of (inX8 w hw) (h w hw)
abbrev mX7_init : zM := (RX7, yX7_init, cX7_init, 1, none)
theorem mk_X7_init : zmk mX7_init 0 := ⟨by decide +kernel, rfl, ⟨by decide +kernel, by decide +kernel, by decide +kernel⟩, zTB_in 157 (by decide +kernel) rfl, zTB_in 132 (by decide +kernel) rfl, by decide⟩
abbrev mX2_init : zM := (RX2, yX2_init, cX2_init, 1, none)
theorem mk_X2_init : zmk mX2_init 0 := ⟨by decide +kernel, rfl, ⟨by decide +kernel, by decide +kernel, by decide +kernel⟩, zTB_in 165 (by decide +kernel) rfl, zTB_in 133 (by decide +kernel) rfl, by decide⟩
abbrev mX3_init : zM := (RX3, yX3_init, cX3_init, 3, none)
theorem mk_X3_init : zmk mX3_init 2 := ⟨by decide +kernel, rfl, ⟨by decide +kernel, by decide +kernel, by decide +kernel⟩, zTB_in 244 (by decide +kernel) rfl, zTB_in 134 (by decide +kernel) rfl, by decide⟩
abbrev mX0_init : zM := (RX0, yX0_init, cX0_init, 2, none)
theorem mk_X0_init : zmk mX0_init 1 := ⟨by decide +kernel, rfl, ⟨by decide +kernel, by decide +kernel, by decide +kernel⟩, zTB_in 291 (by decide +kernel) rfl, zTB_in 135 (by decide +kernel) rfl, by decide⟩
abbrev mX5_init : zM := (RX5, yX5_init, cX5_init, 2, none)
theorem mk_X5_init : zmk mX5_init 1 := ⟨by decide +kernel, rfl, ⟨by decide +kernel, by decide +kernel, by decide +kernel⟩, zTB_in 308 (by decide +kernel) rfl, zTB_in 136 (by decide +kernel) rfl, by decide⟩
abbrev mX6_init : zM := (RX6, yX6_init, cX6_init, 4, none)
theorem mk_X6_init : zmk mX6_init 3 := ⟨by decide +kernel, rfl, ⟨by decide +kernel, by decide +kernel, by decide +kernel⟩, zTB_in 321 (by decide +kernel) rfl, zTB_in 137 (by decide +kernel) rfl, by decide⟩
abbrev mX4_init : zM := (RX4, yX4_init, cX4_init, 4, none)
theorem mk_X4_init : zmk mX4_init 3 := ⟨by decide +kernel, rfl, ⟨by decide +kernel, by decide +kernel, by decide +kernel⟩, zTB_in 361 (by decide +kernel) rfl, zTB_in 138 (by decide +kernel) rfl, by decide⟩
abbrev mX1_init : zM := (RX1, yX1_init, cX1_init, 4, none)
theorem mk_X1_init : zmk mX1_init 3 := ⟨by decide +kernel, rfl, ⟨by decide +kernel, by decide +kernel, by decide +kernel⟩, zTB_in 394 (by decide +kernel) rfl, zTB_in 139 (by decide +kernel) rfl, by decide⟩
abbrev mX7_takeTold : zM := (RX7, yX7_takeTold, cX7_takeTold, 1, none)
theorem mk_X7_takeTold : zmk mX7_takeTold 0 := ⟨by decide +kernel, rfl, ⟨by decide +kernel, by decide +kernel, by decide +kernel⟩, zTB_in 432 (by decide +kernel) rfl, zTB_in 132 (by decide +kernel) rfl, by decide⟩
theorem mi_X7_takeTold : zmi mX7_takeTold := ⟨zTB_in 431 (by decide +kernel) rfl, zTB_in 0 (by decide +kernel) rfl⟩
abbrev mX0_takeLeast : zM := (RX0, yX0_takeLeast, cX0_takeLeast, 4, none)
theorem mk_X0_takeLeast : zmk mX0_takeLeast 0 := ⟨by decide +kernel, rfl, ⟨by decide +kernel, by decide +kernel, by decide +kernel⟩, zTB_in 436 (by decide +kernel) rfl, zTB_in 135 (by decide +kernel) rfl, by decide⟩
theorem mi_X0_takeLeast : zmi mX0_takeLeast := ⟨zTB_in 435 (by decide +kernel) rfl, zTB_in 1 (by decide +kernel) rfl⟩
abbrev mX0_leastNext : zM := (RX0, yX0_leastNext, cX0_leastNext, 3, (some .int))
theorem mk_X0_leastNext : zmk mX0_leastNext 1 := ⟨by decide +kernel, rfl, ⟨by decide +kernel, by decide +kernel, by decide +kernel⟩, zTB_in 440 (by decide +kernel) rfl, zTB_in 135 (by decide +kernel) rfl, by decide⟩
theorem mi_X0_leastNext : zmi mX0_leastNext := ⟨zTB_in 439 (by decide +kernel) rfl, zTB_in 2 (by decide +kernel) rfl⟩
abbrev mX7_isIn : zM := (RX7, yX7_isIn, cX7_isIn, 2, (some .boolean))
theorem mk_X7_isIn : zmk mX7_isIn 2 := ⟨by decide +kernel, rfl, ⟨by decide +kernel, by decide +kernel, by decide +kernel⟩, zTB_in 443 (by decide +kernel) rfl, zTB_in 132 (by decide +kernel) rfl, by decide⟩
theorem ms_X7_isIn : zms mX7_isIn := zTB_in 442 (by decide +kernel) rfl
abbrev mX0_areChildrenIn : zM := (RX0, yX0_areChildrenIn, cX0_areChildrenIn, 4, (some .boolean))
theorem mk_X0_areChildrenIn : zmk mX0_areChildrenIn 2 := ⟨by decide +kernel, rfl, ⟨by decide +kernel, by decide +kernel, by decide +kernel⟩, zTB_in 447 (by decide +kernel) rfl, zTB_in 135 (by decide +kernel) rfl, by decide⟩
theorem mi_X0_areChildrenIn : zmi mX0_areChildrenIn := ⟨zTB_in 446 (by decide +kernel) rfl, zTB_in 3 (by decide +kernel) rfl⟩
abbrev mX5_takeAll : zM := (RX5, yX5_takeAll, cX5_takeAll, 2, none)
theorem mk_X5_takeAll : zmk mX5_takeAll 0 := ⟨by decide +kernel, rfl, ⟨by decide +kernel, by decide +kernel, by decide +kernel⟩, zTB_in 451 (by decide +kernel) rfl, zTB_in 136 (by decide +kernel) rfl, by decide⟩
theorem mi_X5_takeAll : zmi mX5_takeAll := ⟨zTB_in 450 (by decide +kernel) rfl, zTB_in 4 (by decide +kernel) rfl⟩
abbrev mX5_takeVoter : zM := (RX5, yX5_takeVoter, cX5_takeVoter, 7, none)
theorem mk_X5_takeVoter : zmk mX5_takeVoter 1 := ⟨by decide +kernel, rfl, ⟨by decide +kernel, by decide +kernel, by decide +kernel⟩, zTB_in 455 (by decide +kernel) rfl, zTB_in 136 (by decide +kernel) rfl, by decide⟩
theorem mi_X5_takeVoter : zmi mX5_takeVoter := ⟨zTB_in 454 (by decide +kernel) rfl, zTB_in 5 (by decide +kernel) rfl⟩
abbrev mX5_takeJoint : zM := (RX5, yX5_takeJoint, cX5_takeJoint, 5, none)
theorem mk_X5_takeJoint : zmk mX5_takeJoint 3 := ⟨by decide +kernel, rfl, ⟨by decide +kernel, by decide +kernel, by decide +kernel⟩, zTB_in 459 (by decide +kernel) rfl, zTB_in 136 (by decide +kernel) rfl, by decide⟩
theorem mi_X5_takeJoint : zmi mX5_takeJoint := ⟨zTB_in 458 (by decide +kernel) rfl, zTB_in 6 (by decide +kernel) rfl⟩
abbrev mX6_takeForms : zM := (RX6, yX6_takeForms, cX6_takeForms, 3, none)
theorem mk_X6_takeForms : zmk mX6_takeForms 0 := ⟨by decide +kernel, rfl, ⟨by decide +kernel, by decide +kernel, by decide +kernel⟩, zTB_in 463 (by decide +kernel) rfl, zTB_in 137 (by decide +kernel) rfl, by decide⟩
theorem mi_X6_takeForms : zmi mX6_takeForms := ⟨zTB_in 462 (by decide +kernel) rfl, zTB_in 7 (by decide +kernel) rfl⟩
abbrev mX2_formOf : zM := (RX2, yX2_formOf, cX2_formOf, 6, (some .int))
theorem mk_X2_formOf : zmk mX2_formOf 1 := ⟨by decide +kernel, rfl, ⟨by decide +kernel, by decide +kernel, by decide +kernel⟩, zTB_in 467 (by decide +kernel) rfl, zTB_in 133 (by decide +kernel) rfl, by decide⟩
theorem mi_X2_formOf : zmi mX2_formOf := ⟨zTB_in 466 (by decide +kernel) rfl, zTB_in 8 (by decide +kernel) rfl⟩
abbrev mX2_plusOf : zM := (RX2, yX2_plusOf, cX2_plusOf, 5, (some .int))
theorem mk_X2_plusOf : zmk mX2_plusOf 2 := ⟨by decide +kernel, rfl, ⟨by decide +kernel, by decide +kernel, by decide +kernel⟩, zTB_in 472 (by decide +kernel) rfl, zTB_in 133 (by decide +kernel) rfl, by decide⟩
theorem mi_X2_plusOf : zmi mX2_plusOf := ⟨zTB_in 471 (by decide +kernel) rfl, zTB_in 9 (by decide +kernel) rfl⟩
abbrev mX1_takeOpen : zM := (RX1, yX1_takeOpen, cX1_takeOpen, 4, none)
theorem mk_X1_takeOpen : zmk mX1_takeOpen 0 := ⟨by decide +kernel, rfl, ⟨by decide +kernel, by decide +kernel, by decide +kernel⟩, zTB_in 476 (by decide +kernel) rfl, zTB_in 139 (by decide +kernel) rfl, by decide⟩
theorem mi_X1_takeOpen : zmi mX1_takeOpen := ⟨zTB_in 475 (by decide +kernel) rfl, zTB_in 10 (by decide +kernel) rfl⟩
abbrev mJ7_fill_53178 : zM := (RJ7, yJ7_fill_53178, cJ7_fill_53178, 4, none)
theorem mk_J7_fill_53178 : zmk mJ7_fill_53178 2 := ⟨by decide +kernel, rfl, ⟨by decide +kernel, by decide +kernel, by decide +kernel⟩, zTB_in 479 (by decide +kernel) rfl, zTB_in 140 (by decide +kernel) rfl, by decide⟩
theorem ms_J7_fill_53178 : zms mJ7_fill_53178 := zTB_in 478 (by decide +kernel) rfl
abbrev mX1_forgetBeaten : zM := (RX1, yX1_forgetBeaten, cX1_forgetBeaten, 1, none)
theorem mk_X1_forgetBeaten : zmk mX1_forgetBeaten 0 := ⟨by decide +kernel, rfl, ⟨by decide +kernel, by decide +kernel, by decide +kernel⟩, zTB_in 484 (by decide +kernel) rfl, zTB_in 139 (by decide +kernel) rfl, by decide⟩
theorem mi_X1_forgetBeaten : zmi mX1_forgetBeaten := ⟨zTB_in 483 (by decide +kernel) rfl, zTB_in 11 (by decide +kernel) rfl⟩
abbrev mX7_feed : zM := (RX7, yX7_feed, cX7_feed, 6, (some .int))
theorem mk_X7_feed : zmk mX7_feed 5 := ⟨by decide +kernel, rfl, ⟨by decide +kernel, by decide +kernel, by decide +kernel⟩, zTB_in 522 (by decide +kernel) rfl, zTB_in 132 (by decide +kernel) rfl, by decide⟩
theorem mi_X7_feed : zmi mX7_feed := ⟨zTB_in 520 (by decide +kernel) rfl, zTB_in 521 (by decide +kernel) rfl⟩
abbrev mX7_putBytes : zM := (RX7, yX7_putBytes, cX7_putBytes, 3, none)
theorem mk_X7_putBytes : zmk mX7_putBytes 1 := ⟨by decide +kernel, rfl, ⟨by decide +kernel, by decide +kernel, by decide +kernel⟩, zTB_in 526 (by decide +kernel) rfl, zTB_in 132 (by decide +kernel) rfl, by decide⟩
theorem mi_X7_putBytes : zmi mX7_putBytes := ⟨zTB_in 525 (by decide +kernel) rfl, zTB_in 12 (by decide +kernel) rfl⟩
abbrev mX7_end : zM := (RX7, yX7_end, cX7_end, 2, (some .boolean))
theorem mk_X7_end : zmk mX7_end 1 := ⟨by decide +kernel, rfl, ⟨by decide +kernel, by decide +kernel, by decide +kernel⟩, zTB_in 530 (by decide +kernel) rfl, zTB_in 132 (by decide +kernel) rfl, by decide⟩
theorem mi_X7_end : zmi mX7_end := ⟨zTB_in 528 (by decide +kernel) rfl, zTB_in 529 (by decide +kernel) rfl⟩
abbrev mX7_tell : zM := (RX7, yX7_tell, cX7_tell, 2, (some .int))
theorem mk_X7_tell : zmk mX7_tell 0 := ⟨by decide +kernel, rfl, ⟨by decide +kernel, by decide +kernel, by decide +kernel⟩, zTB_in 534 (by decide +kernel) rfl, zTB_in 132 (by decide +kernel) rfl, by decide⟩
theorem mi_X7_tell : zmi mX7_tell := ⟨zTB_in 532 (by decide +kernel) rfl, zTB_in 533 (by decide +kernel) rfl⟩
abbrev mX3_readText : zM := (RX3, yX3_readText, cX3_readText, 3, (some .int))
theorem mk_X3_readText : zmk mX3_readText 1 := ⟨by decide +kernel, rfl, ⟨by decide +kernel, by decide +kernel, by decide +kernel⟩, zTB_in 538 (by decide +kernel) rfl, zTB_in 134 (by decide +kernel) rfl, by decide⟩
theorem mi_X3_readText : zmi mX3_readText := ⟨zTB_in 537 (by decide +kernel) rfl, zTB_in 13 (by decide +kernel) rfl⟩
abbrev mJ9_min_7cf53 : zM := (RJ9, yJ9_min_7cf53, cJ9_min_7cf53, 2, (some .int))
abbrev mJ9_max_7cf53 : zM := (RJ9, yJ9_max_7cf53, cJ9_max_7cf53, 2, (some .int))
abbrev mX2_clear : zM := (RX2, yX2_clear, cX2_clear, 1, none)
theorem mk_X2_clear : zmk mX2_clear 0 := ⟨by decide +kernel, rfl, ⟨by decide +kernel, by decide +kernel, by decide +kernel⟩, zTB_in 548 (by decide +kernel) rfl, zTB_in 133 (by decide +kernel) rfl, by decide⟩
theorem mi_X2_clear : zmi mX2_clear := ⟨zTB_in 547 (by decide +kernel) rfl, zTB_in 14 (by decide +kernel) rfl⟩
abbrev mX3_step : zM := (RX3, yX3_step, cX3_step, 1, none)
theorem mk_X3_step : zmk mX3_step 0 := ⟨by decide +kernel, rfl, ⟨by decide +kernel, by decide +kernel, by decide +kernel⟩, zTB_in 553 (by decide +kernel) rfl, zTB_in 134 (by decide +kernel) rfl, by decide⟩
theorem mi_X3_step : zmi mX3_step := ⟨zTB_in 552 (by decide +kernel) rfl, zTB_in 15 (by decide +kernel) rfl⟩
abbrev mX3_endOfRun : zM := (RX3, yX3_endOfRun, cX3_endOfRun, 4, (some .int))
theorem mk_X3_endOfRun : zmk mX3_endOfRun 2 := ⟨by decide +kernel, rfl, ⟨by decide +kernel, by decide +kernel, by decide +kernel⟩, zTB_in 557 (by decide +kernel) rfl, zTB_in 134 (by decide +kernel) rfl, by decide⟩
theorem mi_X3_endOfRun : zmi mX3_endOfRun := ⟨zTB_in 556 (by decide +kernel) rfl, zTB_in 16 (by decide +kernel) rfl⟩
abbrev mX3_takeNumber : zM := (RX3, yX3_takeNumber, cX3_takeNumber, 2, none)
theorem mk_X3_takeNumber : zmk mX3_takeNumber 0 := ⟨by decide +kernel, rfl, ⟨by decide +kernel, by decide +kernel, by decide +kernel⟩, zTB_in 561 (by decide +kernel) rfl, zTB_in 134 (by decide +kernel) rfl, by decide⟩
theorem mi_X3_takeNumber : zmi mX3_takeNumber := ⟨zTB_in 560 (by decide +kernel) rfl, zTB_in 17 (by decide +kernel) rfl⟩
abbrev mX3_statement : zM := (RX3, yX3_statement, cX3_statement, 2, (some .boolean))
theorem mk_X3_statement : zmk mX3_statement 0 := ⟨by decide +kernel, rfl, ⟨by decide +kernel, by decide +kernel, by decide +kernel⟩, zTB_in 565 (by decide +kernel) rfl, zTB_in 134 (by decide +kernel) rfl, by decide⟩
theorem mi_X3_statement : zmi mX3_statement := ⟨zTB_in 564 (by decide +kernel) rfl, zTB_in 18 (by decide +kernel) rfl⟩
abbrev mX3_isWord : zM := (RX3, yX3_isWord, cX3_isWord, 3, (some .boolean))
theorem mk_X3_isWord : zmk mX3_isWord 1 := ⟨by decide +kernel, rfl, ⟨by decide +kernel, by decide +kernel, by decide +kernel⟩, zTB_in 570 (by decide +kernel) rfl, zTB_in 134 (by decide +kernel) rfl, by decide⟩
theorem mi_X3_isWord : zmi mX3_isWord := ⟨zTB_in 569 (by decide +kernel) rfl, zTB_in 19 (by decide +kernel) rfl⟩
abbrev mJ0_length_8abf5 : zM := (RJ0, yJ0_length_8abf5, cJ0_length_8abf5, 1, (some .int))
theorem mk_J0_length_8abf5 : zmk mJ0_length_8abf5 0 := ⟨by decide +kernel, rfl, ⟨by decide +kernel, by decide +kernel, by decide +kernel⟩, zTB_in 574 (by decide +kernel) rfl, zTB_in 143 (by decide +kernel) rfl, by decide⟩
theorem mi_J0_length_8abf5 : zmi mJ0_length_8abf5 := ⟨zTB_in 572 (by decide +kernel) rfl, zTB_in 573 (by decide +kernel) rfl⟩
abbrev mJ0_coder_7d493 : zM := (RJ0, yJ0_coder_7d493, cJ0_coder_7d493, 1, (some .byte))
theorem mk_J0_coder_7d493 : zmk mJ0_coder_7d493 0 := ⟨by decide +kernel, rfl, ⟨by decide +kernel, by decide +kernel, by decide +kernel⟩, zTB_in 578 (by decide +kernel) rfl, zTB_in 143 (by decide +kernel) rfl, by decide⟩
theorem mi_J0_coder_7d493 : zmi mJ0_coder_7d493 := ⟨zTB_in 576 (by decide +kernel) rfl, zTB_in 577 (by decide +kernel) rfl⟩
abbrev mJ0_charAt_5068e : zM := (RJ0, yJ0_charAt_5068e, cJ0_charAt_5068e, 2, (some .char))
theorem mk_J0_charAt_5068e : zmk mJ0_charAt_5068e 1 := ⟨by decide +kernel, rfl, ⟨by decide +kernel, by decide +kernel, by decide +kernel⟩, zTB_in 584 (by decide +kernel) rfl, zTB_in 143 (by decide +kernel) rfl, by decide⟩
theorem mi_J0_charAt_5068e : zmi mJ0_charAt_5068e := ⟨zTB_in 582 (by decide +kernel) rfl, zTB_in 583 (by decide +kernel) rfl⟩
abbrev mJ0_isLatin1_aae02 : zM := (RJ0, yJ0_isLatin1_aae02, cJ0_isLatin1_aae02, 1, (some .boolean))
theorem mk_J0_isLatin1_aae02 : zmk mJ0_isLatin1_aae02 0 := ⟨by decide +kernel, rfl, ⟨by decide +kernel, by decide +kernel, by decide +kernel⟩, zTB_in 588 (by decide +kernel) rfl, zTB_in 143 (by decide +kernel) rfl, by decide⟩
theorem mi_J0_isLatin1_aae02 : zmi mJ0_isLatin1_aae02 := ⟨zTB_in 586 (by decide +kernel) rfl, zTB_in 587 (by decide +kernel) rfl⟩
abbrev mJ1_charAt_3b067 : zM := (RJ1, yJ1_charAt_3b067, cJ1_charAt_3b067, 2, (some .char))
theorem mk_J1_charAt_3b067 : zmk mJ1_charAt_3b067 2 := ⟨by decide +kernel, rfl, ⟨by decide +kernel, by decide +kernel, by decide +kernel⟩, zTB_in 591 (by decide +kernel) rfl, zTB_in 144 (by decide +kernel) rfl, by decide⟩
theorem ms_J1_charAt_3b067 : zms mJ1_charAt_3b067 := zTB_in 590 (by decide +kernel) rfl
abbrev mJ0_checkIndex_df160 : zM := (RJ0, yJ0_checkIndex_df160, cJ0_checkIndex_df160, 2, none)
theorem mk_J0_checkIndex_df160 : zmk mJ0_checkIndex_df160 2 := ⟨by decide +kernel, rfl, ⟨by decide +kernel, by decide +kernel, by decide +kernel⟩, zTB_in 594 (by decide +kernel) rfl, zTB_in 143 (by decide +kernel) rfl, by decide⟩
theorem ms_J0_checkIndex_df160 : zms mJ0_checkIndex_df160 := zTB_in 593 (by decide +kernel) rfl
abbrev mJ3_checkIndex_8e157 : zM := (RJ3, yJ3_checkIndex_8e157, cJ3_checkIndex_8e157, 3, (some .int))
theorem mk_J3_checkIndex_8e157 : zmk mJ3_checkIndex_8e157 3 := ⟨by decide +kernel, rfl, ⟨by decide +kernel, by decide +kernel, by decide +kernel⟩, zTB_in 599 (by decide +kernel) rfl, zTB_in 145 (by decide +kernel) rfl, by decide⟩
theorem ms_J3_checkIndex_8e157 : zms mJ3_checkIndex_8e157 := zTB_in 598 (by decide +kernel) rfl
abbrev mJ2_charAt_3b067 : zM := (RJ2, yJ2_charAt_3b067, cJ2_charAt_3b067, 2, (some .char))
theorem mk_J2_charAt_3b067 : zmk mJ2_charAt_3b067 2 := ⟨by decide +kernel, rfl, ⟨by decide +kernel, by decide +kernel, by decide +kernel⟩, zTB_in 602 (by decide +kernel) rfl, zTB_in 146 (by decide +kernel) rfl, by decide⟩
theorem ms_J2_charAt_3b067 : zms mJ2_charAt_3b067 := zTB_in 601 (by decide +kernel) rfl
abbrev mJ2_checkIndex_2214a : zM := (RJ2, yJ2_checkIndex_2214a, cJ2_checkIndex_2214a, 2, none)
theorem mk_J2_checkIndex_2214a : zmk mJ2_checkIndex_2214a 2 := ⟨by decide +kernel, rfl, ⟨by decide +kernel, by decide +kernel, by decide +kernel⟩, zTB_in 605 (by decide +kernel) rfl, zTB_in 146 (by decide +kernel) rfl, by decide⟩
theorem ms_J2_checkIndex_2214a : zms mJ2_checkIndex_2214a := zTB_in 604 (by decide +kernel) rfl
abbrev mJ2_length_9d52b : zM := (RJ2, yJ2_length_9d52b, cJ2_length_9d52b, 1, (some .int))
theorem mk_J2_length_9d52b : zmk mJ2_length_9d52b 1 := ⟨by decide +kernel, rfl, ⟨by decide +kernel, by decide +kernel, by decide +kernel⟩, zTB_in 608 (by decide +kernel) rfl, zTB_in 146 (by decide +kernel) rfl, by decide⟩
theorem ms_J2_length_9d52b : zms mJ2_length_9d52b := zTB_in 607 (by decide +kernel) rfl
abbrev mJ2_getChar_3b067 : zM := (RJ2, yJ2_getChar_3b067, cJ2_getChar_3b067, 2, (some .char))
theorem mk_J2_getChar_3b067 : zmk mJ2_getChar_3b067 2 := ⟨by decide +kernel, rfl, ⟨by decide +kernel, by decide +kernel, by decide +kernel⟩, zTB_in 612 (by decide +kernel) rfl, zTB_in 146 (by decide +kernel) rfl, by decide⟩
theorem ms_J2_getChar_3b067 : zms mJ2_getChar_3b067 := zTB_in 611 (by decide +kernel) rfl
abbrev mX3_bill : zM := (RX3, yX3_bill, cX3_bill, 1, (some .boolean))
theorem mk_X3_bill : zmk mX3_bill 0 := ⟨by decide +kernel, rfl, ⟨by decide +kernel, by decide +kernel, by decide +kernel⟩, zTB_in 622 (by decide +kernel) rfl, zTB_in 134 (by decide +kernel) rfl, by decide⟩
theorem mi_X3_bill : zmi mX3_bill := ⟨zTB_in 621 (by decide +kernel) rfl, zTB_in 20 (by decide +kernel) rfl⟩
abbrev mX3_refuse : zM := (RX3, yX3_refuse, cX3_refuse, 2, (some .boolean))
theorem mk_X3_refuse : zmk mX3_refuse 1 := ⟨by decide +kernel, rfl, ⟨by decide +kernel, by decide +kernel, by decide +kernel⟩, zTB_in 626 (by decide +kernel) rfl, zTB_in 134 (by decide +kernel) rfl, by decide⟩
theorem mi_X3_refuse : zmi mX3_refuse := ⟨zTB_in 625 (by decide +kernel) rfl, zTB_in 21 (by decide +kernel) rfl⟩
abbrev mX3_clauseSet : zM := (RX3, yX3_clauseSet, cX3_clauseSet, 5, (some .boolean))
theorem mk_X3_clauseSet : zmk mX3_clauseSet 1 := ⟨by decide +kernel, rfl, ⟨by decide +kernel, by decide +kernel, by decide +kernel⟩, zTB_in 630 (by decide +kernel) rfl, zTB_in 134 (by decide +kernel) rfl, by decide⟩
theorem mi_X3_clauseSet : zmi mX3_clauseSet := ⟨zTB_in 629 (by decide +kernel) rfl, zTB_in 22 (by decide +kernel) rfl⟩
abbrev mX7_isClause : zM := (RX7, yX7_isClause, cX7_isClause, 1, (some .boolean))
theorem mk_X7_isClause : zmk mX7_isClause 1 := ⟨by decide +kernel, rfl, ⟨by decide +kernel, by decide +kernel, by decide +kernel⟩, zTB_in 633 (by decide +kernel) rfl, zTB_in 132 (by decide +kernel) rfl, by decide⟩
theorem ms_X7_isClause : zms mX7_isClause := zTB_in 632 (by decide +kernel) rfl
abbrev mX3_amendment : zM := (RX3, yX3_amendment, cX3_amendment, 3, (some .boolean))
theorem mk_X3_amendment : zmk mX3_amendment 0 := ⟨by decide +kernel, rfl, ⟨by decide +kernel, by decide +kernel, by decide +kernel⟩, zTB_in 639 (by decide +kernel) rfl, zTB_in 134 (by decide +kernel) rfl, by decide⟩
theorem mi_X3_amendment : zmi mX3_amendment := ⟨zTB_in 638 (by decide +kernel) rfl, zTB_in 23 (by decide +kernel) rfl⟩
abbrev mX3_target : zM := (RX3, yX3_target, cX3_target, 1, (some .boolean))
theorem mk_X3_target : zmk mX3_target 0 := ⟨by decide +kernel, rfl, ⟨by decide +kernel, by decide +kernel, by decide +kernel⟩, zTB_in 643 (by decide +kernel) rfl, zTB_in 134 (by decide +kernel) rfl, by decide⟩
theorem mi_X3_target : zmi mX3_target := ⟨zTB_in 642 (by decide +kernel) rfl, zTB_in 24 (by decide +kernel) rfl⟩
abbrev mX3_canBeAmended : zM := (RX3, yX3_canBeAmended, cX3_canBeAmended, 2, (some .boolean))
theorem mk_X3_canBeAmended : zmk mX3_canBeAmended 1 := ⟨by decide +kernel, rfl, ⟨by decide +kernel, by decide +kernel, by decide +kernel⟩, zTB_in 648 (by decide +kernel) rfl, zTB_in 134 (by decide +kernel) rfl, by decide⟩
theorem mi_X3_canBeAmended : zmi mX3_canBeAmended := ⟨zTB_in 647 (by decide +kernel) rfl, zTB_in 25 (by decide +kernel) rfl⟩
abbrev mX2_hasMotion : zM := (RX2, yX2_hasMotion, cX2_hasMotion, 2, (some .boolean))
theorem mk_X2_hasMotion : zmk mX2_hasMotion 1 := ⟨by decide +kernel, rfl, ⟨by decide +kernel, by decide +kernel, by decide +kernel⟩, zTB_in 652 (by decide +kernel) rfl, zTB_in 133 (by decide +kernel) rfl, by decide⟩
theorem mi_X2_hasMotion : zmi mX2_hasMotion := ⟨zTB_in 651 (by decide +kernel) rfl, zTB_in 26 (by decide +kernel) rfl⟩
abbrev mX3_isSign : zM := (RX3, yX3_isSign, cX3_isSign, 2, (some .boolean))
theorem mk_X3_isSign : zmk mX3_isSign 1 := ⟨by decide +kernel, rfl, ⟨by decide +kernel, by decide +kernel, by decide +kernel⟩, zTB_in 656 (by decide +kernel) rfl, zTB_in 134 (by decide +kernel) rfl, by decide⟩
theorem mi_X3_isSign : zmi mX3_isSign := ⟨zTB_in 655 (by decide +kernel) rfl, zTB_in 27 (by decide +kernel) rfl⟩
abbrev mX2_addMotion : zM := (RX2, yX2_addMotion, cX2_addMotion, 5, none)
theorem mk_X2_addMotion : zmk mX2_addMotion 4 := ⟨by decide +kernel, rfl, ⟨by decide +kernel, by decide +kernel, by decide +kernel⟩, zTB_in 660 (by decide +kernel) rfl, zTB_in 133 (by decide +kernel) rfl, by decide⟩
theorem mi_X2_addMotion : zmi mX2_addMotion := ⟨zTB_in 659 (by decide +kernel) rfl, zTB_in 28 (by decide +kernel) rfl⟩
abbrev mX3_substitute : zM := (RX3, yX3_substitute, cX3_substitute, 1, (some .boolean))
theorem mk_X3_substitute : zmk mX3_substitute 0 := ⟨by decide +kernel, rfl, ⟨by decide +kernel, by decide +kernel, by decide +kernel⟩, zTB_in 664 (by decide +kernel) rfl, zTB_in 134 (by decide +kernel) rfl, by decide⟩
theorem mi_X3_substitute : zmi mX3_substitute := ⟨zTB_in 663 (by decide +kernel) rfl, zTB_in 29 (by decide +kernel) rfl⟩
abbrev mX3_voter : zM := (RX3, yX3_voter, cX3_voter, 5, (some .boolean))
theorem mk_X3_voter : zmk mX3_voter 0 := ⟨by decide +kernel, rfl, ⟨by decide +kernel, by decide +kernel, by decide +kernel⟩, zTB_in 669 (by decide +kernel) rfl, zTB_in 134 (by decide +kernel) rfl, by decide⟩
theorem mi_X3_voter : zmi mX3_voter := ⟨zTB_in 668 (by decide +kernel) rfl, zTB_in 30 (by decide +kernel) rfl⟩
abbrev mX3_signedWeight : zM := (RX3, yX3_signedWeight, cX3_signedWeight, 2, (some .boolean))
theorem mk_X3_signedWeight : zmk mX3_signedWeight 0 := ⟨by decide +kernel, rfl, ⟨by decide +kernel, by decide +kernel, by decide +kernel⟩, zTB_in 673 (by decide +kernel) rfl, zTB_in 134 (by decide +kernel) rfl, by decide⟩
theorem mi_X3_signedWeight : zmi mX3_signedWeight := ⟨zTB_in 672 (by decide +kernel) rfl, zTB_in 31 (by decide +kernel) rfl⟩
abbrev mX3_joint : zM := (RX3, yX3_joint, cX3_joint, 2, (some .boolean))
theorem mk_X3_joint : zmk mX3_joint 0 := ⟨by decide +kernel, rfl, ⟨by decide +kernel, by decide +kernel, by decide +kernel⟩, zTB_in 678 (by decide +kernel) rfl, zTB_in 134 (by decide +kernel) rfl, by decide⟩
theorem mi_X3_joint : zmi mX3_joint := ⟨zTB_in 677 (by decide +kernel) rfl, zTB_in 32 (by decide +kernel) rfl⟩
abbrev mX2_hasVoter : zM := (RX2, yX2_hasVoter, cX2_hasVoter, 2, (some .boolean))
theorem mk_X2_hasVoter : zmk mX2_hasVoter 1 := ⟨by decide +kernel, rfl, ⟨by decide +kernel, by decide +kernel, by decide +kernel⟩, zTB_in 682 (by decide +kernel) rfl, zTB_in 133 (by decide +kernel) rfl, by decide⟩
theorem mi_X2_hasVoter : zmi mX2_hasVoter := ⟨zTB_in 681 (by decide +kernel) rfl, zTB_in 33 (by decide +kernel) rfl⟩
abbrev mX2_addJoint : zM := (RX2, yX2_addJoint, cX2_addJoint, 4, none)
theorem mk_X2_addJoint : zmk mX2_addJoint 3 := ⟨by decide +kernel, rfl, ⟨by decide +kernel, by decide +kernel, by decide +kernel⟩, zTB_in 686 (by decide +kernel) rfl, zTB_in 133 (by decide +kernel) rfl, by decide⟩
theorem mi_X2_addJoint : zmi mX2_addJoint := ⟨zTB_in 685 (by decide +kernel) rfl, zTB_in 34 (by decide +kernel) rfl⟩
abbrev mX3_quota : zM := (RX3, yX3_quota, cX3_quota, 1, (some .boolean))
theorem mk_X3_quota : zmk mX3_quota 0 := ⟨by decide +kernel, rfl, ⟨by decide +kernel, by decide +kernel, by decide +kernel⟩, zTB_in 691 (by decide +kernel) rfl, zTB_in 134 (by decide +kernel) rfl, by decide⟩
theorem mi_X3_quota : zmi mX3_quota := ⟨zTB_in 690 (by decide +kernel) rfl, zTB_in 35 (by decide +kernel) rfl⟩
abbrev mX3_semicolon : zM := (RX3, yX3_semicolon, cX3_semicolon, 1, (some .boolean))
theorem mk_X3_semicolon : zmk mX3_semicolon 0 := ⟨by decide +kernel, rfl, ⟨by decide +kernel, by decide +kernel, by decide +kernel⟩, zTB_in 695 (by decide +kernel) rfl, zTB_in 134 (by decide +kernel) rfl, by decide⟩
theorem mi_X3_semicolon : zmi mX3_semicolon := ⟨zTB_in 694 (by decide +kernel) rfl, zTB_in 36 (by decide +kernel) rfl⟩
abbrev mX2_copyFrom : zM := (RX2, yX2_copyFrom, cX2_copyFrom, 2, none)
theorem mk_X2_copyFrom : zmk mX2_copyFrom 1 := ⟨by decide +kernel, rfl, ⟨by decide +kernel, by decide +kernel, by decide +kernel⟩, zTB_in 699 (by decide +kernel) rfl, zTB_in 133 (by decide +kernel) rfl, by decide⟩
theorem mi_X2_copyFrom : zmi mX2_copyFrom := ⟨zTB_in 698 (by decide +kernel) rfl, zTB_in 37 (by decide +kernel) rfl⟩
abbrev mX7_fault : zM := (RX7, yX7_fault, cX7_fault, 1, (some .int))
theorem mk_X7_fault : zmk mX7_fault 0 := ⟨by decide +kernel, rfl, ⟨by decide +kernel, by decide +kernel, by decide +kernel⟩, zTB_in 707 (by decide +kernel) rfl, zTB_in 132 (by decide +kernel) rfl, by decide⟩
theorem mi_X7_fault : zmi mX7_fault := ⟨zTB_in 705 (by decide +kernel) rfl, zTB_in 706 (by decide +kernel) rfl⟩
abbrev mX7_weigh : zM := (RX7, yX7_weigh, cX7_weigh, 4, (some .boolean))
theorem mk_X7_weigh : zmk mX7_weigh 3 := ⟨by decide +kernel, rfl, ⟨by decide +kernel, by decide +kernel, by decide +kernel⟩, zTB_in 711 (by decide +kernel) rfl, zTB_in 132 (by decide +kernel) rfl, by decide⟩
theorem mi_X7_weigh : zmi mX7_weigh := ⟨zTB_in 709 (by decide +kernel) rfl, zTB_in 710 (by decide +kernel) rfl⟩
abbrev mX7_order : zM := (RX7, yX7_order, cX7_order, 2, (some .boolean))
theorem mk_X7_order : zmk mX7_order 1 := ⟨by decide +kernel, rfl, ⟨by decide +kernel, by decide +kernel, by decide +kernel⟩, zTB_in 719 (by decide +kernel) rfl, zTB_in 132 (by decide +kernel) rfl, by decide⟩
theorem mi_X7_order : zmi mX7_order := ⟨zTB_in 717 (by decide +kernel) rfl, zTB_in 718 (by decide +kernel) rfl⟩
abbrev mX0_takeRow : zM := (RX0, yX0_takeRow, cX0_takeRow, 3, (some .boolean))
theorem mk_X0_takeRow : zmk mX0_takeRow 1 := ⟨by decide +kernel, rfl, ⟨by decide +kernel, by decide +kernel, by decide +kernel⟩, zTB_in 723 (by decide +kernel) rfl, zTB_in 135 (by decide +kernel) rfl, by decide⟩
theorem mi_X0_takeRow : zmi mX0_takeRow := ⟨zTB_in 722 (by decide +kernel) rfl, zTB_in 38 (by decide +kernel) rfl⟩
abbrev mX0_rowOfSequence : zM := (RX0, yX0_rowOfSequence, cX0_rowOfSequence, 3, (some .int))
theorem mk_X0_rowOfSequence : zmk mX0_rowOfSequence 0 := ⟨by decide +kernel, rfl, ⟨by decide +kernel, by decide +kernel, by decide +kernel⟩, zTB_in 727 (by decide +kernel) rfl, zTB_in 135 (by decide +kernel) rfl, by decide⟩
theorem mi_X0_rowOfSequence : zmi mX0_rowOfSequence := ⟨zTB_in 726 (by decide +kernel) rfl, zTB_in 39 (by decide +kernel) rfl⟩
abbrev mX0_isGood : zM := (RX0, yX0_isGood, cX0_isGood, 5, (some .boolean))
theorem mk_X0_isGood : zmk mX0_isGood 1 := ⟨by decide +kernel, rfl, ⟨by decide +kernel, by decide +kernel, by decide +kernel⟩, zTB_in 731 (by decide +kernel) rfl, zTB_in 135 (by decide +kernel) rfl, by decide⟩
theorem mi_X0_isGood : zmi mX0_isGood := ⟨zTB_in 730 (by decide +kernel) rfl, zTB_in 40 (by decide +kernel) rfl⟩
abbrev mX7_count : zM := (RX7, yX7_count, cX7_count, 2, (some .int))
theorem mk_X7_count : zmk mX7_count 1 := ⟨by decide +kernel, rfl, ⟨by decide +kernel, by decide +kernel, by decide +kernel⟩, zTB_in 736 (by decide +kernel) rfl, zTB_in 132 (by decide +kernel) rfl, by decide⟩
theorem mi_X7_count : zmi mX7_count := ⟨zTB_in 734 (by decide +kernel) rfl, zTB_in 735 (by decide +kernel) rfl⟩
abbrev mX2_quotaInForce : zM := (RX2, yX2_quotaInForce, cX2_quotaInForce, 1, (some .int))
theorem mk_X2_quotaInForce : zmk mX2_quotaInForce 0 := ⟨by decide +kernel, rfl, ⟨by decide +kernel, by decide +kernel, by decide +kernel⟩, zTB_in 740 (by decide +kernel) rfl, zTB_in 133 (by decide +kernel) rfl, by decide⟩
theorem mi_X2_quotaInForce : zmi mX2_quotaInForce := ⟨zTB_in 739 (by decide +kernel) rfl, zTB_in 41 (by decide +kernel) rfl⟩
abbrev mX0_countGood : zM := (RX0, yX0_countGood, cX0_countGood, 4, (some .int))
theorem mk_X0_countGood : zmk mX0_countGood 0 := ⟨by decide +kernel, rfl, ⟨by decide +kernel, by decide +kernel, by decide +kernel⟩, zTB_in 744 (by decide +kernel) rfl, zTB_in 135 (by decide +kernel) rfl, by decide⟩
theorem mi_X0_countGood : zmi mX0_countGood := ⟨zTB_in 743 (by decide +kernel) rfl, zTB_in 42 (by decide +kernel) rfl⟩
abbrev mX0_canBeLast : zM := (RX0, yX0_canBeLast, cX0_canBeLast, 4, (some .boolean))
theorem mk_X0_canBeLast : zmk mX0_canBeLast 2 := ⟨by decide +kernel, rfl, ⟨by decide +kernel, by decide +kernel, by decide +kernel⟩, zTB_in 748 (by decide +kernel) rfl, zTB_in 135 (by decide +kernel) rfl, by decide⟩
theorem mi_X0_canBeLast : zmi mX0_canBeLast := ⟨zTB_in 747 (by decide +kernel) rfl, zTB_in 43 (by decide +kernel) rfl⟩
abbrev mX7_form : zM := (RX7, yX7_form, cX7_form, 2, (some .int))
theorem mk_X7_form : zmk mX7_form 1 := ⟨by decide +kernel, rfl, ⟨by decide +kernel, by decide +kernel, by decide +kernel⟩, zTB_in 752 (by decide +kernel) rfl, zTB_in 132 (by decide +kernel) rfl, by decide⟩
theorem mi_X7_form : zmi mX7_form := ⟨zTB_in 750 (by decide +kernel) rfl, zTB_in 751 (by decide +kernel) rfl⟩
abbrev mX7_isSubset : zM := (RX7, yX7_isSubset, cX7_isSubset, 2, (some .boolean))
theorem mk_X7_isSubset : zmk mX7_isSubset 2 := ⟨by decide +kernel, rfl, ⟨by decide +kernel, by decide +kernel, by decide +kernel⟩, zTB_in 755 (by decide +kernel) rfl, zTB_in 132 (by decide +kernel) rfl, by decide⟩
theorem ms_X7_isSubset : zms mX7_isSubset := zTB_in 754 (by decide +kernel) rfl
abbrev mX7_result : zM := (RX7, yX7_result, cX7_result, 2, (some .int))
theorem mk_X7_result : zmk mX7_result 1 := ⟨by decide +kernel, rfl, ⟨by decide +kernel, by decide +kernel, by decide +kernel⟩, zTB_in 759 (by decide +kernel) rfl, zTB_in 132 (by decide +kernel) rfl, by decide⟩
theorem mi_X7_result : zmi mX7_result := ⟨zTB_in 757 (by decide +kernel) rfl, zTB_in 758 (by decide +kernel) rfl⟩
abbrev mX7_areVoters : zM := (RX7, yX7_areVoters, cX7_areVoters, 2, (some .boolean))
theorem mk_X7_areVoters : zmk mX7_areVoters 1 := ⟨by decide +kernel, rfl, ⟨by decide +kernel, by decide +kernel, by decide +kernel⟩, zTB_in 763 (by decide +kernel) rfl, zTB_in 132 (by decide +kernel) rfl, by decide⟩
theorem mi_X7_areVoters : zmi mX7_areVoters := ⟨zTB_in 762 (by decide +kernel) rfl, zTB_in 44 (by decide +kernel) rfl⟩
abbrev mX6_outcome : zM := (RX6, yX6_outcome, cX6_outcome, 7, (some .int))
theorem mk_X6_outcome : zmk mX6_outcome 2 := ⟨by decide +kernel, rfl, ⟨by decide +kernel, by decide +kernel, by decide +kernel⟩, zTB_in 767 (by decide +kernel) rfl, zTB_in 137 (by decide +kernel) rfl, by decide⟩
theorem mi_X6_outcome : zmi mX6_outcome := ⟨zTB_in 766 (by decide +kernel) rfl, zTB_in 45 (by decide +kernel) rfl⟩
abbrev mX6_startBack : zM := (RX6, yX6_startBack, cX6_startBack, 6, none)
theorem mk_X6_startBack : zmk mX6_startBack 3 := ⟨by decide +kernel, rfl, ⟨by decide +kernel, by decide +kernel, by decide +kernel⟩, zTB_in 772 (by decide +kernel) rfl, zTB_in 137 (by decide +kernel) rfl, by decide⟩
theorem mi_X6_startBack : zmi mX6_startBack := ⟨zTB_in 771 (by decide +kernel) rfl, zTB_in 46 (by decide +kernel) rfl⟩
abbrev mX6_yesOnPassage : zM := (RX6, yX6_yesOnPassage, cX6_yesOnPassage, 2, (some .int))
theorem mk_X6_yesOnPassage : zmk mX6_yesOnPassage 1 := ⟨by decide +kernel, rfl, ⟨by decide +kernel, by decide +kernel, by decide +kernel⟩, zTB_in 776 (by decide +kernel) rfl, zTB_in 137 (by decide +kernel) rfl, by decide⟩
theorem mi_X6_yesOnPassage : zmi mX6_yesOnPassage := ⟨zTB_in 775 (by decide +kernel) rfl, zTB_in 47 (by decide +kernel) rfl⟩
abbrev mX5_countPreferring : zM := (RX5, yX5_countPreferring, cX5_countPreferring, 5, (some .int))
theorem mk_X5_countPreferring : zmk mX5_countPreferring 2 := ⟨by decide +kernel, rfl, ⟨by decide +kernel, by decide +kernel, by decide +kernel⟩, zTB_in 780 (by decide +kernel) rfl, zTB_in 136 (by decide +kernel) rfl, by decide⟩
theorem mi_X5_countPreferring : zmi mX5_countPreferring := ⟨zTB_in 779 (by decide +kernel) rfl, zTB_in 48 (by decide +kernel) rfl⟩
abbrev mX5_isPreferred : zM := (RX5, yX5_isPreferred, cX5_isPreferred, 5, (some .boolean))
theorem mk_X5_isPreferred : zmk mX5_isPreferred 3 := ⟨by decide +kernel, rfl, ⟨by decide +kernel, by decide +kernel, by decide +kernel⟩, zTB_in 784 (by decide +kernel) rfl, zTB_in 136 (by decide +kernel) rfl, by decide⟩
theorem mi_X5_isPreferred : zmi mX5_isPreferred := ⟨zTB_in 783 (by decide +kernel) rfl, zTB_in 49 (by decide +kernel) rfl⟩
abbrev mX6_passes : zM := (RX6, yX6_passes, cX6_passes, 2, (some .boolean))
theorem mk_X6_passes : zmk mX6_passes 1 := ⟨by decide +kernel, rfl, ⟨by decide +kernel, by decide +kernel, by decide +kernel⟩, zTB_in 788 (by decide +kernel) rfl, zTB_in 137 (by decide +kernel) rfl, by decide⟩
theorem mi_X6_passes : zmi mX6_passes := ⟨zTB_in 787 (by decide +kernel) rfl, zTB_in 50 (by decide +kernel) rfl⟩
abbrev mX6_stepBack : zM := (RX6, yX6_stepBack, cX6_stepBack, 9, none)
theorem mk_X6_stepBack : zmk mX6_stepBack 3 := ⟨by decide +kernel, rfl, ⟨by decide +kernel, by decide +kernel, by decide +kernel⟩, zTB_in 793 (by decide +kernel) rfl, zTB_in 137 (by decide +kernel) rfl, by decide⟩
theorem mi_X6_stepBack : zmi mX6_stepBack := ⟨zTB_in 792 (by decide +kernel) rfl, zTB_in 51 (by decide +kernel) rfl⟩
abbrev mJ6_bitCount_0f7a4 : zM := (RJ6, yJ6_bitCount_0f7a4, cJ6_bitCount_0f7a4, 1, (some .int))
theorem mk_J6_bitCount_0f7a4 : zmk mJ6_bitCount_0f7a4 1 := ⟨by decide +kernel, rfl, ⟨by decide +kernel, by decide +kernel, by decide +kernel⟩, zTB_in 796 (by decide +kernel) rfl, zTB_in 152 (by decide +kernel) rfl, by decide⟩
theorem ms_J6_bitCount_0f7a4 : zms mJ6_bitCount_0f7a4 := zTB_in 795 (by decide +kernel) rfl
abbrev mX6_yesOnMotion : zM := (RX6, yX6_yesOnMotion, cX6_yesOnMotion, 13, (some .int))
theorem mk_X6_yesOnMotion : zmk mX6_yesOnMotion 3 := ⟨by decide +kernel, rfl, ⟨by decide +kernel, by decide +kernel, by decide +kernel⟩, zTB_in 803 (by decide +kernel) rfl, zTB_in 137 (by decide +kernel) rfl, by decide⟩
theorem mi_X6_yesOnMotion : zmi mX6_yesOnMotion := ⟨zTB_in 802 (by decide +kernel) rfl, zTB_in 52 (by decide +kernel) rfl⟩
abbrev mX6_carries : zM := (RX6, yX6_carries, cX6_carries, 2, (some .boolean))
theorem mk_X6_carries : zmk mX6_carries 1 := ⟨by decide +kernel, rfl, ⟨by decide +kernel, by decide +kernel, by decide +kernel⟩, zTB_in 808 (by decide +kernel) rfl, zTB_in 137 (by decide +kernel) rfl, by decide⟩
theorem mi_X6_carries : zmi mX6_carries := ⟨zTB_in 807 (by decide +kernel) rfl, zTB_in 53 (by decide +kernel) rfl⟩
abbrev mX7_adopted : zM := (RX7, yX7_adopted, cX7_adopted, 2, (some .int))
theorem mk_X7_adopted : zmk mX7_adopted 1 := ⟨by decide +kernel, rfl, ⟨by decide +kernel, by decide +kernel, by decide +kernel⟩, zTB_in 812 (by decide +kernel) rfl, zTB_in 132 (by decide +kernel) rfl, by decide⟩
theorem mi_X7_adopted : zmi mX7_adopted := ⟨zTB_in 810 (by decide +kernel) rfl, zTB_in 811 (by decide +kernel) rfl⟩
abbrev mX6_walk : zM := (RX6, yX6_walk, cX6_walk, 4, none)
theorem mk_X6_walk : zmk mX6_walk 1 := ⟨by decide +kernel, rfl, ⟨by decide +kernel, by decide +kernel, by decide +kernel⟩, zTB_in 816 (by decide +kernel) rfl, zTB_in 137 (by decide +kernel) rfl, by decide⟩
theorem mi_X6_walk : zmi mX6_walk := ⟨zTB_in 815 (by decide +kernel) rfl, zTB_in 54 (by decide +kernel) rfl⟩
abbrev mX7_yes : zM := (RX7, yX7_yes, cX7_yes, 3, (some .int))
theorem mk_X7_yes : zmk mX7_yes 2 := ⟨by decide +kernel, rfl, ⟨by decide +kernel, by decide +kernel, by decide +kernel⟩, zTB_in 821 (by decide +kernel) rfl, zTB_in 132 (by decide +kernel) rfl, by decide⟩
theorem mi_X7_yes : zmi mX7_yes := ⟨zTB_in 819 (by decide +kernel) rfl, zTB_in 820 (by decide +kernel) rfl⟩
abbrev mX7_minutes : zM := (RX7, yX7_minutes, cX7_minutes, 4, (some .int))
theorem mk_X7_minutes : zmk mX7_minutes 2 := ⟨by decide +kernel, rfl, ⟨by decide +kernel, by decide +kernel, by decide +kernel⟩, zTB_in 825 (by decide +kernel) rfl, zTB_in 132 (by decide +kernel) rfl, by decide⟩
theorem mi_X7_minutes : zmi mX7_minutes := ⟨zTB_in 823 (by decide +kernel) rfl, zTB_in 824 (by decide +kernel) rfl⟩
abbrev mX6_minuteByte : zM := (RX6, yX6_minuteByte, cX6_minuteByte, 5, (some .int))
theorem mk_X6_minuteByte : zmk mX6_minuteByte 2 := ⟨by decide +kernel, rfl, ⟨by decide +kernel, by decide +kernel, by decide +kernel⟩, zTB_in 829 (by decide +kernel) rfl, zTB_in 137 (by decide +kernel) rfl, by decide⟩
theorem mi_X6_minuteByte : zmi mX6_minuteByte := ⟨zTB_in 828 (by decide +kernel) rfl, zTB_in 55 (by decide +kernel) rfl⟩
abbrev mX7_without : zM := (RX7, yX7_without, cX7_without, 3, (some .int))
theorem mk_X7_without : zmk mX7_without 2 := ⟨by decide +kernel, rfl, ⟨by decide +kernel, by decide +kernel, by decide +kernel⟩, zTB_in 833 (by decide +kernel) rfl, zTB_in 132 (by decide +kernel) rfl, by decide⟩
theorem mi_X7_without : zmi mX7_without := ⟨zTB_in 831 (by decide +kernel) rfl, zTB_in 832 (by decide +kernel) rfl⟩
abbrev mX2_goneWith : zM := (RX2, yX2_goneWith, cX2_goneWith, 4, (some .int))
theorem mk_X2_goneWith : zmk mX2_goneWith 1 := ⟨by decide +kernel, rfl, ⟨by decide +kernel, by decide +kernel, by decide +kernel⟩, zTB_in 838 (by decide +kernel) rfl, zTB_in 133 (by decide +kernel) rfl, by decide⟩
theorem mi_X2_goneWith : zmi mX2_goneWith := ⟨zTB_in 837 (by decide +kernel) rfl, zTB_in 56 (by decide +kernel) rfl⟩
abbrev mX7_killers : zM := (RX7, yX7_killers, cX7_killers, 4, (some .int))
theorem mk_X7_killers : zmk mX7_killers 1 := ⟨by decide +kernel, rfl, ⟨by decide +kernel, by decide +kernel, by decide +kernel⟩, zTB_in 842 (by decide +kernel) rfl, zTB_in 132 (by decide +kernel) rfl, by decide⟩
theorem mi_X7_killers : zmi mX7_killers := ⟨zTB_in 840 (by decide +kernel) rfl, zTB_in 841 (by decide +kernel) rfl⟩
abbrev mX7_best : zM := (RX7, yX7_best, cX7_best, 4, (some .int))
theorem mk_X7_best : zmk mX7_best 3 := ⟨by decide +kernel, rfl, ⟨by decide +kernel, by decide +kernel, by decide +kernel⟩, zTB_in 846 (by decide +kernel) rfl, zTB_in 132 (by decide +kernel) rfl, by decide⟩
theorem mi_X7_best : zmi mX7_best := ⟨zTB_in 844 (by decide +kernel) rfl, zTB_in 845 (by decide +kernel) rfl⟩
abbrev mX4_tryAll : zM := (RX4, yX4_tryAll, cX4_tryAll, 4, none)
theorem mk_X4_tryAll : zmk mX4_tryAll 2 := ⟨by decide +kernel, rfl, ⟨by decide +kernel, by decide +kernel, by decide +kernel⟩, zTB_in 850 (by decide +kernel) rfl, zTB_in 138 (by decide +kernel) rfl, by decide⟩
theorem mi_X4_tryAll : zmi mX4_tryAll := ⟨zTB_in 849 (by decide +kernel) rfl, zTB_in 57 (by decide +kernel) rfl⟩
abbrev mX4_tryLast : zM := (RX4, yX4_tryLast, cX4_tryLast, 6, none)
theorem mk_X4_tryLast : zmk mX4_tryLast 3 := ⟨by decide +kernel, rfl, ⟨by decide +kernel, by decide +kernel, by decide +kernel⟩, zTB_in 855 (by decide +kernel) rfl, zTB_in 138 (by decide +kernel) rfl, by decide⟩
theorem mi_X4_tryLast : zmi mX4_tryLast := ⟨zTB_in 854 (by decide +kernel) rfl, zTB_in 58 (by decide +kernel) rfl⟩
abbrev mX4_judge : zM := (RX4, yX4_judge, cX4_judge, 4, none)
theorem mk_X4_judge : zmk mX4_judge 2 := ⟨by decide +kernel, rfl, ⟨by decide +kernel, by decide +kernel, by decide +kernel⟩, zTB_in 859 (by decide +kernel) rfl, zTB_in 138 (by decide +kernel) rfl, by decide⟩
theorem mi_X4_judge : zmi mX4_judge := ⟨zTB_in 858 (by decide +kernel) rfl, zTB_in 59 (by decide +kernel) rfl⟩
abbrev mX5_likingOf : zM := (RX5, yX5_likingOf, cX5_likingOf, 3, (some .int))
theorem mk_X5_likingOf : zmk mX5_likingOf 2 := ⟨by decide +kernel, rfl, ⟨by decide +kernel, by decide +kernel, by decide +kernel⟩, zTB_in 863 (by decide +kernel) rfl, zTB_in 136 (by decide +kernel) rfl, by decide⟩
theorem mi_X5_likingOf : zmi mX5_likingOf := ⟨zTB_in 862 (by decide +kernel) rfl, zTB_in 60 (by decide +kernel) rfl⟩
abbrev mX4_shiftOf : zM := (RX4, yX4_shiftOf, cX4_shiftOf, 1, (some .int))
theorem mk_X4_shiftOf : zmk mX4_shiftOf 1 := ⟨by decide +kernel, rfl, ⟨by decide +kernel, by decide +kernel, by decide +kernel⟩, zTB_in 868 (by decide +kernel) rfl, zTB_in 138 (by decide +kernel) rfl, by decide⟩
theorem ms_X4_shiftOf : zms mX4_shiftOf := zTB_in 867 (by decide +kernel) rfl
abbrev mX4_bestRow : zM := (RX4, yX4_bestRow, cX4_bestRow, 3, (some .int))
theorem mk_X4_bestRow : zmk mX4_bestRow 0 := ⟨by decide +kernel, rfl, ⟨by decide +kernel, by decide +kernel, by decide +kernel⟩, zTB_in 872 (by decide +kernel) rfl, zTB_in 138 (by decide +kernel) rfl, by decide⟩
theorem mi_X4_bestRow : zmi mX4_bestRow := ⟨zTB_in 871 (by decide +kernel) rfl, zTB_in 61 (by decide +kernel) rfl⟩
abbrev mX7_prefers : zM := (RX7, yX7_prefers, cX7_prefers, 3, (some .int))
theorem mk_X7_prefers : zmk mX7_prefers 2 := ⟨by decide +kernel, rfl, ⟨by decide +kernel, by decide +kernel, by decide +kernel⟩, zTB_in 876 (by decide +kernel) rfl, zTB_in 132 (by decide +kernel) rfl, by decide⟩
theorem mi_X7_prefers : zmi mX7_prefers := ⟨zTB_in 874 (by decide +kernel) rfl, zTB_in 875 (by decide +kernel) rfl⟩
abbrev mX7_isForm : zM := (RX7, yX7_isForm, cX7_isForm, 1, (some .boolean))
theorem mk_X7_isForm : zmk mX7_isForm 1 := ⟨by decide +kernel, rfl, ⟨by decide +kernel, by decide +kernel, by decide +kernel⟩, zTB_in 879 (by decide +kernel) rfl, zTB_in 132 (by decide +kernel) rfl, by decide⟩
theorem ms_X7_isForm : zms mX7_isForm := zTB_in 878 (by decide +kernel) rfl
abbrev mX7_open : zM := (RX7, yX7_open, cX7_open, 2, (some .int))
theorem mk_X7_open : zmk mX7_open 1 := ⟨by decide +kernel, rfl, ⟨by decide +kernel, by decide +kernel, by decide +kernel⟩, zTB_in 884 (by decide +kernel) rfl, zTB_in 132 (by decide +kernel) rfl, by decide⟩
theorem mi_X7_open : zmi mX7_open := ⟨zTB_in 882 (by decide +kernel) rfl, zTB_in 883 (by decide +kernel) rfl⟩
abbrev mX7_winner : zM := (RX7, yX7_winner, cX7_winner, 1, (some .int))
theorem mk_X7_winner : zmk mX7_winner 0 := ⟨by decide +kernel, rfl, ⟨by decide +kernel, by decide +kernel, by decide +kernel⟩, zTB_in 888 (by decide +kernel) rfl, zTB_in 132 (by decide +kernel) rfl, by decide⟩
theorem mi_X7_winner : zmi mX7_winner := ⟨zTB_in 886 (by decide +kernel) rfl, zTB_in 887 (by decide +kernel) rfl⟩
abbrev mX1_learnBeaten : zM := (RX1, yX1_learnBeaten, cX1_learnBeaten, 3, none)
theorem mk_X1_learnBeaten : zmk mX1_learnBeaten 0 := ⟨by decide +kernel, rfl, ⟨by decide +kernel, by decide +kernel, by decide +kernel⟩, zTB_in 892 (by decide +kernel) rfl, zTB_in 139 (by decide +kernel) rfl, by decide⟩
theorem mi_X1_learnBeaten : zmi mX1_learnBeaten := ⟨zTB_in 891 (by decide +kernel) rfl, zTB_in 62 (by decide +kernel) rfl⟩
abbrev mX1_learnPair : zM := (RX1, yX1_learnPair, cX1_learnPair, 4, none)
theorem mk_X1_learnPair : zmk mX1_learnPair 2 := ⟨by decide +kernel, rfl, ⟨by decide +kernel, by decide +kernel, by decide +kernel⟩, zTB_in 896 (by decide +kernel) rfl, zTB_in 139 (by decide +kernel) rfl, by decide⟩
theorem mi_X1_learnPair : zmi mX1_learnPair := ⟨zTB_in 895 (by decide +kernel) rfl, zTB_in 63 (by decide +kernel) rfl⟩
abbrev mX1_markBeaten : zM := (RX1, yX1_markBeaten, cX1_markBeaten, 3, none)
theorem mk_X1_markBeaten : zmk mX1_markBeaten 2 := ⟨by decide +kernel, rfl, ⟨by decide +kernel, by decide +kernel, by decide +kernel⟩, zTB_in 901 (by decide +kernel) rfl, zTB_in 139 (by decide +kernel) rfl, by decide⟩
theorem mi_X1_markBeaten : zmi mX1_markBeaten := ⟨zTB_in 900 (by decide +kernel) rfl, zTB_in 64 (by decide +kernel) rfl⟩
abbrev mX1_learnTop : zM := (RX1, yX1_learnTop, cX1_learnTop, 3, none)
theorem mk_X1_learnTop : zmk mX1_learnTop 0 := ⟨by decide +kernel, rfl, ⟨by decide +kernel, by decide +kernel, by decide +kernel⟩, zTB_in 905 (by decide +kernel) rfl, zTB_in 139 (by decide +kernel) rfl, by decide⟩
theorem mi_X1_learnTop : zmi mX1_learnTop := ⟨zTB_in 904 (by decide +kernel) rfl, zTB_in 65 (by decide +kernel) rfl⟩
abbrev mX1_indexOfMostBeating : zM := (RX1, yX1_indexOfMostBeating, cX1_indexOfMostBeating, 3, (some .int))
theorem mk_X1_indexOfMostBeating : zmk mX1_indexOfMostBeating 0 := ⟨by decide +kernel, rfl, ⟨by decide +kernel, by decide +kernel, by decide +kernel⟩, zTB_in 909 (by decide +kernel) rfl, zTB_in 139 (by decide +kernel) rfl, by decide⟩
theorem mi_X1_indexOfMostBeating : zmi mX1_indexOfMostBeating := ⟨zTB_in 908 (by decide +kernel) rfl, zTB_in 66 (by decide +kernel) rfl⟩
abbrev mX1_countBeaten : zM := (RX1, yX1_countBeaten, cX1_countBeaten, 4, (some .int))
theorem mk_X1_countBeaten : zmk mX1_countBeaten 1 := ⟨by decide +kernel, rfl, ⟨by decide +kernel, by decide +kernel, by decide +kernel⟩, zTB_in 913 (by decide +kernel) rfl, zTB_in 139 (by decide +kernel) rfl, by decide⟩
theorem mi_X1_countBeaten : zmi mX1_countBeaten := ⟨zTB_in 912 (by decide +kernel) rfl, zTB_in 67 (by decide +kernel) rfl⟩
abbrev mX1_isBeaten : zM := (RX1, yX1_isBeaten, cX1_isBeaten, 3, (some .boolean))
theorem mk_X1_isBeaten : zmk mX1_isBeaten 2 := ⟨by decide +kernel, rfl, ⟨by decide +kernel, by decide +kernel, by decide +kernel⟩, zTB_in 918 (by decide +kernel) rfl, zTB_in 139 (by decide +kernel) rfl, by decide⟩
theorem mi_X1_isBeaten : zmi mX1_isBeaten := ⟨zTB_in 917 (by decide +kernel) rfl, zTB_in 68 (by decide +kernel) rfl⟩
abbrev mX1_isOfTop : zM := (RX1, yX1_isOfTop, cX1_isOfTop, 3, (some .boolean))
theorem mk_X1_isOfTop : zmk mX1_isOfTop 1 := ⟨by decide +kernel, rfl, ⟨by decide +kernel, by decide +kernel, by decide +kernel⟩, zTB_in 922 (by decide +kernel) rfl, zTB_in 139 (by decide +kernel) rfl, by decide⟩
theorem mi_X1_isOfTop : zmi mX1_isOfTop := ⟨zTB_in 921 (by decide +kernel) rfl, zTB_in 69 (by decide +kernel) rfl⟩
abbrev mX1_findWinner : zM := (RX1, yX1_findWinner, cX1_findWinner, 2, (some .int))
theorem mk_X1_findWinner : zmk mX1_findWinner 0 := ⟨by decide +kernel, rfl, ⟨by decide +kernel, by decide +kernel, by decide +kernel⟩, zTB_in 926 (by decide +kernel) rfl, zTB_in 139 (by decide +kernel) rfl, by decide⟩
theorem mi_X1_findWinner : zmi mX1_findWinner := ⟨zTB_in 925 (by decide +kernel) rfl, zTB_in 70 (by decide +kernel) rfl⟩
abbrev mX7_standing : zM := (RX7, yX7_standing, cX7_standing, 4, (some .int))
theorem mk_X7_standing : zmk mX7_standing 2 := ⟨by decide +kernel, rfl, ⟨by decide +kernel, by decide +kernel, by decide +kernel⟩, zTB_in 930 (by decide +kernel) rfl, zTB_in 132 (by decide +kernel) rfl, by decide⟩
theorem mi_X7_standing : zmi mX7_standing := ⟨zTB_in 928 (by decide +kernel) rfl, zTB_in 929 (by decide +kernel) rfl⟩
abbrev mX1_indexOf : zM := (RX1, yX1_indexOf, cX1_indexOf, 3, (some .int))
theorem mk_X1_indexOf : zmk mX1_indexOf 1 := ⟨by decide +kernel, rfl, ⟨by decide +kernel, by decide +kernel, by decide +kernel⟩, zTB_in 934 (by decide +kernel) rfl, zTB_in 139 (by decide +kernel) rfl, by decide⟩
theorem mi_X1_indexOf : zmi mX1_indexOf := ⟨zTB_in 933 (by decide +kernel) rfl, zTB_in 71 (by decide +kernel) rfl⟩
abbrev mX1_isCovered : zM := (RX1, yX1_isCovered, cX1_isCovered, 3, (some .boolean))
theorem mk_X1_isCovered : zmk mX1_isCovered 1 := ⟨by decide +kernel, rfl, ⟨by decide +kernel, by decide +kernel, by decide +kernel⟩, zTB_in 939 (by decide +kernel) rfl, zTB_in 139 (by decide +kernel) rfl, by decide⟩
theorem mi_X1_isCovered : zmi mX1_isCovered := ⟨zTB_in 938 (by decide +kernel) rfl, zTB_in 72 (by decide +kernel) rfl⟩
abbrev mX1_beatsAllOf : zM := (RX1, yX1_beatsAllOf, cX1_beatsAllOf, 4, (some .boolean))
theorem mk_X1_beatsAllOf : zmk mX1_beatsAllOf 2 := ⟨by decide +kernel, rfl, ⟨by decide +kernel, by decide +kernel, by decide +kernel⟩, zTB_in 943 (by decide +kernel) rfl, zTB_in 139 (by decide +kernel) rfl, by decide⟩
theorem mi_X1_beatsAllOf : zmi mX1_beatsAllOf := ⟨zTB_in 942 (by decide +kernel) rfl, zTB_in 73 (by decide +kernel) rfl⟩
abbrev mX7_motion : zM := (RX7, yX7_motion, cX7_motion, 3, (some .int))
theorem mk_X7_motion : zmk mX7_motion 2 := ⟨by decide +kernel, rfl, ⟨by decide +kernel, by decide +kernel, by decide +kernel⟩, zTB_in 952 (by decide +kernel) rfl, zTB_in 132 (by decide +kernel) rfl, by decide⟩
theorem mi_X7_motion : zmi mX7_motion := ⟨zTB_in 950 (by decide +kernel) rfl, zTB_in 951 (by decide +kernel) rfl⟩
abbrev mX0_placeOf : zM := (RX0, yX0_placeOf, cX0_placeOf, 3, (some .int))
theorem mk_X0_placeOf : zmk mX0_placeOf 1 := ⟨by decide +kernel, rfl, ⟨by decide +kernel, by decide +kernel, by decide +kernel⟩, zTB_in 1021 (by decide +kernel) rfl, zTB_in 135 (by decide +kernel) rfl, by decide⟩
theorem mi_X0_placeOf : zmi mX0_placeOf := ⟨zTB_in 1020 (by decide +kernel) rfl, zTB_in 75 (by decide +kernel) rfl⟩
abbrev mX7_weight : zM := (RX7, yX7_weight, cX7_weight, 3, (some .int))
theorem mk_X7_weight : zmk mX7_weight 2 := ⟨by decide +kernel, rfl, ⟨by decide +kernel, by decide +kernel, by decide +kernel⟩, zTB_in 1029 (by decide +kernel) rfl, zTB_in 132 (by decide +kernel) rfl, by decide⟩
theorem mi_X7_weight : zmi mX7_weight := ⟨zTB_in 1027 (by decide +kernel) rfl, zTB_in 1028 (by decide +kernel) rfl⟩
abbrev mX7_likes : zM := (RX7, yX7_likes, cX7_likes, 3, (some .int))
theorem mk_X7_likes : zmk mX7_likes 2 := ⟨by decide +kernel, rfl, ⟨by decide +kernel, by decide +kernel, by decide +kernel⟩, zTB_in 1037 (by decide +kernel) rfl, zTB_in 132 (by decide +kernel) rfl, by decide⟩
theorem mi_X7_likes : zmi mX7_likes := ⟨zTB_in 1035 (by decide +kernel) rfl, zTB_in 1036 (by decide +kernel) rfl⟩
abbrev mX8_init : zM := (RX8, yX8_init, cX8_init, 1, none)
theorem mk_X8_init : zmk mX8_init 0 := ⟨by decide +kernel, rfl, ⟨by decide +kernel, by decide +kernel, by decide +kernel⟩, zTB_in 1044 (by decide +kernel) rfl, zTB_in 141 (by decide +kernel) rfl, by decide⟩
abbrev mX8_thrown : zM := (RX8, yX8_thrown, cX8_thrown, 1, (some .int))
theorem mk_X8_thrown : zmk mX8_thrown 0 := ⟨by decide +kernel, rfl, ⟨by decide +kernel, by decide +kernel, by decide +kernel⟩, zTB_in 1180 (by decide +kernel) rfl, zTB_in 141 (by decide +kernel) rfl, by decide⟩
theorem mi_X8_thrown : zmi mX8_thrown := ⟨zTB_in 1178 (by decide +kernel) rfl, zTB_in 1179 (by decide +kernel) rfl⟩
abbrev mX8_feed : zM := (RX8, yX8_feed, cX8_feed, 6, (some .int))
theorem mk_X8_feed : zmk mX8_feed 5 := ⟨by decide +kernel, rfl, ⟨by decide +kernel, by decide +kernel, by decide +kernel⟩, zTB_in 1184 (by decide +kernel) rfl, zTB_in 141 (by decide +kernel) rfl, by decide⟩
theorem mi_X8_feed : zmi mX8_feed := ⟨zTB_in 1182 (by decide +kernel) rfl, zTB_in 1183 (by decide +kernel) rfl⟩
abbrev mX8_four : zM := (RX8, yX8_four, cX8_four, 3, none)
theorem mk_X8_four : zmk mX8_four 1 := ⟨by decide +kernel, rfl, ⟨by decide +kernel, by decide +kernel, by decide +kernel⟩, zTB_in 1188 (by decide +kernel) rfl, zTB_in 141 (by decide +kernel) rfl, by decide⟩
theorem mi_X8_four : zmi mX8_four := ⟨zTB_in 1187 (by decide +kernel) rfl, zTB_in 76 (by decide +kernel) rfl⟩
abbrev mX8_end : zM := (RX8, yX8_end, cX8_end, 2, (some .boolean))
theorem mk_X8_end : zmk mX8_end 1 := ⟨by decide +kernel, rfl, ⟨by decide +kernel, by decide +kernel, by decide +kernel⟩, zTB_in 1192 (by decide +kernel) rfl, zTB_in 141 (by decide +kernel) rfl, by decide⟩
theorem mi_X8_end : zmi mX8_end := ⟨zTB_in 1190 (by decide +kernel) rfl, zTB_in 1191 (by decide +kernel) rfl⟩
abbrev mX8_in : zM := (RX8, yX8_in, cX8_in, 3, (some .boolean))
theorem mk_X8_in : zmk mX8_in 3 := ⟨by decide +kernel, rfl, ⟨by decide +kernel, by decide +kernel, by decide +kernel⟩, zTB_in 1195 (by decide +kernel) rfl, zTB_in 141 (by decide +kernel) rfl, by decide⟩
theorem ms_X8_in : zms mX8_in := zTB_in 1194 (by decide +kernel) rfl
abbrev mX8_tell : zM := (RX8, yX8_tell, cX8_tell, 3, (some .int))
theorem mk_X8_tell : zmk mX8_tell 0 := ⟨by decide +kernel, rfl, ⟨by decide +kernel, by decide +kernel, by decide +kernel⟩, zTB_in 1199 (by decide +kernel) rfl, zTB_in 141 (by decide +kernel) rfl, by decide⟩
theorem mi_X8_tell : zmi mX8_tell := ⟨zTB_in 1197 (by decide +kernel) rfl, zTB_in 1198 (by decide +kernel) rfl⟩
abbrev mX8_readText : zM := (RX8, yX8_readText, cX8_readText, 2, (some .boolean))
theorem mk_X8_readText : zmk mX8_readText 0 := ⟨by decide +kernel, rfl, ⟨by decide +kernel, by decide +kernel, by decide +kernel⟩, zTB_in 1203 (by decide +kernel) rfl, zTB_in 141 (by decide +kernel) rfl, by decide⟩
theorem mi_X8_readText : zmi mX8_readText := ⟨zTB_in 1202 (by decide +kernel) rfl, zTB_in 77 (by decide +kernel) rfl⟩
abbrev mX8_here : zM := (RX8, yX8_here, cX8_here, 1, (some .int))
theorem mk_X8_here : zmk mX8_here 0 := ⟨by decide +kernel, rfl, ⟨by decide +kernel, by decide +kernel, by decide +kernel⟩, zTB_in 1207 (by decide +kernel) rfl, zTB_in 141 (by decide +kernel) rfl, by decide⟩
theorem mi_X8_here : zmi mX8_here := ⟨zTB_in 1206 (by decide +kernel) rfl, zTB_in 78 (by decide +kernel) rfl⟩
abbrev mX8_readStatement : zM := (RX8, yX8_readStatement, cX8_readStatement, 4, (some .boolean))
theorem mk_X8_readStatement : zmk mX8_readStatement 0 := ⟨by decide +kernel, rfl, ⟨by decide +kernel, by decide +kernel, by decide +kernel⟩, zTB_in 1211 (by decide +kernel) rfl, zTB_in 141 (by decide +kernel) rfl, by decide⟩
theorem mi_X8_readStatement : zmi mX8_readStatement := ⟨zTB_in 1210 (by decide +kernel) rfl, zTB_in 79 (by decide +kernel) rfl⟩
abbrev mX8_isWord : zM := (RX8, yX8_isWord, cX8_isWord, 1, (some .boolean))
theorem mk_X8_isWord : zmk mX8_isWord 0 := ⟨by decide +kernel, rfl, ⟨by decide +kernel, by decide +kernel, by decide +kernel⟩, zTB_in 1215 (by decide +kernel) rfl, zTB_in 141 (by decide +kernel) rfl, by decide⟩
theorem mi_X8_isWord : zmi mX8_isWord := ⟨zTB_in 1214 (by decide +kernel) rfl, zTB_in 80 (by decide +kernel) rfl⟩
abbrev mX8_fails : zM := (RX8, yX8_fails, cX8_fails, 3, (some .boolean))
theorem mk_X8_fails : zmk mX8_fails 2 := ⟨by decide +kernel, rfl, ⟨by decide +kernel, by decide +kernel, by decide +kernel⟩, zTB_in 1219 (by decide +kernel) rfl, zTB_in 141 (by decide +kernel) rfl, by decide⟩
theorem mi_X8_fails : zmi mX8_fails := ⟨zTB_in 1218 (by decide +kernel) rfl, zTB_in 81 (by decide +kernel) rfl⟩
abbrev mX8_readWord : zM := (RX8, yX8_readWord, cX8_readWord, 4, (some .long))
theorem mk_X8_readWord : zmk mX8_readWord 0 := ⟨by decide +kernel, rfl, ⟨by decide +kernel, by decide +kernel, by decide +kernel⟩, zTB_in 1223 (by decide +kernel) rfl, zTB_in 141 (by decide +kernel) rfl, by decide⟩
theorem mi_X8_readWord : zmi mX8_readWord := ⟨zTB_in 1222 (by decide +kernel) rfl, zTB_in 82 (by decide +kernel) rfl⟩
abbrev mX8_has : zM := (RX8, yX8_has, cX8_has, 2, (some .boolean))
theorem mk_X8_has : zmk mX8_has 2 := ⟨by decide +kernel, rfl, ⟨by decide +kernel, by decide +kernel, by decide +kernel⟩, zTB_in 1228 (by decide +kernel) rfl, zTB_in 141 (by decide +kernel) rfl, by decide⟩
theorem ms_X8_has : zms mX8_has := zTB_in 1227 (by decide +kernel) rfl
abbrev mX8_readBill : zM := (RX8, yX8_readBill, cX8_readBill, 2, (some .boolean))
theorem mk_X8_readBill : zmk mX8_readBill 1 := ⟨by decide +kernel, rfl, ⟨by decide +kernel, by decide +kernel, by decide +kernel⟩, zTB_in 1233 (by decide +kernel) rfl, zTB_in 141 (by decide +kernel) rfl, by decide⟩
theorem mi_X8_readBill : zmi mX8_readBill := ⟨zTB_in 1232 (by decide +kernel) rfl, zTB_in 83 (by decide +kernel) rfl⟩
abbrev mX8_readSet : zM := (RX8, yX8_readSet, cX8_readSet, 2, (some .boolean))
theorem mk_X8_readSet : zmk mX8_readSet 1 := ⟨by decide +kernel, rfl, ⟨by decide +kernel, by decide +kernel, by decide +kernel⟩, zTB_in 1237 (by decide +kernel) rfl, zTB_in 141 (by decide +kernel) rfl, by decide⟩
theorem mi_X8_readSet : zmi mX8_readSet := ⟨zTB_in 1236 (by decide +kernel) rfl, zTB_in 84 (by decide +kernel) rfl⟩
abbrev mX8_readAmend : zM := (RX8, yX8_readAmend, cX8_readAmend, 5, (some .boolean))
theorem mk_X8_readAmend : zmk mX8_readAmend 1 := ⟨by decide +kernel, rfl, ⟨by decide +kernel, by decide +kernel, by decide +kernel⟩, zTB_in 1242 (by decide +kernel) rfl, zTB_in 141 (by decide +kernel) rfl, by decide⟩
theorem mi_X8_readAmend : zmi mX8_readAmend := ⟨zTB_in 1241 (by decide +kernel) rfl, zTB_in 85 (by decide +kernel) rfl⟩
abbrev mX8_readOf : zM := (RX8, yX8_readOf, cX8_readOf, 3, (some .boolean))
theorem mk_X8_readOf : zmk mX8_readOf 0 := ⟨by decide +kernel, rfl, ⟨by decide +kernel, by decide +kernel, by decide +kernel⟩, zTB_in 1246 (by decide +kernel) rfl, zTB_in 141 (by decide +kernel) rfl, by decide⟩
theorem mi_X8_readOf : zmi mX8_readOf := ⟨zTB_in 1245 (by decide +kernel) rfl, zTB_in 86 (by decide +kernel) rfl⟩
abbrev mX8_readNumber : zM := (RX8, yX8_readNumber, cX8_readNumber, 4, (some .boolean))
theorem mk_X8_readNumber : zmk mX8_readNumber 2 := ⟨by decide +kernel, rfl, ⟨by decide +kernel, by decide +kernel, by decide +kernel⟩, zTB_in 1251 (by decide +kernel) rfl, zTB_in 141 (by decide +kernel) rfl, by decide⟩
theorem mi_X8_readNumber : zmi mX8_readNumber := ⟨zTB_in 1250 (by decide +kernel) rfl, zTB_in 87 (by decide +kernel) rfl⟩
abbrev mX8_comes : zM := (RX8, yX8_comes, cX8_comes, 6, none)
theorem mk_X8_comes : zmk mX8_comes 4 := ⟨by decide +kernel, rfl, ⟨by decide +kernel, by decide +kernel, by decide +kernel⟩, zTB_in 1255 (by decide +kernel) rfl, zTB_in 141 (by decide +kernel) rfl, by decide⟩
theorem mi_X8_comes : zmi mX8_comes := ⟨zTB_in 1254 (by decide +kernel) rfl, zTB_in 88 (by decide +kernel) rfl⟩
abbrev mX8_readSub : zM := (RX8, yX8_readSub, cX8_readSub, 2, (some .boolean))
theorem mk_X8_readSub : zmk mX8_readSub 1 := ⟨by decide +kernel, rfl, ⟨by decide +kernel, by decide +kernel, by decide +kernel⟩, zTB_in 1259 (by decide +kernel) rfl, zTB_in 141 (by decide +kernel) rfl, by decide⟩
theorem mi_X8_readSub : zmi mX8_readSub := ⟨zTB_in 1258 (by decide +kernel) rfl, zTB_in 89 (by decide +kernel) rfl⟩
abbrev mX8_readVoter : zM := (RX8, yX8_readVoter, cX8_readVoter, 5, (some .boolean))
theorem mk_X8_readVoter : zmk mX8_readVoter 1 := ⟨by decide +kernel, rfl, ⟨by decide +kernel, by decide +kernel, by decide +kernel⟩, zTB_in 1264 (by decide +kernel) rfl, zTB_in 141 (by decide +kernel) rfl, by decide⟩
theorem mi_X8_readVoter : zmi mX8_readVoter := ⟨zTB_in 1263 (by decide +kernel) rfl, zTB_in 90 (by decide +kernel) rfl⟩
abbrev mX8_readWeight : zM := (RX8, yX8_readWeight, cX8_readWeight, 2, (some .boolean))
theorem mk_X8_readWeight : zmk mX8_readWeight 0 := ⟨by decide +kernel, rfl, ⟨by decide +kernel, by decide +kernel, by decide +kernel⟩, zTB_in 1268 (by decide +kernel) rfl, zTB_in 141 (by decide +kernel) rfl, by decide⟩
theorem mi_X8_readWeight : zmi mX8_readWeight := ⟨zTB_in 1267 (by decide +kernel) rfl, zTB_in 91 (by decide +kernel) rfl⟩
abbrev mX8_readJoint : zM := (RX8, yX8_readJoint, cX8_readJoint, 3, (some .boolean))
theorem mk_X8_readJoint : zmk mX8_readJoint 1 := ⟨by decide +kernel, rfl, ⟨by decide +kernel, by decide +kernel, by decide +kernel⟩, zTB_in 1273 (by decide +kernel) rfl, zTB_in 141 (by decide +kernel) rfl, by decide⟩
theorem mi_X8_readJoint : zmi mX8_readJoint := ⟨zTB_in 1272 (by decide +kernel) rfl, zTB_in 92 (by decide +kernel) rfl⟩
abbrev mX8_readQuota : zM := (RX8, yX8_readQuota, cX8_readQuota, 2, (some .boolean))
theorem mk_X8_readQuota : zmk mX8_readQuota 1 := ⟨by decide +kernel, rfl, ⟨by decide +kernel, by decide +kernel, by decide +kernel⟩, zTB_in 1278 (by decide +kernel) rfl, zTB_in 141 (by decide +kernel) rfl, by decide⟩
theorem mi_X8_readQuota : zmi mX8_readQuota := ⟨zTB_in 1277 (by decide +kernel) rfl, zTB_in 93 (by decide +kernel) rfl⟩
abbrev mX8_laysLeast : zM := (RX8, yX8_laysLeast, cX8_laysLeast, 4, none)
theorem mk_X8_laysLeast : zmk mX8_laysLeast 0 := ⟨by decide +kernel, rfl, ⟨by decide +kernel, by decide +kernel, by decide +kernel⟩, zTB_in 1282 (by decide +kernel) rfl, zTB_in 141 (by decide +kernel) rfl, by decide⟩
theorem mi_X8_laysLeast : zmi mX8_laysLeast := ⟨zTB_in 1281 (by decide +kernel) rfl, zTB_in 94 (by decide +kernel) rfl⟩
abbrev mX8_mayStand : zM := (RX8, yX8_mayStand, cX8_mayStand, 5, (some .boolean))
theorem mk_X8_mayStand : zmk mX8_mayStand 2 := ⟨by decide +kernel, rfl, ⟨by decide +kernel, by decide +kernel, by decide +kernel⟩, zTB_in 1286 (by decide +kernel) rfl, zTB_in 141 (by decide +kernel) rfl, by decide⟩
theorem mi_X8_mayStand : zmi mX8_mayStand := ⟨zTB_in 1285 (by decide +kernel) rfl, zTB_in 95 (by decide +kernel) rfl⟩
abbrev mX8_fault : zM := (RX8, yX8_fault, cX8_fault, 1, (some .int))
theorem mk_X8_fault : zmk mX8_fault 0 := ⟨by decide +kernel, rfl, ⟨by decide +kernel, by decide +kernel, by decide +kernel⟩, zTB_in 1290 (by decide +kernel) rfl, zTB_in 141 (by decide +kernel) rfl, by decide⟩
theorem mi_X8_fault : zmi mX8_fault := ⟨zTB_in 1288 (by decide +kernel) rfl, zTB_in 1289 (by decide +kernel) rfl⟩
abbrev mX8_order : zM := (RX8, yX8_order, cX8_order, 4, (some .boolean))
theorem mk_X8_order : zmk mX8_order 1 := ⟨by decide +kernel, rfl, ⟨by decide +kernel, by decide +kernel, by decide +kernel⟩, zTB_in 1294 (by decide +kernel) rfl, zTB_in 141 (by decide +kernel) rfl, by decide⟩
theorem mi_X8_order : zmi mX8_order := ⟨zTB_in 1292 (by decide +kernel) rfl, zTB_in 1293 (by decide +kernel) rfl⟩
abbrev mX8_isGood : zM := (RX8, yX8_isGood, cX8_isGood, 4, (some .boolean))
theorem mk_X8_isGood : zmk mX8_isGood 0 := ⟨by decide +kernel, rfl, ⟨by decide +kernel, by decide +kernel, by decide +kernel⟩, zTB_in 1298 (by decide +kernel) rfl, zTB_in 141 (by decide +kernel) rfl, by decide⟩
theorem mi_X8_isGood : zmi mX8_isGood := ⟨zTB_in 1297 (by decide +kernel) rfl, zTB_in 96 (by decide +kernel) rfl⟩
abbrev mX8_form : zM := (RX8, yX8_form, cX8_form, 2, (some .int))
theorem mk_X8_form : zmk mX8_form 1 := ⟨by decide +kernel, rfl, ⟨by decide +kernel, by decide +kernel, by decide +kernel⟩, zTB_in 1302 (by decide +kernel) rfl, zTB_in 141 (by decide +kernel) rfl, by decide⟩
theorem mi_X8_form : zmi mX8_form := ⟨zTB_in 1300 (by decide +kernel) rfl, zTB_in 1301 (by decide +kernel) rfl⟩
abbrev mX8_formOf : zM := (RX8, yX8_formOf, cX8_formOf, 5, (some .int))
theorem mk_X8_formOf : zmk mX8_formOf 1 := ⟨by decide +kernel, rfl, ⟨by decide +kernel, by decide +kernel, by decide +kernel⟩, zTB_in 1306 (by decide +kernel) rfl, zTB_in 141 (by decide +kernel) rfl, by decide⟩
theorem mi_X8_formOf : zmi mX8_formOf := ⟨zTB_in 1305 (by decide +kernel) rfl, zTB_in 97 (by decide +kernel) rfl⟩
abbrev mX8_plusOf : zM := (RX8, yX8_plusOf, cX8_plusOf, 5, (some .int))
theorem mk_X8_plusOf : zmk mX8_plusOf 2 := ⟨by decide +kernel, rfl, ⟨by decide +kernel, by decide +kernel, by decide +kernel⟩, zTB_in 1310 (by decide +kernel) rfl, zTB_in 141 (by decide +kernel) rfl, by decide⟩
theorem mi_X8_plusOf : zmi mX8_plusOf := ⟨zTB_in 1309 (by decide +kernel) rfl, zTB_in 98 (by decide +kernel) rfl⟩
abbrev mX8_result : zM := (RX8, yX8_result, cX8_result, 2, (some .int))
theorem mk_X8_result : zmk mX8_result 1 := ⟨by decide +kernel, rfl, ⟨by decide +kernel, by decide +kernel, by decide +kernel⟩, zTB_in 1314 (by decide +kernel) rfl, zTB_in 141 (by decide +kernel) rfl, by decide⟩
theorem mi_X8_result : zmi mX8_result := ⟨zTB_in 1312 (by decide +kernel) rfl, zTB_in 1313 (by decide +kernel) rfl⟩
abbrev mX8_isSetOfVoters : zM := (RX8, yX8_isSetOfVoters, cX8_isSetOfVoters, 2, (some .boolean))
theorem mk_X8_isSetOfVoters : zmk mX8_isSetOfVoters 1 := ⟨by decide +kernel, rfl, ⟨by decide +kernel, by decide +kernel, by decide +kernel⟩, zTB_in 1318 (by decide +kernel) rfl, zTB_in 141 (by decide +kernel) rfl, by decide⟩
theorem mi_X8_isSetOfVoters : zmi mX8_isSetOfVoters := ⟨zTB_in 1317 (by decide +kernel) rfl, zTB_in 99 (by decide +kernel) rfl⟩
abbrev mX8_asks : zM := (RX8, yX8_asks, cX8_asks, 2, none)
theorem mk_X8_asks : zmk mX8_asks 1 := ⟨by decide +kernel, rfl, ⟨by decide +kernel, by decide +kernel, by decide +kernel⟩, zTB_in 1322 (by decide +kernel) rfl, zTB_in 141 (by decide +kernel) rfl, by decide⟩
theorem mi_X8_asks : zmi mX8_asks := ⟨zTB_in 1321 (by decide +kernel) rfl, zTB_in 100 (by decide +kernel) rfl⟩
abbrev mX8_laysLikes : zM := (RX8, yX8_laysLikes, cX8_laysLikes, 3, none)
theorem mk_X8_laysLikes : zmk mX8_laysLikes 0 := ⟨by decide +kernel, rfl, ⟨by decide +kernel, by decide +kernel, by decide +kernel⟩, zTB_in 1326 (by decide +kernel) rfl, zTB_in 141 (by decide +kernel) rfl, by decide⟩
theorem mi_X8_laysLikes : zmi mX8_laysLikes := ⟨zTB_in 1325 (by decide +kernel) rfl, zTB_in 101 (by decide +kernel) rfl⟩
abbrev mX8_likesOf : zM := (RX8, yX8_likesOf, cX8_likesOf, 5, (some .int))
theorem mk_X8_likesOf : zmk mX8_likesOf 2 := ⟨by decide +kernel, rfl, ⟨by decide +kernel, by decide +kernel, by decide +kernel⟩, zTB_in 1330 (by decide +kernel) rfl, zTB_in 141 (by decide +kernel) rfl, by decide⟩
theorem mi_X8_likesOf : zmi mX8_likesOf := ⟨zTB_in 1329 (by decide +kernel) rfl, zTB_in 102 (by decide +kernel) rfl⟩
abbrev mX8_laysOrder : zM := (RX8, yX8_laysOrder, cX8_laysOrder, 2, none)
theorem mk_X8_laysOrder : zmk mX8_laysOrder 0 := ⟨by decide +kernel, rfl, ⟨by decide +kernel, by decide +kernel, by decide +kernel⟩, zTB_in 1334 (by decide +kernel) rfl, zTB_in 141 (by decide +kernel) rfl, by decide⟩
theorem mi_X8_laysOrder : zmi mX8_laysOrder := ⟨zTB_in 1333 (by decide +kernel) rfl, zTB_in 103 (by decide +kernel) rfl⟩
abbrev mX8_worksOut : zM := (RX8, yX8_worksOut, cX8_worksOut, 5, none)
theorem mk_X8_worksOut : zmk mX8_worksOut 2 := ⟨by decide +kernel, rfl, ⟨by decide +kernel, by decide +kernel, by decide +kernel⟩, zTB_in 1338 (by decide +kernel) rfl, zTB_in 141 (by decide +kernel) rfl, by decide⟩
theorem mi_X8_worksOut : zmi mX8_worksOut := ⟨zTB_in 1337 (by decide +kernel) rfl, zTB_in 104 (by decide +kernel) rfl⟩
abbrev mX8_passes : zM := (RX8, yX8_passes, cX8_passes, 4, none)
theorem mk_X8_passes : zmk mX8_passes 1 := ⟨by decide +kernel, rfl, ⟨by decide +kernel, by decide +kernel, by decide +kernel⟩, zTB_in 1342 (by decide +kernel) rfl, zTB_in 141 (by decide +kernel) rfl, by decide⟩
theorem mi_X8_passes : zmi mX8_passes := ⟨zTB_in 1341 (by decide +kernel) rfl, zTB_in 105 (by decide +kernel) rfl⟩
abbrev mX8_motionsOf : zM := (RX8, yX8_motionsOf, cX8_motionsOf, 4, (some .int))
theorem mk_X8_motionsOf : zmk mX8_motionsOf 1 := ⟨by decide +kernel, rfl, ⟨by decide +kernel, by decide +kernel, by decide +kernel⟩, zTB_in 1346 (by decide +kernel) rfl, zTB_in 141 (by decide +kernel) rfl, by decide⟩
theorem mi_X8_motionsOf : zmi mX8_motionsOf := ⟨zTB_in 1345 (by decide +kernel) rfl, zTB_in 106 (by decide +kernel) rfl⟩
abbrev mX8_preferring : zM := (RX8, yX8_preferring, cX8_preferring, 5, (some .int))
theorem mk_X8_preferring : zmk mX8_preferring 2 := ⟨by decide +kernel, rfl, ⟨by decide +kernel, by decide +kernel, by decide +kernel⟩, zTB_in 1350 (by decide +kernel) rfl, zTB_in 141 (by decide +kernel) rfl, by decide⟩
theorem mi_X8_preferring : zmi mX8_preferring := ⟨zTB_in 1349 (by decide +kernel) rfl, zTB_in 107 (by decide +kernel) rfl⟩
abbrev mX8_isPreferred : zM := (RX8, yX8_isPreferred, cX8_isPreferred, 4, (some .boolean))
theorem mk_X8_isPreferred : zmk mX8_isPreferred 3 := ⟨by decide +kernel, rfl, ⟨by decide +kernel, by decide +kernel, by decide +kernel⟩, zTB_in 1354 (by decide +kernel) rfl, zTB_in 141 (by decide +kernel) rfl, by decide⟩
theorem mi_X8_isPreferred : zmi mX8_isPreferred := ⟨zTB_in 1353 (by decide +kernel) rfl, zTB_in 108 (by decide +kernel) rfl⟩
abbrev mX8_quota : zM := (RX8, yX8_quota, cX8_quota, 1, (some .int))
theorem mk_X8_quota : zmk mX8_quota 0 := ⟨by decide +kernel, rfl, ⟨by decide +kernel, by decide +kernel, by decide +kernel⟩, zTB_in 1358 (by decide +kernel) rfl, zTB_in 141 (by decide +kernel) rfl, by decide⟩
theorem mi_X8_quota : zmi mX8_quota := ⟨zTB_in 1357 (by decide +kernel) rfl, zTB_in 109 (by decide +kernel) rfl⟩
abbrev mX8_votesOn : zM := (RX8, yX8_votesOn, cX8_votesOn, 10, none)
theorem mk_X8_votesOn : zmk mX8_votesOn 3 := ⟨by decide +kernel, rfl, ⟨by decide +kernel, by decide +kernel, by decide +kernel⟩, zTB_in 1362 (by decide +kernel) rfl, zTB_in 141 (by decide +kernel) rfl, by decide⟩
theorem mi_X8_votesOn : zmi mX8_votesOn := ⟨zTB_in 1361 (by decide +kernel) rfl, zTB_in 110 (by decide +kernel) rfl⟩
abbrev mX8_adopted : zM := (RX8, yX8_adopted, cX8_adopted, 2, (some .int))
theorem mk_X8_adopted : zmk mX8_adopted 1 := ⟨by decide +kernel, rfl, ⟨by decide +kernel, by decide +kernel, by decide +kernel⟩, zTB_in 1366 (by decide +kernel) rfl, zTB_in 141 (by decide +kernel) rfl, by decide⟩
theorem mi_X8_adopted : zmi mX8_adopted := ⟨zTB_in 1364 (by decide +kernel) rfl, zTB_in 1365 (by decide +kernel) rfl⟩
abbrev mX8_way : zM := (RX8, yX8_way, cX8_way, 4, (some .int))
theorem mk_X8_way : zmk mX8_way 1 := ⟨by decide +kernel, rfl, ⟨by decide +kernel, by decide +kernel, by decide +kernel⟩, zTB_in 1370 (by decide +kernel) rfl, zTB_in 141 (by decide +kernel) rfl, by decide⟩
theorem mi_X8_way : zmi mX8_way := ⟨zTB_in 1369 (by decide +kernel) rfl, zTB_in 111 (by decide +kernel) rfl⟩
abbrev mX8_yes : zM := (RX8, yX8_yes, cX8_yes, 3, (some .int))
theorem mk_X8_yes : zmk mX8_yes 2 := ⟨by decide +kernel, rfl, ⟨by decide +kernel, by decide +kernel, by decide +kernel⟩, zTB_in 1374 (by decide +kernel) rfl, zTB_in 141 (by decide +kernel) rfl, by decide⟩
theorem mi_X8_yes : zmi mX8_yes := ⟨zTB_in 1372 (by decide +kernel) rfl, zTB_in 1373 (by decide +kernel) rfl⟩
abbrev mX8_minutes : zM := (RX8, yX8_minutes, cX8_minutes, 5, (some .int))
theorem mk_X8_minutes : zmk mX8_minutes 2 := ⟨by decide +kernel, rfl, ⟨by decide +kernel, by decide +kernel, by decide +kernel⟩, zTB_in 1378 (by decide +kernel) rfl, zTB_in 141 (by decide +kernel) rfl, by decide⟩
theorem mi_X8_minutes : zmi mX8_minutes := ⟨zTB_in 1376 (by decide +kernel) rfl, zTB_in 1377 (by decide +kernel) rfl⟩
abbrev mX8_says : zM := (RX8, yX8_says, cX8_says, 2, none)
theorem mk_X8_says : zmk mX8_says 1 := ⟨by decide +kernel, rfl, ⟨by decide +kernel, by decide +kernel, by decide +kernel⟩, zTB_in 1382 (by decide +kernel) rfl, zTB_in 141 (by decide +kernel) rfl, by decide⟩
theorem mi_X8_says : zmi mX8_says := ⟨zTB_in 1381 (by decide +kernel) rfl, zTB_in 112 (by decide +kernel) rfl⟩
abbrev mX8_without : zM := (RX8, yX8_without, cX8_without, 3, (some .int))
theorem mk_X8_without : zmk mX8_without 2 := ⟨by decide +kernel, rfl, ⟨by decide +kernel, by decide +kernel, by decide +kernel⟩, zTB_in 1386 (by decide +kernel) rfl, zTB_in 141 (by decide +kernel) rfl, by decide⟩
theorem mi_X8_without : zmi mX8_without := ⟨zTB_in 1384 (by decide +kernel) rfl, zTB_in 1385 (by decide +kernel) rfl⟩
abbrev mX8_isMotion : zM := (RX8, yX8_isMotion, cX8_isMotion, 2, (some .boolean))
theorem mk_X8_isMotion : zmk mX8_isMotion 1 := ⟨by decide +kernel, rfl, ⟨by decide +kernel, by decide +kernel, by decide +kernel⟩, zTB_in 1390 (by decide +kernel) rfl, zTB_in 141 (by decide +kernel) rfl, by decide⟩
theorem mi_X8_isMotion : zmi mX8_isMotion := ⟨zTB_in 1389 (by decide +kernel) rfl, zTB_in 113 (by decide +kernel) rfl⟩
abbrev mX8_resultWithout : zM := (RX8, yX8_resultWithout, cX8_resultWithout, 5, (some .int))
theorem mk_X8_resultWithout : zmk mX8_resultWithout 2 := ⟨by decide +kernel, rfl, ⟨by decide +kernel, by decide +kernel, by decide +kernel⟩, zTB_in 1394 (by decide +kernel) rfl, zTB_in 141 (by decide +kernel) rfl, by decide⟩
theorem mi_X8_resultWithout : zmi mX8_resultWithout := ⟨zTB_in 1393 (by decide +kernel) rfl, zTB_in 114 (by decide +kernel) rfl⟩
abbrev mX8_goesWith : zM := (RX8, yX8_goesWith, cX8_goesWith, 3, (some .boolean))
theorem mk_X8_goesWith : zmk mX8_goesWith 2 := ⟨by decide +kernel, rfl, ⟨by decide +kernel, by decide +kernel, by decide +kernel⟩, zTB_in 1398 (by decide +kernel) rfl, zTB_in 141 (by decide +kernel) rfl, by decide⟩
theorem mi_X8_goesWith : zmi mX8_goesWith := ⟨zTB_in 1397 (by decide +kernel) rfl, zTB_in 115 (by decide +kernel) rfl⟩
abbrev mX8_killers : zM := (RX8, yX8_killers, cX8_killers, 4, (some .int))
theorem mk_X8_killers : zmk mX8_killers 1 := ⟨by decide +kernel, rfl, ⟨by decide +kernel, by decide +kernel, by decide +kernel⟩, zTB_in 1402 (by decide +kernel) rfl, zTB_in 141 (by decide +kernel) rfl, by decide⟩
theorem mi_X8_killers : zmi mX8_killers := ⟨zTB_in 1400 (by decide +kernel) rfl, zTB_in 1401 (by decide +kernel) rfl⟩
abbrev mX8_best : zM := (RX8, yX8_best, cX8_best, 9, (some .int))
theorem mk_X8_best : zmk mX8_best 3 := ⟨by decide +kernel, rfl, ⟨by decide +kernel, by decide +kernel, by decide +kernel⟩, zTB_in 1406 (by decide +kernel) rfl, zTB_in 141 (by decide +kernel) rfl, by decide⟩
theorem mi_X8_best : zmi mX8_best := ⟨zTB_in 1404 (by decide +kernel) rfl, zTB_in 1405 (by decide +kernel) rfl⟩
abbrev mX8_isVoter : zM := (RX8, yX8_isVoter, cX8_isVoter, 2, (some .boolean))
theorem mk_X8_isVoter : zmk mX8_isVoter 1 := ⟨by decide +kernel, rfl, ⟨by decide +kernel, by decide +kernel, by decide +kernel⟩, zTB_in 1410 (by decide +kernel) rfl, zTB_in 141 (by decide +kernel) rfl, by decide⟩
theorem mi_X8_isVoter : zmi mX8_isVoter := ⟨zTB_in 1409 (by decide +kernel) rfl, zTB_in 116 (by decide +kernel) rfl⟩
abbrev mX8_laysFirst : zM := (RX8, yX8_laysFirst, cX8_laysFirst, 2, none)
theorem mk_X8_laysFirst : zmk mX8_laysFirst 0 := ⟨by decide +kernel, rfl, ⟨by decide +kernel, by decide +kernel, by decide +kernel⟩, zTB_in 1414 (by decide +kernel) rfl, zTB_in 141 (by decide +kernel) rfl, by decide⟩
theorem mi_X8_laysFirst : zmi mX8_laysFirst := ⟨zTB_in 1413 (by decide +kernel) rfl, zTB_in 117 (by decide +kernel) rfl⟩
abbrev mX8_packed : zM := (RX8, yX8_packed, cX8_packed, 3, (some .int))
theorem mk_X8_packed : zmk mX8_packed 0 := ⟨by decide +kernel, rfl, ⟨by decide +kernel, by decide +kernel, by decide +kernel⟩, zTB_in 1418 (by decide +kernel) rfl, zTB_in 141 (by decide +kernel) rfl, by decide⟩
theorem mi_X8_packed : zmi mX8_packed := ⟨zTB_in 1417 (by decide +kernel) rfl, zTB_in 118 (by decide +kernel) rfl⟩
abbrev mX8_goesOn : zM := (RX8, yX8_goesOn, cX8_goesOn, 6, (some .boolean))
theorem mk_X8_goesOn : zmk mX8_goesOn 0 := ⟨by decide +kernel, rfl, ⟨by decide +kernel, by decide +kernel, by decide +kernel⟩, zTB_in 1422 (by decide +kernel) rfl, zTB_in 141 (by decide +kernel) rfl, by decide⟩
theorem mi_X8_goesOn : zmi mX8_goesOn := ⟨zTB_in 1421 (by decide +kernel) rfl, zTB_in 119 (by decide +kernel) rfl⟩
abbrev mX8_swaps : zM := (RX8, yX8_swaps, cX8_swaps, 4, none)
theorem mk_X8_swaps : zmk mX8_swaps 2 := ⟨by decide +kernel, rfl, ⟨by decide +kernel, by decide +kernel, by decide +kernel⟩, zTB_in 1426 (by decide +kernel) rfl, zTB_in 141 (by decide +kernel) rfl, by decide⟩
theorem mi_X8_swaps : zmi mX8_swaps := ⟨zTB_in 1425 (by decide +kernel) rfl, zTB_in 120 (by decide +kernel) rfl⟩
abbrev mX8_prefers : zM := (RX8, yX8_prefers, cX8_prefers, 3, (some .int))
theorem mk_X8_prefers : zmk mX8_prefers 2 := ⟨by decide +kernel, rfl, ⟨by decide +kernel, by decide +kernel, by decide +kernel⟩, zTB_in 1430 (by decide +kernel) rfl, zTB_in 141 (by decide +kernel) rfl, by decide⟩
theorem mi_X8_prefers : zmi mX8_prefers := ⟨zTB_in 1428 (by decide +kernel) rfl, zTB_in 1429 (by decide +kernel) rfl⟩
abbrev mX8_open : zM := (RX8, yX8_open, cX8_open, 4, (some .int))
theorem mk_X8_open : zmk mX8_open 1 := ⟨by decide +kernel, rfl, ⟨by decide +kernel, by decide +kernel, by decide +kernel⟩, zTB_in 1434 (by decide +kernel) rfl, zTB_in 141 (by decide +kernel) rfl, by decide⟩
theorem mi_X8_open : zmi mX8_open := ⟨zTB_in 1432 (by decide +kernel) rfl, zTB_in 1433 (by decide +kernel) rfl⟩
abbrev mX8_laysOpen : zM := (RX8, yX8_laysOpen, cX8_laysOpen, 3, (some .int))
theorem mk_X8_laysOpen : zmk mX8_laysOpen 0 := ⟨by decide +kernel, rfl, ⟨by decide +kernel, by decide +kernel, by decide +kernel⟩, zTB_in 1438 (by decide +kernel) rfl, zTB_in 141 (by decide +kernel) rfl, by decide⟩
theorem mi_X8_laysOpen : zmi mX8_laysOpen := ⟨zTB_in 1437 (by decide +kernel) rfl, zTB_in 121 (by decide +kernel) rfl⟩
abbrev mX8_winner : zM := (RX8, yX8_winner, cX8_winner, 3, (some .int))
theorem mk_X8_winner : zmk mX8_winner 0 := ⟨by decide +kernel, rfl, ⟨by decide +kernel, by decide +kernel, by decide +kernel⟩, zTB_in 1442 (by decide +kernel) rfl, zTB_in 141 (by decide +kernel) rfl, by decide⟩
theorem mi_X8_winner : zmi mX8_winner := ⟨zTB_in 1440 (by decide +kernel) rfl, zTB_in 1441 (by decide +kernel) rfl⟩
abbrev mX8_beaten : zM := (RX8, yX8_beaten, cX8_beaten, 4, (some .int))
theorem mk_X8_beaten : zmk mX8_beaten 1 := ⟨by decide +kernel, rfl, ⟨by decide +kernel, by decide +kernel, by decide +kernel⟩, zTB_in 1446 (by decide +kernel) rfl, zTB_in 141 (by decide +kernel) rfl, by decide⟩
theorem mi_X8_beaten : zmi mX8_beaten := ⟨zTB_in 1445 (by decide +kernel) rfl, zTB_in 122 (by decide +kernel) rfl⟩
abbrev mX8_beats : zM := (RX8, yX8_beats, cX8_beats, 3, (some .boolean))
theorem mk_X8_beats : zmk mX8_beats 2 := ⟨by decide +kernel, rfl, ⟨by decide +kernel, by decide +kernel, by decide +kernel⟩, zTB_in 1450 (by decide +kernel) rfl, zTB_in 141 (by decide +kernel) rfl, by decide⟩
theorem mi_X8_beats : zmi mX8_beats := ⟨zTB_in 1449 (by decide +kernel) rfl, zTB_in 123 (by decide +kernel) rfl⟩
abbrev mX8_standing : zM := (RX8, yX8_standing, cX8_standing, 3, (some .int))
theorem mk_X8_standing : zmk mX8_standing 2 := ⟨by decide +kernel, rfl, ⟨by decide +kernel, by decide +kernel, by decide +kernel⟩, zTB_in 1454 (by decide +kernel) rfl, zTB_in 141 (by decide +kernel) rfl, by decide⟩
theorem mi_X8_standing : zmi mX8_standing := ⟨zTB_in 1452 (by decide +kernel) rfl, zTB_in 1453 (by decide +kernel) rfl⟩
abbrev mX8_laysTop : zM := (RX8, yX8_laysTop, cX8_laysTop, 5, none)
theorem mk_X8_laysTop : zmk mX8_laysTop 0 := ⟨by decide +kernel, rfl, ⟨by decide +kernel, by decide +kernel, by decide +kernel⟩, zTB_in 1458 (by decide +kernel) rfl, zTB_in 141 (by decide +kernel) rfl, by decide⟩
theorem mi_X8_laysTop : zmi mX8_laysTop := ⟨zTB_in 1457 (by decide +kernel) rfl, zTB_in 124 (by decide +kernel) rfl⟩
abbrev mX8_growsFrom : zM := (RX8, yX8_growsFrom, cX8_growsFrom, 5, (some .int))
theorem mk_X8_growsFrom : zmk mX8_growsFrom 1 := ⟨by decide +kernel, rfl, ⟨by decide +kernel, by decide +kernel, by decide +kernel⟩, zTB_in 1462 (by decide +kernel) rfl, zTB_in 141 (by decide +kernel) rfl, by decide⟩
theorem mi_X8_growsFrom : zmi mX8_growsFrom := ⟨zTB_in 1461 (by decide +kernel) rfl, zTB_in 125 (by decide +kernel) rfl⟩
abbrev mX8_isBelow : zM := (RX8, yX8_isBelow, cX8_isBelow, 3, (some .boolean))
theorem mk_X8_isBelow : zmk mX8_isBelow 1 := ⟨by decide +kernel, rfl, ⟨by decide +kernel, by decide +kernel, by decide +kernel⟩, zTB_in 1466 (by decide +kernel) rfl, zTB_in 141 (by decide +kernel) rfl, by decide⟩
theorem mi_X8_isBelow : zmi mX8_isBelow := ⟨zTB_in 1465 (by decide +kernel) rfl, zTB_in 126 (by decide +kernel) rfl⟩
abbrev mX8_isCovered : zM := (RX8, yX8_isCovered, cX8_isCovered, 3, (some .boolean))
theorem mk_X8_isCovered : zmk mX8_isCovered 1 := ⟨by decide +kernel, rfl, ⟨by decide +kernel, by decide +kernel, by decide +kernel⟩, zTB_in 1470 (by decide +kernel) rfl, zTB_in 141 (by decide +kernel) rfl, by decide⟩
theorem mi_X8_isCovered : zmi mX8_isCovered := ⟨zTB_in 1469 (by decide +kernel) rfl, zTB_in 127 (by decide +kernel) rfl⟩
abbrev mX8_covers : zM := (RX8, yX8_covers, cX8_covers, 4, (some .boolean))
theorem mk_X8_covers : zmk mX8_covers 2 := ⟨by decide +kernel, rfl, ⟨by decide +kernel, by decide +kernel, by decide +kernel⟩, zTB_in 1474 (by decide +kernel) rfl, zTB_in 141 (by decide +kernel) rfl, by decide⟩
theorem mi_X8_covers : zmi mX8_covers := ⟨zTB_in 1473 (by decide +kernel) rfl, zTB_in 128 (by decide +kernel) rfl⟩
abbrev mX8_weigh : zM := (RX8, yX8_weigh, cX8_weigh, 4, (some .boolean))
theorem mk_X8_weigh : zmk mX8_weigh 3 := ⟨by decide +kernel, rfl, ⟨by decide +kernel, by decide +kernel, by decide +kernel⟩, zTB_in 1478 (by decide +kernel) rfl, zTB_in 141 (by decide +kernel) rfl, by decide⟩
theorem mi_X8_weigh : zmi mX8_weigh := ⟨zTB_in 1476 (by decide +kernel) rfl, zTB_in 1477 (by decide +kernel) rfl⟩
abbrev mX8_count : zM := (RX8, yX8_count, cX8_count, 2, (some .int))
theorem mk_X8_count : zmk mX8_count 1 := ⟨by decide +kernel, rfl, ⟨by decide +kernel, by decide +kernel, by decide +kernel⟩, zTB_in 1482 (by decide +kernel) rfl, zTB_in 141 (by decide +kernel) rfl, by decide⟩
theorem mi_X8_count : zmi mX8_count := ⟨zTB_in 1480 (by decide +kernel) rfl, zTB_in 1481 (by decide +kernel) rfl⟩
abbrev mX8_goodOrders : zM := (RX8, yX8_goodOrders, cX8_goodOrders, 3, (some .int))
theorem mk_X8_goodOrders : zmk mX8_goodOrders 0 := ⟨by decide +kernel, rfl, ⟨by decide +kernel, by decide +kernel, by decide +kernel⟩, zTB_in 1486 (by decide +kernel) rfl, zTB_in 141 (by decide +kernel) rfl, by decide⟩
theorem mi_X8_goodOrders : zmi mX8_goodOrders := ⟨zTB_in 1485 (by decide +kernel) rfl, zTB_in 129 (by decide +kernel) rfl⟩
abbrev mX8_motion : zM := (RX8, yX8_motion, cX8_motion, 3, (some .int))
theorem mk_X8_motion : zmk mX8_motion 2 := ⟨by decide +kernel, rfl, ⟨by decide +kernel, by decide +kernel, by decide +kernel⟩, zTB_in 1490 (by decide +kernel) rfl, zTB_in 141 (by decide +kernel) rfl, by decide⟩
theorem mi_X8_motion : zmi mX8_motion := ⟨zTB_in 1488 (by decide +kernel) rfl, zTB_in 1489 (by decide +kernel) rfl⟩
abbrev mX8_placeOf : zM := (RX8, yX8_placeOf, cX8_placeOf, 3, (some .int))
theorem mk_X8_placeOf : zmk mX8_placeOf 1 := ⟨by decide +kernel, rfl, ⟨by decide +kernel, by decide +kernel, by decide +kernel⟩, zTB_in 1494 (by decide +kernel) rfl, zTB_in 141 (by decide +kernel) rfl, by decide⟩
theorem mi_X8_placeOf : zmi mX8_placeOf := ⟨zTB_in 1493 (by decide +kernel) rfl, zTB_in 130 (by decide +kernel) rfl⟩
abbrev mX8_weight : zM := (RX8, yX8_weight, cX8_weight, 3, (some .int))
theorem mk_X8_weight : zmk mX8_weight 2 := ⟨by decide +kernel, rfl, ⟨by decide +kernel, by decide +kernel, by decide +kernel⟩, zTB_in 1498 (by decide +kernel) rfl, zTB_in 141 (by decide +kernel) rfl, by decide⟩
theorem mi_X8_weight : zmi mX8_weight := ⟨zTB_in 1496 (by decide +kernel) rfl, zTB_in 1497 (by decide +kernel) rfl⟩
abbrev mX8_likes : zM := (RX8, yX8_likes, cX8_likes, 3, (some .int))
theorem mk_X8_likes : zmk mX8_likes 2 := ⟨by decide +kernel, rfl, ⟨by decide +kernel, by decide +kernel, by decide +kernel⟩, zTB_in 1502 (by decide +kernel) rfl, zTB_in 141 (by decide +kernel) rfl, by decide⟩
theorem mi_X8_likes : zmi mX8_likes := ⟨zTB_in 1500 (by decide +kernel) rfl, zTB_in 1501 (by decide +kernel) rfl⟩
theorem ml_RJ0_335 : zml RJ0 335 mJ0_coder_7d493 := Or.inl (zTB_in 575 (by decide +kernel) rfl)
theorem ml_RJ0_492 : zml RJ0 492 mJ0_isLatin1_aae02 := Or.inl (zTB_in 585 (by decide +kernel) rfl)
theorem ml_RJ0_495 : zml RJ0 495 mJ1_charAt_3b067 := Or.inl (zTB_in 589 (by decide +kernel) rfl)
theorem ml_RJ0_498 : zml RJ0 498 mJ2_charAt_3b067 := Or.inl (zTB_in 600 (by decide +kernel) rfl)
theorem ml_RJ0_1059 : zml RJ0 1059 mJ3_checkIndex_8e157 := Or.inl (zTB_in 597 (by decide +kernel) rfl)
theorem ml_RJ1_9 : zml RJ1 9 mJ0_checkIndex_df160 := Or.inl (zTB_in 592 (by decide +kernel) rfl)
theorem ml_RJ2_48 : zml RJ2 48 mJ2_length_9d52b := Or.inl (zTB_in 606 (by decide +kernel) rfl)
theorem ml_RJ2_67 : zml RJ2 67 mJ2_checkIndex_2214a := Or.inl (zTB_in 603 (by decide +kernel) rfl)
theorem ml_RJ2_71 : zml RJ2 71 mJ2_getChar_3b067 := Or.inl (zTB_in 610 (by decide +kernel) rfl)
theorem ml_RJ2_414 : zml RJ2 414 mJ0_checkIndex_df160 := Or.inl (zTB_in 609 (by decide +kernel) rfl)
theorem ml_RL_7 : zml RL 7 mX7_motion := Or.inl (zTB_in 949 (by decide +kernel) rfl)
theorem ml_RL_15 : zml RL 15 mX7_weight := Or.inl (zTB_in 1026 (by decide +kernel) rfl)
theorem ml_RL_18 : zml RL 18 mX7_likes := Or.inl (zTB_in 1034 (by decide +kernel) rfl)
theorem ml_RL_21 : zml RL 21 mX7_init := Or.inl (zTB_in 155 (by decide +kernel) rfl)
theorem ml_RL_24 : zml RL 24 mX8_init := Or.inl (zTB_in 1042 (by decide +kernel) rfl)
theorem ml_RL_25 : zml RL 25 mX7_feed := Or.inl (zTB_in 519 (by decide +kernel) rfl)
theorem ml_RL_29 : zml RL 29 mX8_feed := Or.inl (zTB_in 1181 (by decide +kernel) rfl)
theorem ml_RL_30 : zml RL 30 mX7_end := Or.inl (zTB_in 527 (by decide +kernel) rfl)
theorem ml_RL_34 : zml RL 34 mX8_end := Or.inl (zTB_in 1189 (by decide +kernel) rfl)
theorem ml_RL_35 : zml RL 35 mX7_tell := Or.inl (zTB_in 531 (by decide +kernel) rfl)
theorem ml_RL_39 : zml RL 39 mX8_tell := Or.inl (zTB_in 1196 (by decide +kernel) rfl)
theorem ml_RL_40 : zml RL 40 mX7_fault := Or.inl (zTB_in 704 (by decide +kernel) rfl)
theorem ml_RL_43 : zml RL 43 mX8_fault := Or.inl (zTB_in 1287 (by decide +kernel) rfl)
theorem ml_RL_44 : zml RL 44 mX7_weigh := Or.inl (zTB_in 708 (by decide +kernel) rfl)
theorem ml_RL_48 : zml RL 48 mX8_weigh := Or.inl (zTB_in 1475 (by decide +kernel) rfl)
theorem ml_RL_49 : zml RL 49 mX7_order := Or.inl (zTB_in 716 (by decide +kernel) rfl)
theorem ml_RL_52 : zml RL 52 mX8_order := Or.inl (zTB_in 1291 (by decide +kernel) rfl)
theorem ml_RL_53 : zml RL 53 mX7_count := Or.inl (zTB_in 733 (by decide +kernel) rfl)
theorem ml_RL_57 : zml RL 57 mX8_count := Or.inl (zTB_in 1479 (by decide +kernel) rfl)
theorem ml_RL_63 : zml RL 63 mX8_motion := Or.inl (zTB_in 1487 (by decide +kernel) rfl)
theorem ml_RL_64 : zml RL 64 mX8_thrown := Or.inl (zTB_in 1177 (by decide +kernel) rfl)
theorem ml_RL_69 : zml RL 69 mX8_weight := Or.inl (zTB_in 1495 (by decide +kernel) rfl)
theorem ml_RL_72 : zml RL 72 mX8_likes := Or.inl (zTB_in 1499 (by decide +kernel) rfl)
theorem ml_RL_73 : zml RL 73 mX7_form := Or.inl (zTB_in 749 (by decide +kernel) rfl)
theorem ml_RL_76 : zml RL 76 mX8_form := Or.inl (zTB_in 1299 (by decide +kernel) rfl)
theorem ml_RL_77 : zml RL 77 mX7_result := Or.inl (zTB_in 756 (by decide +kernel) rfl)
theorem ml_RL_80 : zml RL 80 mX8_result := Or.inl (zTB_in 1311 (by decide +kernel) rfl)
theorem ml_RL_81 : zml RL 81 mX7_adopted := Or.inl (zTB_in 809 (by decide +kernel) rfl)
theorem ml_RL_84 : zml RL 84 mX8_adopted := Or.inl (zTB_in 1363 (by decide +kernel) rfl)
theorem ml_RL_85 : zml RL 85 mX7_yes := Or.inl (zTB_in 818 (by decide +kernel) rfl)
theorem ml_RL_88 : zml RL 88 mX8_yes := Or.inl (zTB_in 1371 (by decide +kernel) rfl)
theorem ml_RL_89 : zml RL 89 mX7_minutes := Or.inl (zTB_in 822 (by decide +kernel) rfl)
theorem ml_RL_92 : zml RL 92 mX8_minutes := Or.inl (zTB_in 1375 (by decide +kernel) rfl)
theorem ml_RL_93 : zml RL 93 mX7_without := Or.inl (zTB_in 830 (by decide +kernel) rfl)
theorem ml_RL_96 : zml RL 96 mX8_without := Or.inl (zTB_in 1383 (by decide +kernel) rfl)
theorem ml_RL_97 : zml RL 97 mX7_killers := Or.inl (zTB_in 839 (by decide +kernel) rfl)
theorem ml_RL_100 : zml RL 100 mX8_killers := Or.inl (zTB_in 1399 (by decide +kernel) rfl)
theorem ml_RL_101 : zml RL 101 mX7_best := Or.inl (zTB_in 843 (by decide +kernel) rfl)
theorem ml_RL_105 : zml RL 105 mX8_best := Or.inl (zTB_in 1403 (by decide +kernel) rfl)
theorem ml_RL_106 : zml RL 106 mX7_prefers := Or.inl (zTB_in 873 (by decide +kernel) rfl)
theorem ml_RL_109 : zml RL 109 mX8_prefers := Or.inl (zTB_in 1427 (by decide +kernel) rfl)
theorem ml_RL_110 : zml RL 110 mX7_open := Or.inl (zTB_in 881 (by decide +kernel) rfl)
theorem ml_RL_113 : zml RL 113 mX8_open := Or.inl (zTB_in 1431 (by decide +kernel) rfl)
theorem ml_RL_114 : zml RL 114 mX7_winner := Or.inl (zTB_in 885 (by decide +kernel) rfl)
theorem ml_RL_117 : zml RL 117 mX8_winner := Or.inl (zTB_in 1439 (by decide +kernel) rfl)
theorem ml_RL_118 : zml RL 118 mX7_standing := Or.inl (zTB_in 927 (by decide +kernel) rfl)
theorem ml_RL_121 : zml RL 121 mX8_standing := Or.inl (zTB_in 1451 (by decide +kernel) rfl)
theorem ml_RX0_28 : zml RX0 28 mX0_leastNext := Or.inl (zTB_in 437 (by decide +kernel) rfl)
theorem ml_RX0_32 : zml RX0 32 mX7_isIn := Or.inr ⟨"AmendmentTree", zNW_in 441 (by decide +kernel) rfl⟩
theorem ml_RX0_36 : zml RX0 36 mX0_areChildrenIn := Or.inl (zTB_in 444 (by decide +kernel) rfl)
theorem ml_RX0_42 : zml RX0 42 mX0_rowOfSequence := Or.inl (zTB_in 724 (by decide +kernel) rfl)
theorem ml_RX0_46 : zml RX0 46 mX0_isGood := Or.inl (zTB_in 728 (by decide +kernel) rfl)
theorem ml_RX0_50 : zml RX0 50 mX2_hasMotion := Or.inr ⟨"AmendmentTree", zNW_in 732 (by decide +kernel) rfl⟩
theorem ml_RX0_53 : zml RX0 53 mX0_canBeLast := Or.inl (zTB_in 745 (by decide +kernel) rfl)
theorem ml_RX1_36 : zml RX1 36 mJ7_fill_53178 := Or.inl (zTB_in 477 (by decide +kernel) rfl)
theorem ml_RX1_56 : zml RX1 56 mX7_isIn := Or.inr ⟨"AmendmentTree", zNW_in 480 (by decide +kernel) rfl⟩
theorem ml_RX1_60 : zml RX1 60 mX1_forgetBeaten := Or.inl (zTB_in 481 (by decide +kernel) rfl)
theorem ml_RX1_67 : zml RX1 67 mX1_learnPair := Or.inl (zTB_in 893 (by decide +kernel) rfl)
theorem ml_RX1_71 : zml RX1 71 mX1_learnTop := Or.inl (zTB_in 902 (by decide +kernel) rfl)
theorem ml_RX1_74 : zml RX1 74 mX5_countPreferring := Or.inr ⟨"AmendmentTree", zNW_in 897 (by decide +kernel) rfl⟩
theorem ml_RX1_80 : zml RX1 80 mX1_markBeaten := Or.inl (zTB_in 898 (by decide +kernel) rfl)
theorem ml_RX1_83 : zml RX1 83 mJ6_bitCount_0f7a4 := Or.inl (zTB_in 914 (by decide +kernel) rfl)
theorem ml_RX1_89 : zml RX1 89 mX1_countBeaten := Or.inl (zTB_in 910 (by decide +kernel) rfl)
theorem ml_RX1_92 : zml RX1 92 mX1_isBeaten := Or.inl (zTB_in 915 (by decide +kernel) rfl)
theorem ml_RX1_95 : zml RX1 95 mX1_beatsAllOf := Or.inl (zTB_in 940 (by decide +kernel) rfl)
theorem ml_RX1_98 : zml RX1 98 mX1_indexOfMostBeating := Or.inl (zTB_in 906 (by decide +kernel) rfl)
theorem ml_RX1_105 : zml RX1 105 mX1_isOfTop := Or.inl (zTB_in 919 (by decide +kernel) rfl)
theorem ml_RX2_55 : zml RX2 55 mJ7_fill_53178 := Or.inl (zTB_in 549 (by decide +kernel) rfl)
theorem ml_RX2_67 : zml RX2 67 mX7_isIn := Or.inr ⟨"AmendmentTree", zNW_in 468 (by decide +kernel) rfl⟩
theorem ml_RX2_71 : zml RX2 71 mX2_plusOf := Or.inl (zTB_in 469 (by decide +kernel) rfl)
theorem ml_RX3_32 : zml RX3 32 mX2_clear := Or.inr ⟨"AmendmentTree", zNW_in 545 (by decide +kernel) rfl⟩
theorem ml_RX3_47 : zml RX3 47 mX3_step := Or.inl (zTB_in 550 (by decide +kernel) rfl)
theorem ml_RX3_53 : zml RX3 53 mX3_statement := Or.inl (zTB_in 562 (by decide +kernel) rfl)
theorem ml_RX3_59 : zml RX3 59 mX3_isWord := Or.inl (zTB_in 567 (by decide +kernel) rfl)
theorem ml_RX3_63 : zml RX3 63 mX3_bill := Or.inl (zTB_in 619 (by decide +kernel) rfl)
theorem ml_RX3_67 : zml RX3 67 mX3_amendment := Or.inl (zTB_in 636 (by decide +kernel) rfl)
theorem ml_RX3_72 : zml RX3 72 mX3_substitute := Or.inl (zTB_in 661 (by decide +kernel) rfl)
theorem ml_RX3_77 : zml RX3 77 mX3_voter := Or.inl (zTB_in 666 (by decide +kernel) rfl)
theorem ml_RX3_81 : zml RX3 81 mX3_joint := Or.inl (zTB_in 675 (by decide +kernel) rfl)
theorem ml_RX3_85 : zml RX3 85 mX3_quota := Or.inl (zTB_in 688 (by decide +kernel) rfl)
theorem ml_RX3_87 : zml RX3 87 mX3_refuse := Or.inl (zTB_in 623 (by decide +kernel) rfl)
theorem ml_RX3_91 : zml RX3 91 mX3_semicolon := Or.inl (zTB_in 692 (by decide +kernel) rfl)
theorem ml_RX3_94 : zml RX3 94 mX3_isSign := Or.inl (zTB_in 653 (by decide +kernel) rfl)
theorem ml_RX3_98 : zml RX3 98 mX3_clauseSet := Or.inl (zTB_in 627 (by decide +kernel) rfl)
theorem ml_RX3_109 : zml RX3 109 mX3_target := Or.inl (zTB_in 640 (by decide +kernel) rfl)
theorem ml_RX3_118 : zml RX3 118 mX2_addMotion := Or.inr ⟨"AmendmentTree", zNW_in 657 (by decide +kernel) rfl⟩
theorem ml_RX3_127 : zml RX3 127 mX3_canBeAmended := Or.inl (zTB_in 645 (by decide +kernel) rfl)
theorem ml_RX3_130 : zml RX3 130 mX2_hasMotion := Or.inr ⟨"AmendmentTree", zNW_in 649 (by decide +kernel) rfl⟩
theorem ml_RX3_142 : zml RX3 142 mX7_isClause := Or.inr ⟨"AmendmentTree", zNW_in 631 (by decide +kernel) rfl⟩
theorem ml_RX3_145 : zml RX3 145 mX7_isIn := Or.inr ⟨"AmendmentTree", zNW_in 634 (by decide +kernel) rfl⟩
theorem ml_RX3_149 : zml RX3 149 mX3_signedWeight := Or.inl (zTB_in 670 (by decide +kernel) rfl)
theorem ml_RX3_161 : zml RX3 161 mX2_hasVoter := Or.inr ⟨"AmendmentTree", zNW_in 679 (by decide +kernel) rfl⟩
theorem ml_RX3_164 : zml RX3 164 mX2_addJoint := Or.inr ⟨"AmendmentTree", zNW_in 683 (by decide +kernel) rfl⟩
theorem ml_RX3_171 : zml RX3 171 mJ0_length_8abf5 := Or.inl (zTB_in 571 (by decide +kernel) rfl)
theorem ml_RX3_176 : zml RX3 176 mJ0_charAt_5068e := Or.inl (zTB_in 581 (by decide +kernel) rfl)
theorem ml_RX3_180 : zml RX3 180 mX3_endOfRun := Or.inl (zTB_in 554 (by decide +kernel) rfl)
theorem ml_RX3_184 : zml RX3 184 mX3_takeNumber := Or.inl (zTB_in 558 (by decide +kernel) rfl)
theorem ml_RX4_48 : zml RX4 48 mX6_startBack := Or.inr ⟨"AmendmentTree", zNW_in 851 (by decide +kernel) rfl⟩
theorem ml_RX4_52 : zml RX4 52 mX4_tryLast := Or.inl (zTB_in 852 (by decide +kernel) rfl)
theorem ml_RX4_59 : zml RX4 59 mX4_judge := Or.inl (zTB_in 856 (by decide +kernel) rfl)
theorem ml_RX4_63 : zml RX4 63 mX0_canBeLast := Or.inr ⟨"AmendmentTree", zNW_in 864 (by decide +kernel) rfl⟩
theorem ml_RX4_69 : zml RX4 69 mX6_stepBack := Or.inr ⟨"AmendmentTree", zNW_in 865 (by decide +kernel) rfl⟩
theorem ml_RX4_72 : zml RX4 72 mX4_shiftOf := Or.inl (zTB_in 866 (by decide +kernel) rfl)
theorem ml_RX4_76 : zml RX4 76 mX5_likingOf := Or.inr ⟨"AmendmentTree", zNW_in 860 (by decide +kernel) rfl⟩
theorem ml_RX5_25 : zml RX5 25 mX5_takeVoter := Or.inl (zTB_in 452 (by decide +kernel) rfl)
theorem ml_RX5_44 : zml RX5 44 mX5_takeJoint := Or.inl (zTB_in 456 (by decide +kernel) rfl)
theorem ml_RX5_48 : zml RX5 48 mX5_isPreferred := Or.inl (zTB_in 781 (by decide +kernel) rfl)
theorem ml_RX6_42 : zml RX6 42 mX2_formOf := Or.inr ⟨"AmendmentTree", zNW_in 464 (by decide +kernel) rfl⟩
theorem ml_RX6_51 : zml RX6 51 mX7_isIn := Or.inr ⟨"AmendmentTree", zNW_in 768 (by decide +kernel) rfl⟩
theorem ml_RX6_55 : zml RX6 55 mX6_startBack := Or.inl (zTB_in 769 (by decide +kernel) rfl)
theorem ml_RX6_59 : zml RX6 59 mX6_stepBack := Or.inl (zTB_in 790 (by decide +kernel) rfl)
theorem ml_RX6_65 : zml RX6 65 mX6_yesOnPassage := Or.inl (zTB_in 773 (by decide +kernel) rfl)
theorem ml_RX6_68 : zml RX6 68 mX6_passes := Or.inl (zTB_in 785 (by decide +kernel) rfl)
theorem ml_RX6_72 : zml RX6 72 mJ6_bitCount_0f7a4 := Or.inl (zTB_in 794 (by decide +kernel) rfl)
theorem ml_RX6_77 : zml RX6 77 mX6_yesOnMotion := Or.inl (zTB_in 800 (by decide +kernel) rfl)
theorem ml_RX6_81 : zml RX6 81 mX6_carries := Or.inl (zTB_in 805 (by decide +kernel) rfl)
theorem ml_RX6_87 : zml RX6 87 mX5_isPreferred := Or.inr ⟨"AmendmentTree", zNW_in 804 (by decide +kernel) rfl⟩
theorem ml_RX6_93 : zml RX6 93 mX5_countPreferring := Or.inr ⟨"AmendmentTree", zNW_in 777 (by decide +kernel) rfl⟩
theorem ml_RX6_97 : zml RX6 97 mX2_quotaInForce := Or.inr ⟨"AmendmentTree", zNW_in 789 (by decide +kernel) rfl⟩
theorem ml_RX6_101 : zml RX6 101 mX6_outcome := Or.inl (zTB_in 817 (by decide +kernel) rfl)
theorem ml_RX7_15 : zml RX7 15 mX2_init := Or.inr ⟨"AmendmentTree", zNW_in 163 (by decide +kernel) rfl⟩
theorem ml_RX7_25 : zml RX7 25 mX3_init := Or.inr ⟨"AmendmentTree", zNW_in 242 (by decide +kernel) rfl⟩
theorem ml_RX7_34 : zml RX7 34 mX0_init := Or.inr ⟨"AmendmentTree", zNW_in 289 (by decide +kernel) rfl⟩
theorem ml_RX7_43 : zml RX7 43 mX5_init := Or.inr ⟨"AmendmentTree", zNW_in 306 (by decide +kernel) rfl⟩
theorem ml_RX7_50 : zml RX7 50 mX6_init := Or.inr ⟨"AmendmentTree", zNW_in 319 (by decide +kernel) rfl⟩
theorem ml_RX7_59 : zml RX7 59 mX4_init := Or.inr ⟨"AmendmentTree", zNW_in 359 (by decide +kernel) rfl⟩
theorem ml_RX7_68 : zml RX7 68 mX1_init := Or.inr ⟨"AmendmentTree", zNW_in 392 (by decide +kernel) rfl⟩
theorem ml_RX7_73 : zml RX7 73 mX7_takeTold := Or.inl (zTB_in 429 (by decide +kernel) rfl)
theorem ml_RX7_80 : zml RX7 80 mX7_putBytes := Or.inl (zTB_in 523 (by decide +kernel) rfl)
theorem ml_RX7_84 : zml RX7 84 mX3_readText := Or.inr ⟨"AmendmentTree", zNW_in 535 (by decide +kernel) rfl⟩
theorem ml_RX7_94 : zml RX7 94 mX2_copyFrom := Or.inr ⟨"AmendmentTree", zNW_in 696 (by decide +kernel) rfl⟩
theorem ml_RX7_97 : zml RX7 97 mX2_hasVoter := Or.inr ⟨"AmendmentTree", zNW_in 712 (by decide +kernel) rfl⟩
theorem ml_RX7_101 : zml RX7 101 mX7_isClause := Or.inl (zTB_in 713 (by decide +kernel) rfl)
theorem ml_RX7_107 : zml RX7 107 mX5_takeVoter := Or.inr ⟨"AmendmentTree", zNW_in 714 (by decide +kernel) rfl⟩
theorem ml_RX7_110 : zml RX7 110 mX1_forgetBeaten := Or.inr ⟨"AmendmentTree", zNW_in 715 (by decide +kernel) rfl⟩
theorem ml_RX7_113 : zml RX7 113 mX0_takeRow := Or.inr ⟨"AmendmentTree", zNW_in 720 (by decide +kernel) rfl⟩
theorem ml_RX7_125 : zml RX7 125 mX2_quotaInForce := Or.inr ⟨"AmendmentTree", zNW_in 737 (by decide +kernel) rfl⟩
theorem ml_RX7_132 : zml RX7 132 mX0_countGood := Or.inr ⟨"AmendmentTree", zNW_in 741 (by decide +kernel) rfl⟩
theorem ml_RX7_138 : zml RX7 138 mX2_hasMotion := Or.inr ⟨"AmendmentTree", zNW_in 834 (by decide +kernel) rfl⟩
theorem ml_RX7_160 : zml RX7 160 mX0_placeOf := Or.inr ⟨"AmendmentTree", zNW_in 1018 (by decide +kernel) rfl⟩
theorem ml_RX7_167 : zml RX7 167 mX7_isForm := Or.inl (zTB_in 877 (by decide +kernel) rfl)
theorem ml_RX7_172 : zml RX7 172 mX5_likingOf := Or.inr ⟨"AmendmentTree", zNW_in 1039 (by decide +kernel) rfl⟩
theorem ml_RX7_176 : zml RX7 176 mX7_isSubset := Or.inl (zTB_in 753 (by decide +kernel) rfl)
theorem ml_RX7_183 : zml RX7 183 mX7_areVoters := Or.inl (zTB_in 760 (by decide +kernel) rfl)
theorem ml_RX7_186 : zml RX7 186 mX6_outcome := Or.inr ⟨"AmendmentTree", zNW_in 764 (by decide +kernel) rfl⟩
theorem ml_RX7_189 : zml RX7 189 mX6_walk := Or.inr ⟨"AmendmentTree", zNW_in 813 (by decide +kernel) rfl⟩
theorem ml_RX7_198 : zml RX7 198 mX6_minuteByte := Or.inr ⟨"AmendmentTree", zNW_in 826 (by decide +kernel) rfl⟩
theorem ml_RX7_201 : zml RX7 201 mX2_goneWith := Or.inr ⟨"AmendmentTree", zNW_in 835 (by decide +kernel) rfl⟩
theorem ml_RX7_204 : zml RX7 204 mX4_tryAll := Or.inr ⟨"AmendmentTree", zNW_in 847 (by decide +kernel) rfl⟩
theorem ml_RX7_211 : zml RX7 211 mX4_bestRow := Or.inr ⟨"AmendmentTree", zNW_in 869 (by decide +kernel) rfl⟩
theorem ml_RX7_217 : zml RX7 217 mX5_countPreferring := Or.inr ⟨"AmendmentTree", zNW_in 880 (by decide +kernel) rfl⟩
theorem ml_RX7_223 : zml RX7 223 mX1_learnBeaten := Or.inr ⟨"AmendmentTree", zNW_in 889 (by decide +kernel) rfl⟩
theorem ml_RX7_226 : zml RX7 226 mX1_findWinner := Or.inr ⟨"AmendmentTree", zNW_in 923 (by decide +kernel) rfl⟩
theorem ml_RX7_229 : zml RX7 229 mX1_indexOf := Or.inr ⟨"AmendmentTree", zNW_in 931 (by decide +kernel) rfl⟩
theorem ml_RX7_232 : zml RX7 232 mX1_isOfTop := Or.inr ⟨"AmendmentTree", zNW_in 935 (by decide +kernel) rfl⟩
theorem ml_RX7_235 : zml RX7 235 mX1_isCovered := Or.inr ⟨"AmendmentTree", zNW_in 936 (by decide +kernel) rfl⟩
theorem ml_RX7_238 : zml RX7 238 mX1_countBeaten := Or.inr ⟨"AmendmentTree", zNW_in 944 (by decide +kernel) rfl⟩
theorem ml_RX7_241 : zml RX7 241 mX0_takeLeast := Or.inr ⟨"AmendmentTree", zNW_in 433 (by decide +kernel) rfl⟩
theorem ml_RX7_244 : zml RX7 244 mX5_takeAll := Or.inr ⟨"AmendmentTree", zNW_in 448 (by decide +kernel) rfl⟩
theorem ml_RX7_247 : zml RX7 247 mX6_takeForms := Or.inr ⟨"AmendmentTree", zNW_in 460 (by decide +kernel) rfl⟩
theorem ml_RX7_250 : zml RX7 250 mX1_takeOpen := Or.inr ⟨"AmendmentTree", zNW_in 473 (by decide +kernel) rfl⟩
theorem ml_RX8_102 : zml RX8 102 mX8_four := Or.inl (zTB_in 1185 (by decide +kernel) rfl)
theorem ml_RX8_106 : zml RX8 106 mX8_in := Or.inl (zTB_in 1193 (by decide +kernel) rfl)
theorem ml_RX8_116 : zml RX8 116 mX8_here := Or.inl (zTB_in 1204 (by decide +kernel) rfl)
theorem ml_RX8_133 : zml RX8 133 mX8_has := Or.inl (zTB_in 1226 (by decide +kernel) rfl)
theorem ml_RX8_137 : zml RX8 137 mX8_fails := Or.inl (zTB_in 1216 (by decide +kernel) rfl)
theorem ml_RX8_143 : zml RX8 143 mX8_isWord := Or.inl (zTB_in 1212 (by decide +kernel) rfl)
theorem ml_RX8_147 : zml RX8 147 mX8_readWord := Or.inl (zTB_in 1220 (by decide +kernel) rfl)
theorem ml_RX8_151 : zml RX8 151 mX8_readNumber := Or.inl (zTB_in 1248 (by decide +kernel) rfl)
theorem ml_RX8_158 : zml RX8 158 mX8_readSet := Or.inl (zTB_in 1234 (by decide +kernel) rfl)
theorem ml_RX8_162 : zml RX8 162 mX8_comes := Or.inl (zTB_in 1252 (by decide +kernel) rfl)
theorem ml_RX8_176 : zml RX8 176 mX8_readOf := Or.inl (zTB_in 1243 (by decide +kernel) rfl)
theorem ml_RX8_179 : zml RX8 179 mX8_readWeight := Or.inl (zTB_in 1265 (by decide +kernel) rfl)
theorem ml_RX8_182 : zml RX8 182 mX8_readBill := Or.inl (zTB_in 1230 (by decide +kernel) rfl)
theorem ml_RX8_187 : zml RX8 187 mX8_readAmend := Or.inl (zTB_in 1239 (by decide +kernel) rfl)
theorem ml_RX8_190 : zml RX8 190 mX8_readSub := Or.inl (zTB_in 1256 (by decide +kernel) rfl)
theorem ml_RX8_195 : zml RX8 195 mX8_readVoter := Or.inl (zTB_in 1261 (by decide +kernel) rfl)
theorem ml_RX8_200 : zml RX8 200 mX8_readJoint := Or.inl (zTB_in 1270 (by decide +kernel) rfl)
theorem ml_RX8_205 : zml RX8 205 mX8_readQuota := Or.inl (zTB_in 1275 (by decide +kernel) rfl)
theorem ml_RX8_211 : zml RX8 211 mX8_readStatement := Or.inl (zTB_in 1208 (by decide +kernel) rfl)
theorem ml_RX8_214 : zml RX8 214 mX8_readText := Or.inl (zTB_in 1200 (by decide +kernel) rfl)
theorem ml_RX8_220 : zml RX8 220 mX8_laysLeast := Or.inl (zTB_in 1279 (by decide +kernel) rfl)
theorem ml_RX8_223 : zml RX8 223 mX8_mayStand := Or.inl (zTB_in 1283 (by decide +kernel) rfl)
theorem ml_RX8_226 : zml RX8 226 mX8_swaps := Or.inl (zTB_in 1423 (by decide +kernel) rfl)
theorem ml_RX8_230 : zml RX8 230 mX8_laysFirst := Or.inl (zTB_in 1411 (by decide +kernel) rfl)
theorem ml_RX8_233 : zml RX8 233 mX8_isGood := Or.inl (zTB_in 1295 (by decide +kernel) rfl)
theorem ml_RX8_236 : zml RX8 236 mX8_goesOn := Or.inl (zTB_in 1419 (by decide +kernel) rfl)
theorem ml_RX8_239 : zml RX8 239 mX8_plusOf := Or.inl (zTB_in 1307 (by decide +kernel) rfl)
theorem ml_RX8_243 : zml RX8 243 mX8_formOf := Or.inl (zTB_in 1303 (by decide +kernel) rfl)
theorem ml_RX8_247 : zml RX8 247 mX8_likesOf := Or.inl (zTB_in 1327 (by decide +kernel) rfl)
theorem ml_RX8_250 : zml RX8 250 mX8_isPreferred := Or.inl (zTB_in 1351 (by decide +kernel) rfl)
theorem ml_RX8_256 : zml RX8 256 mX8_motionsOf := Or.inl (zTB_in 1343 (by decide +kernel) rfl)
theorem ml_RX8_259 : zml RX8 259 mX8_preferring := Or.inl (zTB_in 1347 (by decide +kernel) rfl)
theorem ml_RX8_262 : zml RX8 262 mX8_quota := Or.inl (zTB_in 1355 (by decide +kernel) rfl)
theorem ml_RX8_265 : zml RX8 265 mX8_passes := Or.inl (zTB_in 1339 (by decide +kernel) rfl)
theorem ml_RX8_268 : zml RX8 268 mX8_votesOn := Or.inl (zTB_in 1359 (by decide +kernel) rfl)
theorem ml_RX8_272 : zml RX8 272 mX8_laysLikes := Or.inl (zTB_in 1323 (by decide +kernel) rfl)
theorem ml_RX8_275 : zml RX8 275 mX8_laysOrder := Or.inl (zTB_in 1331 (by decide +kernel) rfl)
theorem ml_RX8_278 : zml RX8 278 mX8_worksOut := Or.inl (zTB_in 1335 (by decide +kernel) rfl)
theorem ml_RX8_281 : zml RX8 281 mX8_isSetOfVoters := Or.inl (zTB_in 1315 (by decide +kernel) rfl)
theorem ml_RX8_284 : zml RX8 284 mX8_asks := Or.inl (zTB_in 1319 (by decide +kernel) rfl)
theorem ml_RX8_287 : zml RX8 287 mX8_way := Or.inl (zTB_in 1367 (by decide +kernel) rfl)
theorem ml_RX8_293 : zml RX8 293 mX8_says := Or.inl (zTB_in 1379 (by decide +kernel) rfl)
theorem ml_RX8_296 : zml RX8 296 mX8_goesWith := Or.inl (zTB_in 1395 (by decide +kernel) rfl)
theorem ml_RX8_299 : zml RX8 299 mX8_isMotion := Or.inl (zTB_in 1387 (by decide +kernel) rfl)
theorem ml_RX8_302 : zml RX8 302 mX8_resultWithout := Or.inl (zTB_in 1391 (by decide +kernel) rfl)
theorem ml_RX8_305 : zml RX8 305 mX8_isVoter := Or.inl (zTB_in 1407 (by decide +kernel) rfl)
theorem ml_RX8_308 : zml RX8 308 mX8_packed := Or.inl (zTB_in 1415 (by decide +kernel) rfl)
theorem ml_RX8_311 : zml RX8 311 mX8_isBelow := Or.inl (zTB_in 1463 (by decide +kernel) rfl)
theorem ml_RX8_314 : zml RX8 314 mX8_beats := Or.inl (zTB_in 1447 (by decide +kernel) rfl)
theorem ml_RX8_317 : zml RX8 317 mX8_growsFrom := Or.inl (zTB_in 1459 (by decide +kernel) rfl)
theorem ml_RX8_320 : zml RX8 320 mX8_covers := Or.inl (zTB_in 1471 (by decide +kernel) rfl)
theorem ml_RX8_323 : zml RX8 323 mX8_laysOpen := Or.inl (zTB_in 1435 (by decide +kernel) rfl)
theorem ml_RX8_326 : zml RX8 326 mX8_beaten := Or.inl (zTB_in 1443 (by decide +kernel) rfl)
theorem ml_RX8_329 : zml RX8 329 mX8_laysTop := Or.inl (zTB_in 1455 (by decide +kernel) rfl)
theorem ml_RX8_332 : zml RX8 332 mX8_isCovered := Or.inl (zTB_in 1467 (by decide +kernel) rfl)
theorem ml_RX8_335 : zml RX8 335 mX8_goodOrders := Or.inl (zTB_in 1483 (by decide +kernel) rfl)
theorem ml_RX8_338 : zml RX8 338 mX8_placeOf := Or.inl (zTB_in 1491 (by decide +kernel) rfl)
theorem fl_RX0_9 : zfl RX0 9 0 1 := ⟨RX0, TX0, 3, rfl, by decide, uinX0, Or.inl (zTB_in 294 (by decide +kernel) rfl)⟩
theorem fl_RX0_15 : zfl RX0 15 0 2 := ⟨RX0, TX0, 3, rfl, by decide, uinX0, Or.inl (zTB_in 296 (by decide +kernel) rfl)⟩
theorem fl_RX0_18 : zfl RX0 18 0 0 := ⟨RX0, TX0, 3, rfl, by decide, uinX0, Or.inl (zTB_in 293 (by decide +kernel) rfl)⟩
theorem fl_RX0_22 : zfl RX0 22 2 3 := ⟨RX2, TX2, 14, rfl, by decide, uinX2, Or.inr ⟨"AmendmentTree", zNW_in 175 (by decide +kernel) rfl⟩⟩
theorem fp_RX0_22 : zfp RX0 22 2 3 .int := ⟨RX2, TX2, 14, tyX2, rfl, by decide, uinX2, Or.inr ⟨"AmendmentTree", zNW_in 175 (by decide +kernel) rfl⟩, tyX2_ok, nmX2, rfl, by decide +kernel⟩
theorem fl_RX0_39 : zfl RX0 39 2 7 := ⟨RX2, TX2, 14, rfl, by decide, uinX2, Or.inr ⟨"AmendmentTree", zNW_in 194 (by decide +kernel) rfl⟩⟩
theorem fl_RX1_9 : zfl RX1 9 1 3 := ⟨RX1, TX1, 10, rfl, by decide, uinX1, Or.inl (zTB_in 399 (by decide +kernel) rfl)⟩
theorem fl_RX1_15 : zfl RX1 15 1 5 := ⟨RX1, TX1, 10, rfl, by decide, uinX1, Or.inl (zTB_in 403 (by decide +kernel) rfl)⟩
theorem fl_RX1_18 : zfl RX1 18 1 6 := ⟨RX1, TX1, 10, rfl, by decide, uinX1, Or.inl (zTB_in 404 (by decide +kernel) rfl)⟩
theorem fl_RX1_21 : zfl RX1 21 1 8 := ⟨RX1, TX1, 10, rfl, by decide, uinX1, Or.inl (zTB_in 406 (by decide +kernel) rfl)⟩
theorem fl_RX1_24 : zfl RX1 24 1 0 := ⟨RX1, TX1, 10, rfl, by decide, uinX1, Or.inl (zTB_in 396 (by decide +kernel) rfl)⟩
theorem fl_RX1_28 : zfl RX1 28 1 1 := ⟨RX1, TX1, 10, rfl, by decide, uinX1, Or.inl (zTB_in 397 (by decide +kernel) rfl)⟩
theorem fl_RX1_32 : zfl RX1 32 1 2 := ⟨RX1, TX1, 10, rfl, by decide, uinX1, Or.inl (zTB_in 398 (by decide +kernel) rfl)⟩
theorem fl_RX1_42 : zfl RX1 42 2 3 := ⟨RX2, TX2, 14, rfl, by decide, uinX2, Or.inr ⟨"AmendmentTree", zNW_in 177 (by decide +kernel) rfl⟩⟩
theorem fp_RX1_42 : zfp RX1 42 2 3 .int := ⟨RX2, TX2, 14, tyX2, rfl, by decide, uinX2, Or.inr ⟨"AmendmentTree", zNW_in 177 (by decide +kernel) rfl⟩, tyX2_ok, nmX2, rfl, by decide +kernel⟩
theorem fl_RX1_48 : zfl RX1 48 6 3 := ⟨RX6, TX6, 9, rfl, by decide, uinX6, Or.inr ⟨"AmendmentTree", zNW_in 328 (by decide +kernel) rfl⟩⟩
theorem fl_RX1_53 : zfl RX1 53 1 4 := ⟨RX1, TX1, 10, rfl, by decide, uinX1, Or.inl (zTB_in 401 (by decide +kernel) rfl)⟩
theorem fp_RX1_53 : zfp RX1 53 1 4 .int := ⟨RX1, TX1, 10, tyX1, rfl, by decide, uinX1, Or.inl (zTB_in 401 (by decide +kernel) rfl), tyX1_ok, nmX1, rfl, by decide +kernel⟩
theorem fl_RX1_63 : zfl RX1 63 1 7 := ⟨RX1, TX1, 10, rfl, by decide, uinX1, Or.inl (zTB_in 405 (by decide +kernel) rfl)⟩
theorem fp_RX1_63 : zfp RX1 63 1 7 .boolean := ⟨RX1, TX1, 10, tyX1, rfl, by decide, uinX1, Or.inl (zTB_in 405 (by decide +kernel) rfl), tyX1_ok, nmX1, rfl, by decide +kernel⟩
theorem fl_RX1_102 : zfl RX1 102 1 9 := ⟨RX1, TX1, 10, rfl, by decide, uinX1, Or.inl (zTB_in 407 (by decide +kernel) rfl)⟩
theorem fp_RX1_102 : zfp RX1 102 1 9 .int := ⟨RX1, TX1, 10, tyX1, rfl, by decide, uinX1, Or.inl (zTB_in 407 (by decide +kernel) rfl), tyX1_ok, nmX1, rfl, by decide +kernel⟩
theorem fl_RX2_9 : zfl RX2 9 2 2 := ⟨RX2, TX2, 14, rfl, by decide, uinX2, Or.inl (zTB_in 172 (by decide +kernel) rfl)⟩
theorem fp_RX2_9 : zfp RX2 9 2 2 .int := ⟨RX2, TX2, 14, tyX2, rfl, by decide, uinX2, Or.inl (zTB_in 172 (by decide +kernel) rfl), tyX2_ok, nmX2, rfl, by decide +kernel⟩
theorem fl_RX2_15 : zfl RX2 15 2 6 := ⟨RX2, TX2, 14, rfl, by decide, uinX2, Or.inl (zTB_in 190 (by decide +kernel) rfl)⟩
theorem fl_RX2_19 : zfl RX2 19 2 7 := ⟨RX2, TX2, 14, rfl, by decide, uinX2, Or.inl (zTB_in 193 (by decide +kernel) rfl)⟩
theorem fl_RX2_22 : zfl RX2 22 2 8 := ⟨RX2, TX2, 14, rfl, by decide, uinX2, Or.inl (zTB_in 196 (by decide +kernel) rfl)⟩
theorem fl_RX2_25 : zfl RX2 25 2 9 := ⟨RX2, TX2, 14, rfl, by decide, uinX2, Or.inl (zTB_in 198 (by decide +kernel) rfl)⟩
theorem fl_RX2_28 : zfl RX2 28 2 10 := ⟨RX2, TX2, 14, rfl, by decide, uinX2, Or.inl (zTB_in 200 (by decide +kernel) rfl)⟩
theorem fl_RX2_31 : zfl RX2 31 2 11 := ⟨RX2, TX2, 14, rfl, by decide, uinX2, Or.inl (zTB_in 204 (by decide +kernel) rfl)⟩
theorem fl_RX2_34 : zfl RX2 34 2 12 := ⟨RX2, TX2, 14, rfl, by decide, uinX2, Or.inl (zTB_in 206 (by decide +kernel) rfl)⟩
theorem fl_RX2_37 : zfl RX2 37 2 13 := ⟨RX2, TX2, 14, rfl, by decide, uinX2, Or.inl (zTB_in 208 (by decide +kernel) rfl)⟩
theorem fl_RX2_40 : zfl RX2 40 2 0 := ⟨RX2, TX2, 14, rfl, by decide, uinX2, Or.inl (zTB_in 167 (by decide +kernel) rfl)⟩
theorem fp_RX2_40 : zfp RX2 40 2 0 .int := ⟨RX2, TX2, 14, tyX2, rfl, by decide, uinX2, Or.inl (zTB_in 167 (by decide +kernel) rfl), tyX2_ok, nmX2, rfl, by decide +kernel⟩
theorem fl_RX2_43 : zfl RX2 43 2 1 := ⟨RX2, TX2, 14, rfl, by decide, uinX2, Or.inl (zTB_in 170 (by decide +kernel) rfl)⟩
theorem fp_RX2_43 : zfp RX2 43 2 1 .int := ⟨RX2, TX2, 14, tyX2, rfl, by decide, uinX2, Or.inl (zTB_in 170 (by decide +kernel) rfl), tyX2_ok, nmX2, rfl, by decide +kernel⟩
theorem fl_RX2_46 : zfl RX2 46 2 3 := ⟨RX2, TX2, 14, rfl, by decide, uinX2, Or.inl (zTB_in 176 (by decide +kernel) rfl)⟩
theorem fp_RX2_46 : zfp RX2 46 2 3 .int := ⟨RX2, TX2, 14, tyX2, rfl, by decide, uinX2, Or.inl (zTB_in 176 (by decide +kernel) rfl), tyX2_ok, nmX2, rfl, by decide +kernel⟩
theorem fl_RX2_49 : zfl RX2 49 2 4 := ⟨RX2, TX2, 14, rfl, by decide, uinX2, Or.inl (zTB_in 182 (by decide +kernel) rfl)⟩
theorem fp_RX2_49 : zfp RX2 49 2 4 .int := ⟨RX2, TX2, 14, tyX2, rfl, by decide, uinX2, Or.inl (zTB_in 182 (by decide +kernel) rfl), tyX2_ok, nmX2, rfl, by decide +kernel⟩
theorem fl_RX2_52 : zfl RX2 52 2 5 := ⟨RX2, TX2, 14, rfl, by decide, uinX2, Or.inl (zTB_in 186 (by decide +kernel) rfl)⟩
theorem fp_RX2_52 : zfp RX2 52 2 5 .int := ⟨RX2, TX2, 14, tyX2, rfl, by decide, uinX2, Or.inl (zTB_in 186 (by decide +kernel) rfl), tyX2_ok, nmX2, rfl, by decide +kernel⟩
theorem fl_RX3_9 : zfl RX3 9 3 0 := ⟨RX3, TX3, 13, rfl, by decide, uinX3, Or.inl (zTB_in 246 (by decide +kernel) rfl)⟩
theorem fl_RX3_15 : zfl RX3 15 3 1 := ⟨RX3, TX3, 13, rfl, by decide, uinX3, Or.inl (zTB_in 247 (by decide +kernel) rfl)⟩
theorem fl_RX3_28 : zfl RX3 28 3 2 := ⟨RX3, TX3, 13, rfl, by decide, uinX3, Or.inl (zTB_in 248 (by decide +kernel) rfl)⟩
theorem fp_RX3_28 : zfp RX3 28 3 2 .int := ⟨RX3, TX3, 13, tyX3, rfl, by decide, uinX3, Or.inl (zTB_in 248 (by decide +kernel) rfl), tyX3_ok, nmX3, rfl, by decide +kernel⟩
theorem fl_RX3_37 : zfl RX3 37 3 3 := ⟨RX3, TX3, 13, rfl, by decide, uinX3, Or.inl (zTB_in 249 (by decide +kernel) rfl)⟩
theorem fp_RX3_37 : zfp RX3 37 3 3 .boolean := ⟨RX3, TX3, 13, tyX3, rfl, by decide, uinX3, Or.inl (zTB_in 249 (by decide +kernel) rfl), tyX3_ok, nmX3, rfl, by decide +kernel⟩
theorem fl_RX3_41 : zfl RX3 41 3 4 := ⟨RX3, TX3, 13, rfl, by decide, uinX3, Or.inl (zTB_in 250 (by decide +kernel) rfl)⟩
theorem fp_RX3_41 : zfp RX3 41 3 4 .int := ⟨RX3, TX3, 13, tyX3, rfl, by decide, uinX3, Or.inl (zTB_in 250 (by decide +kernel) rfl), tyX3_ok, nmX3, rfl, by decide +kernel⟩
theorem fl_RX3_44 : zfl RX3 44 3 7 := ⟨RX3, TX3, 13, rfl, by decide, uinX3, Or.inl (zTB_in 254 (by decide +kernel) rfl)⟩
theorem fp_RX3_44 : zfp RX3 44 3 7 .int := ⟨RX3, TX3, 13, tyX3, rfl, by decide, uinX3, Or.inl (zTB_in 254 (by decide +kernel) rfl), tyX3_ok, nmX3, rfl, by decide +kernel⟩
theorem fl_RX3_50 : zfl RX3 50 3 5 := ⟨RX3, TX3, 13, rfl, by decide, uinX3, Or.inl (zTB_in 252 (by decide +kernel) rfl)⟩
theorem fp_RX3_50 : zfp RX3 50 3 5 .int := ⟨RX3, TX3, 13, tyX3, rfl, by decide, uinX3, Or.inl (zTB_in 252 (by decide +kernel) rfl), tyX3_ok, nmX3, rfl, by decide +kernel⟩
theorem fl_RX3_101 : zfl RX3 101 3 9 := ⟨RX3, TX3, 13, rfl, by decide, uinX3, Or.inl (zTB_in 256 (by decide +kernel) rfl)⟩
theorem fp_RX3_101 : zfp RX3 101 3 9 .int := ⟨RX3, TX3, 13, tyX3, rfl, by decide, uinX3, Or.inl (zTB_in 256 (by decide +kernel) rfl), tyX3_ok, nmX3, rfl, by decide +kernel⟩
theorem fl_RX3_104 : zfl RX3 104 2 0 := ⟨RX2, TX2, 14, rfl, by decide, uinX2, Or.inr ⟨"AmendmentTree", zNW_in 168 (by decide +kernel) rfl⟩⟩
theorem fp_RX3_104 : zfp RX3 104 2 0 .int := ⟨RX2, TX2, 14, tyX2, rfl, by decide, uinX2, Or.inr ⟨"AmendmentTree", zNW_in 168 (by decide +kernel) rfl⟩, tyX2_ok, nmX2, rfl, by decide +kernel⟩
theorem fl_RX3_106 : zfl RX3 106 2 3 := ⟨RX2, TX2, 14, rfl, by decide, uinX2, Or.inr ⟨"AmendmentTree", zNW_in 179 (by decide +kernel) rfl⟩⟩
theorem fp_RX3_106 : zfp RX3 106 2 3 .int := ⟨RX2, TX2, 14, tyX2, rfl, by decide, uinX2, Or.inr ⟨"AmendmentTree", zNW_in 179 (by decide +kernel) rfl⟩, tyX2_ok, nmX2, rfl, by decide +kernel⟩
theorem fl_RX3_112 : zfl RX3 112 3 11 := ⟨RX3, TX3, 13, rfl, by decide, uinX3, Or.inl (zTB_in 258 (by decide +kernel) rfl)⟩
theorem fp_RX3_112 : zfp RX3 112 3 11 .int := ⟨RX3, TX3, 13, tyX3, rfl, by decide, uinX3, Or.inl (zTB_in 258 (by decide +kernel) rfl), tyX3_ok, nmX3, rfl, by decide +kernel⟩
theorem fl_RX3_115 : zfl RX3 115 3 12 := ⟨RX3, TX3, 13, rfl, by decide, uinX3, Or.inl (zTB_in 259 (by decide +kernel) rfl)⟩
theorem fp_RX3_115 : zfp RX3 115 3 12 .int := ⟨RX3, TX3, 13, tyX3, rfl, by decide, uinX3, Or.inl (zTB_in 259 (by decide +kernel) rfl), tyX3_ok, nmX3, rfl, by decide +kernel⟩
theorem fl_RX3_122 : zfl RX3 122 2 2 := ⟨RX2, TX2, 14, rfl, by decide, uinX2, Or.inr ⟨"AmendmentTree", zNW_in 173 (by decide +kernel) rfl⟩⟩
theorem fp_RX3_122 : zfp RX3 122 2 2 .int := ⟨RX2, TX2, 14, tyX2, rfl, by decide, uinX2, Or.inr ⟨"AmendmentTree", zNW_in 173 (by decide +kernel) rfl⟩, tyX2_ok, nmX2, rfl, by decide +kernel⟩
theorem fl_RX3_124 : zfl RX3 124 3 8 := ⟨RX3, TX3, 13, rfl, by decide, uinX3, Or.inl (zTB_in 255 (by decide +kernel) rfl)⟩
theorem fp_RX3_124 : zfp RX3 124 3 8 .int := ⟨RX3, TX3, 13, tyX3, rfl, by decide, uinX3, Or.inl (zTB_in 255 (by decide +kernel) rfl), tyX3_ok, nmX3, rfl, by decide +kernel⟩
theorem fl_RX3_133 : zfl RX3 133 2 6 := ⟨RX2, TX2, 14, rfl, by decide, uinX2, Or.inr ⟨"AmendmentTree", zNW_in 191 (by decide +kernel) rfl⟩⟩
theorem fl_RX3_136 : zfl RX3 136 2 4 := ⟨RX2, TX2, 14, rfl, by decide, uinX2, Or.inr ⟨"AmendmentTree", zNW_in 185 (by decide +kernel) rfl⟩⟩
theorem fp_RX3_136 : zfp RX3 136 2 4 .int := ⟨RX2, TX2, 14, tyX2, rfl, by decide, uinX2, Or.inr ⟨"AmendmentTree", zNW_in 185 (by decide +kernel) rfl⟩, tyX2_ok, nmX2, rfl, by decide +kernel⟩
theorem fl_RX3_139 : zfl RX3 139 3 6 := ⟨RX3, TX3, 13, rfl, by decide, uinX3, Or.inl (zTB_in 253 (by decide +kernel) rfl)⟩
theorem fp_RX3_139 : zfp RX3 139 3 6 .int := ⟨RX3, TX3, 13, tyX3, rfl, by decide, uinX3, Or.inl (zTB_in 253 (by decide +kernel) rfl), tyX3_ok, nmX3, rfl, by decide +kernel⟩
theorem fl_RX3_152 : zfl RX3 152 2 10 := ⟨RX2, TX2, 14, rfl, by decide, uinX2, Or.inr ⟨"AmendmentTree", zNW_in 203 (by decide +kernel) rfl⟩⟩
theorem fl_RX3_155 : zfl RX3 155 3 10 := ⟨RX3, TX3, 13, rfl, by decide, uinX3, Or.inl (zTB_in 257 (by decide +kernel) rfl)⟩
theorem fp_RX3_155 : zfp RX3 155 3 10 .int := ⟨RX3, TX3, 13, tyX3, rfl, by decide, uinX3, Or.inl (zTB_in 257 (by decide +kernel) rfl), tyX3_ok, nmX3, rfl, by decide +kernel⟩
theorem fl_RX3_158 : zfl RX3 158 2 5 := ⟨RX2, TX2, 14, rfl, by decide, uinX2, Or.inr ⟨"AmendmentTree", zNW_in 189 (by decide +kernel) rfl⟩⟩
theorem fp_RX3_158 : zfp RX3 158 2 5 .int := ⟨RX2, TX2, 14, tyX2, rfl, by decide, uinX2, Or.inr ⟨"AmendmentTree", zNW_in 189 (by decide +kernel) rfl⟩, tyX2_ok, nmX2, rfl, by decide +kernel⟩
theorem fl_RX3_168 : zfl RX3 168 2 1 := ⟨RX2, TX2, 14, rfl, by decide, uinX2, Or.inr ⟨"AmendmentTree", zNW_in 171 (by decide +kernel) rfl⟩⟩
theorem fp_RX3_168 : zfp RX3 168 2 1 .int := ⟨RX2, TX2, 14, tyX2, rfl, by decide, uinX2, Or.inr ⟨"AmendmentTree", zNW_in 171 (by decide +kernel) rfl⟩, tyX2_ok, nmX2, rfl, by decide +kernel⟩
theorem fl_RX4_9 : zfl RX4 9 4 0 := ⟨RX4, TX4, 8, rfl, by decide, uinX4, Or.inl (zTB_in 363 (by decide +kernel) rfl)⟩
theorem fl_RX4_15 : zfl RX4 15 4 1 := ⟨RX4, TX4, 8, rfl, by decide, uinX4, Or.inl (zTB_in 364 (by decide +kernel) rfl)⟩
theorem fl_RX4_19 : zfl RX4 19 4 2 := ⟨RX4, TX4, 8, rfl, by decide, uinX4, Or.inl (zTB_in 365 (by decide +kernel) rfl)⟩
theorem fl_RX4_23 : zfl RX4 23 6 1 := ⟨RX6, TX6, 9, rfl, by decide, uinX6, Or.inr ⟨"AmendmentTree", zNW_in 324 (by decide +kernel) rfl⟩⟩
theorem fl_RX4_29 : zfl RX4 29 4 3 := ⟨RX4, TX4, 8, rfl, by decide, uinX4, Or.inl (zTB_in 366 (by decide +kernel) rfl)⟩
theorem fl_RX4_30 : zfl RX4 30 4 4 := ⟨RX4, TX4, 8, rfl, by decide, uinX4, Or.inl (zTB_in 367 (by decide +kernel) rfl)⟩
theorem fp_RX4_30 : zfp RX4 30 4 4 .int := ⟨RX4, TX4, 8, tyX4, rfl, by decide, uinX4, Or.inl (zTB_in 367 (by decide +kernel) rfl), tyX4_ok, nmX4, rfl, by decide +kernel⟩
theorem fl_RX4_34 : zfl RX4 34 4 5 := ⟨RX4, TX4, 8, rfl, by decide, uinX4, Or.inl (zTB_in 368 (by decide +kernel) rfl)⟩
theorem fp_RX4_34 : zfp RX4 34 4 5 .int := ⟨RX4, TX4, 8, tyX4, rfl, by decide, uinX4, Or.inl (zTB_in 368 (by decide +kernel) rfl), tyX4_ok, nmX4, rfl, by decide +kernel⟩
theorem fl_RX4_37 : zfl RX4 37 4 6 := ⟨RX4, TX4, 8, rfl, by decide, uinX4, Or.inl (zTB_in 370 (by decide +kernel) rfl)⟩
theorem fp_RX4_37 : zfp RX4 37 4 6 .int := ⟨RX4, TX4, 8, tyX4, rfl, by decide, uinX4, Or.inl (zTB_in 370 (by decide +kernel) rfl), tyX4_ok, nmX4, rfl, by decide +kernel⟩
theorem fl_RX4_40 : zfl RX4 40 4 7 := ⟨RX4, TX4, 8, rfl, by decide, uinX4, Or.inl (zTB_in 372 (by decide +kernel) rfl)⟩
theorem fp_RX4_40 : zfp RX4 40 4 7 .int := ⟨RX4, TX4, 8, tyX4, rfl, by decide, uinX4, Or.inl (zTB_in 372 (by decide +kernel) rfl), tyX4_ok, nmX4, rfl, by decide +kernel⟩
theorem fl_RX4_43 : zfl RX4 43 2 3 := ⟨RX2, TX2, 14, rfl, by decide, uinX2, Or.inr ⟨"AmendmentTree", zNW_in 178 (by decide +kernel) rfl⟩⟩
theorem fp_RX4_43 : zfp RX4 43 2 3 .int := ⟨RX2, TX2, 14, tyX2, rfl, by decide, uinX2, Or.inr ⟨"AmendmentTree", zNW_in 178 (by decide +kernel) rfl⟩, tyX2_ok, nmX2, rfl, by decide +kernel⟩
theorem fl_RX4_55 : zfl RX4 55 6 4 := ⟨RX6, TX6, 9, rfl, by decide, uinX6, Or.inr ⟨"AmendmentTree", zNW_in 331 (by decide +kernel) rfl⟩⟩
theorem fl_RX5_9 : zfl RX5 9 5 1 := ⟨RX5, TX5, 2, rfl, by decide, uinX5, Or.inl (zTB_in 311 (by decide +kernel) rfl)⟩
theorem fl_RX5_15 : zfl RX5 15 5 0 := ⟨RX5, TX5, 2, rfl, by decide, uinX5, Or.inl (zTB_in 310 (by decide +kernel) rfl)⟩
theorem fl_RX5_19 : zfl RX5 19 2 4 := ⟨RX2, TX2, 14, rfl, by decide, uinX2, Or.inr ⟨"AmendmentTree", zNW_in 181 (by decide +kernel) rfl⟩⟩
theorem fp_RX5_19 : zfp RX5 19 2 4 .int := ⟨RX2, TX2, 14, tyX2, rfl, by decide, uinX2, Or.inr ⟨"AmendmentTree", zNW_in 181 (by decide +kernel) rfl⟩, tyX2_ok, nmX2, rfl, by decide +kernel⟩
theorem fl_RX5_29 : zfl RX5 29 2 10 := ⟨RX2, TX2, 14, rfl, by decide, uinX2, Or.inr ⟨"AmendmentTree", zNW_in 201 (by decide +kernel) rfl⟩⟩
theorem fl_RX5_32 : zfl RX5 32 2 5 := ⟨RX2, TX2, 14, rfl, by decide, uinX2, Or.inr ⟨"AmendmentTree", zNW_in 187 (by decide +kernel) rfl⟩⟩
theorem fp_RX5_32 : zfp RX5 32 2 5 .int := ⟨RX2, TX2, 14, tyX2, rfl, by decide, uinX2, Or.inr ⟨"AmendmentTree", zNW_in 187 (by decide +kernel) rfl⟩, tyX2_ok, nmX2, rfl, by decide +kernel⟩
theorem fl_RX5_35 : zfl RX5 35 2 11 := ⟨RX2, TX2, 14, rfl, by decide, uinX2, Or.inr ⟨"AmendmentTree", zNW_in 205 (by decide +kernel) rfl⟩⟩
theorem fl_RX5_38 : zfl RX5 38 2 12 := ⟨RX2, TX2, 14, rfl, by decide, uinX2, Or.inr ⟨"AmendmentTree", zNW_in 207 (by decide +kernel) rfl⟩⟩
theorem fl_RX5_41 : zfl RX5 41 2 13 := ⟨RX2, TX2, 14, rfl, by decide, uinX2, Or.inr ⟨"AmendmentTree", zNW_in 209 (by decide +kernel) rfl⟩⟩
theorem fl_RX6_9 : zfl RX6 9 6 3 := ⟨RX6, TX6, 9, rfl, by decide, uinX6, Or.inl (zTB_in 327 (by decide +kernel) rfl)⟩
theorem fl_RX6_15 : zfl RX6 15 6 4 := ⟨RX6, TX6, 9, rfl, by decide, uinX6, Or.inl (zTB_in 330 (by decide +kernel) rfl)⟩
theorem fl_RX6_18 : zfl RX6 18 6 5 := ⟨RX6, TX6, 9, rfl, by decide, uinX6, Or.inl (zTB_in 332 (by decide +kernel) rfl)⟩
theorem fl_RX6_21 : zfl RX6 21 6 6 := ⟨RX6, TX6, 9, rfl, by decide, uinX6, Or.inl (zTB_in 333 (by decide +kernel) rfl)⟩
theorem fl_RX6_24 : zfl RX6 24 6 0 := ⟨RX6, TX6, 9, rfl, by decide, uinX6, Or.inl (zTB_in 323 (by decide +kernel) rfl)⟩
theorem fl_RX6_28 : zfl RX6 28 6 1 := ⟨RX6, TX6, 9, rfl, by decide, uinX6, Or.inl (zTB_in 325 (by decide +kernel) rfl)⟩
theorem fl_RX6_32 : zfl RX6 32 6 2 := ⟨RX6, TX6, 9, rfl, by decide, uinX6, Or.inl (zTB_in 326 (by decide +kernel) rfl)⟩
theorem fl_RX6_36 : zfl RX6 36 2 3 := ⟨RX2, TX2, 14, rfl, by decide, uinX2, Or.inr ⟨"AmendmentTree", zNW_in 174 (by decide +kernel) rfl⟩⟩
theorem fp_RX6_36 : zfp RX6 36 2 3 .int := ⟨RX2, TX2, 14, tyX2, rfl, by decide, uinX2, Or.inr ⟨"AmendmentTree", zNW_in 174 (by decide +kernel) rfl⟩, tyX2_ok, nmX2, rfl, by decide +kernel⟩
theorem fl_RX6_46 : zfl RX6 46 0 1 := ⟨RX0, TX0, 3, rfl, by decide, uinX0, Or.inr ⟨"AmendmentTree", zNW_in 295 (by decide +kernel) rfl⟩⟩
theorem fl_RX6_62 : zfl RX6 62 6 8 := ⟨RX6, TX6, 9, rfl, by decide, uinX6, Or.inl (zTB_in 337 (by decide +kernel) rfl)⟩
theorem fp_RX6_62 : zfp RX6 62 6 8 .int := ⟨RX6, TX6, 9, tyX6, rfl, by decide, uinX6, Or.inl (zTB_in 337 (by decide +kernel) rfl), tyX6_ok, nmX6, rfl, by decide +kernel⟩
theorem fl_RX6_84 : zfl RX6 84 2 4 := ⟨RX2, TX2, 14, rfl, by decide, uinX2, Or.inr ⟨"AmendmentTree", zNW_in 183 (by decide +kernel) rfl⟩⟩
theorem fp_RX6_84 : zfp RX6 84 2 4 .int := ⟨RX2, TX2, 14, tyX2, rfl, by decide, uinX2, Or.inr ⟨"AmendmentTree", zNW_in 183 (by decide +kernel) rfl⟩, tyX2_ok, nmX2, rfl, by decide +kernel⟩
theorem fl_RX6_104 : zfl RX6 104 6 7 := ⟨RX6, TX6, 9, rfl, by decide, uinX6, Or.inl (zTB_in 335 (by decide +kernel) rfl)⟩
theorem fp_RX6_104 : zfp RX6 104 6 7 .int := ⟨RX6, TX6, 9, tyX6, rfl, by decide, uinX6, Or.inl (zTB_in 335 (by decide +kernel) rfl), tyX6_ok, nmX6, rfl, by decide +kernel⟩
theorem fl_RX7_9 : zfl RX7 9 7 0 := ⟨RX7, TX7, 11, rfl, by decide, uinX7, Or.inl (zTB_in 485 (by decide +kernel) rfl)⟩
theorem fl_RX7_16 : zfl RX7 16 7 3 := ⟨RX7, TX7, 11, rfl, by decide, uinX7, Or.inl (zTB_in 488 (by decide +kernel) rfl)⟩
theorem fl_RX7_20 : zfl RX7 20 7 4 := ⟨RX7, TX7, 11, rfl, by decide, uinX7, Or.inl (zTB_in 489 (by decide +kernel) rfl)⟩
theorem fl_RX7_28 : zfl RX7 28 7 5 := ⟨RX7, TX7, 11, rfl, by decide, uinX7, Or.inl (zTB_in 490 (by decide +kernel) rfl)⟩
theorem fl_RX7_37 : zfl RX7 37 7 6 := ⟨RX7, TX7, 11, rfl, by decide, uinX7, Or.inl (zTB_in 491 (by decide +kernel) rfl)⟩
theorem fl_RX7_44 : zfl RX7 44 7 7 := ⟨RX7, TX7, 11, rfl, by decide, uinX7, Or.inl (zTB_in 492 (by decide +kernel) rfl)⟩
theorem fl_RX7_53 : zfl RX7 53 7 8 := ⟨RX7, TX7, 11, rfl, by decide, uinX7, Or.inl (zTB_in 493 (by decide +kernel) rfl)⟩
theorem fl_RX7_62 : zfl RX7 62 7 9 := ⟨RX7, TX7, 11, rfl, by decide, uinX7, Or.inl (zTB_in 494 (by decide +kernel) rfl)⟩
theorem fl_RX7_69 : zfl RX7 69 7 10 := ⟨RX7, TX7, 11, rfl, by decide, uinX7, Or.inl (zTB_in 495 (by decide +kernel) rfl)⟩
theorem fl_RX7_76 : zfl RX7 76 7 1 := ⟨RX7, TX7, 11, rfl, by decide, uinX7, Or.inl (zTB_in 486 (by decide +kernel) rfl)⟩
theorem fp_RX7_76 : zfp RX7 76 7 1 .int := ⟨RX7, TX7, 11, tyX7, rfl, by decide, uinX7, Or.inl (zTB_in 486 (by decide +kernel) rfl), tyX7_ok, nmX7, rfl, by decide +kernel⟩
theorem fl_RX7_88 : zfl RX7 88 3 4 := ⟨RX3, TX3, 13, rfl, by decide, uinX3, Or.inr ⟨"AmendmentTree", zNW_in 251 (by decide +kernel) rfl⟩⟩
theorem fp_RX7_88 : zfp RX7 88 3 4 .int := ⟨RX3, TX3, 13, tyX3, rfl, by decide, uinX3, Or.inr ⟨"AmendmentTree", zNW_in 251 (by decide +kernel) rfl⟩, tyX3_ok, nmX3, rfl, by decide +kernel⟩
theorem fl_RX7_91 : zfl RX7 91 7 2 := ⟨RX7, TX7, 11, rfl, by decide, uinX7, Or.inl (zTB_in 487 (by decide +kernel) rfl)⟩
theorem fp_RX7_91 : zfp RX7 91 7 2 .int := ⟨RX7, TX7, 11, tyX7, rfl, by decide, uinX7, Or.inl (zTB_in 487 (by decide +kernel) rfl), tyX7_ok, nmX7, rfl, by decide +kernel⟩
theorem fl_RX7_104 : zfl RX7 104 2 10 := ⟨RX2, TX2, 14, rfl, by decide, uinX2, Or.inr ⟨"AmendmentTree", zNW_in 202 (by decide +kernel) rfl⟩⟩
theorem fl_RX7_116 : zfl RX7 116 2 3 := ⟨RX2, TX2, 14, rfl, by decide, uinX2, Or.inr ⟨"AmendmentTree", zNW_in 180 (by decide +kernel) rfl⟩⟩
theorem fp_RX7_116 : zfp RX7 116 2 3 .int := ⟨RX2, TX2, 14, tyX2, rfl, by decide, uinX2, Or.inr ⟨"AmendmentTree", zNW_in 180 (by decide +kernel) rfl⟩, tyX2_ok, nmX2, rfl, by decide +kernel⟩
theorem fl_RX7_119 : zfl RX7 119 2 4 := ⟨RX2, TX2, 14, rfl, by decide, uinX2, Or.inr ⟨"AmendmentTree", zNW_in 184 (by decide +kernel) rfl⟩⟩
theorem fp_RX7_119 : zfp RX7 119 2 4 .int := ⟨RX2, TX2, 14, tyX2, rfl, by decide, uinX2, Or.inr ⟨"AmendmentTree", zNW_in 184 (by decide +kernel) rfl⟩, tyX2_ok, nmX2, rfl, by decide +kernel⟩
theorem fl_RX7_122 : zfl RX7 122 2 5 := ⟨RX2, TX2, 14, rfl, by decide, uinX2, Or.inr ⟨"AmendmentTree", zNW_in 188 (by decide +kernel) rfl⟩⟩
theorem fp_RX7_122 : zfp RX7 122 2 5 .int := ⟨RX2, TX2, 14, tyX2, rfl, by decide, uinX2, Or.inr ⟨"AmendmentTree", zNW_in 188 (by decide +kernel) rfl⟩, tyX2_ok, nmX2, rfl, by decide +kernel⟩
theorem fl_RX7_129 : zfl RX7 129 2 0 := ⟨RX2, TX2, 14, rfl, by decide, uinX2, Or.inr ⟨"AmendmentTree", zNW_in 169 (by decide +kernel) rfl⟩⟩
theorem fp_RX7_129 : zfp RX7 129 2 0 .int := ⟨RX2, TX2, 14, tyX2, rfl, by decide, uinX2, Or.inr ⟨"AmendmentTree", zNW_in 169 (by decide +kernel) rfl⟩, tyX2_ok, nmX2, rfl, by decide +kernel⟩
theorem fl_RX7_135 : zfl RX7 135 1 4 := ⟨RX1, TX1, 10, rfl, by decide, uinX1, Or.inr ⟨"AmendmentTree", zNW_in 402 (by decide +kernel) rfl⟩⟩
theorem fp_RX7_135 : zfp RX7 135 1 4 .int := ⟨RX1, TX1, 10, tyX1, rfl, by decide, uinX1, Or.inr ⟨"AmendmentTree", zNW_in 402 (by decide +kernel) rfl⟩, tyX1_ok, nmX1, rfl, by decide +kernel⟩
theorem fl_RX7_148 : zfl RX7 148 2 6 := ⟨RX2, TX2, 14, rfl, by decide, uinX2, Or.inr ⟨"AmendmentTree", zNW_in 192 (by decide +kernel) rfl⟩⟩
theorem fl_RX7_151 : zfl RX7 151 2 7 := ⟨RX2, TX2, 14, rfl, by decide, uinX2, Or.inr ⟨"AmendmentTree", zNW_in 195 (by decide +kernel) rfl⟩⟩
theorem fl_RX7_154 : zfl RX7 154 2 8 := ⟨RX2, TX2, 14, rfl, by decide, uinX2, Or.inr ⟨"AmendmentTree", zNW_in 197 (by decide +kernel) rfl⟩⟩
theorem fl_RX7_157 : zfl RX7 157 2 9 := ⟨RX2, TX2, 14, rfl, by decide, uinX2, Or.inr ⟨"AmendmentTree", zNW_in 199 (by decide +kernel) rfl⟩⟩
theorem fl_RX7_180 : zfl RX7 180 6 3 := ⟨RX6, TX6, 9, rfl, by decide, uinX6, Or.inr ⟨"AmendmentTree", zNW_in 329 (by decide +kernel) rfl⟩⟩
theorem fl_RX7_192 : zfl RX7 192 6 7 := ⟨RX6, TX6, 9, rfl, by decide, uinX6, Or.inr ⟨"AmendmentTree", zNW_in 336 (by decide +kernel) rfl⟩⟩
theorem fp_RX7_192 : zfp RX7 192 6 7 .int := ⟨RX6, TX6, 9, tyX6, rfl, by decide, uinX6, Or.inr ⟨"AmendmentTree", zNW_in 336 (by decide +kernel) rfl⟩, tyX6_ok, nmX6, rfl, by decide +kernel⟩
theorem fl_RX7_195 : zfl RX7 195 6 6 := ⟨RX6, TX6, 9, rfl, by decide, uinX6, Or.inr ⟨"AmendmentTree", zNW_in 334 (by decide +kernel) rfl⟩⟩
theorem fl_RX7_208 : zfl RX7 208 4 5 := ⟨RX4, TX4, 8, rfl, by decide, uinX4, Or.inr ⟨"AmendmentTree", zNW_in 369 (by decide +kernel) rfl⟩⟩
theorem fp_RX7_208 : zfp RX7 208 4 5 .int := ⟨RX4, TX4, 8, tyX4, rfl, by decide, uinX4, Or.inr ⟨"AmendmentTree", zNW_in 369 (by decide +kernel) rfl⟩, tyX4_ok, nmX4, rfl, by decide +kernel⟩
theorem fl_RX7_214 : zfl RX7 214 4 6 := ⟨RX4, TX4, 8, rfl, by decide, uinX4, Or.inr ⟨"AmendmentTree", zNW_in 371 (by decide +kernel) rfl⟩⟩
theorem fp_RX7_214 : zfp RX7 214 4 6 .int := ⟨RX4, TX4, 8, tyX4, rfl, by decide, uinX4, Or.inr ⟨"AmendmentTree", zNW_in 371 (by decide +kernel) rfl⟩, tyX4_ok, nmX4, rfl, by decide +kernel⟩
theorem fl_RX7_220 : zfl RX7 220 1 3 := ⟨RX1, TX1, 10, rfl, by decide, uinX1, Or.inr ⟨"AmendmentTree", zNW_in 400 (by decide +kernel) rfl⟩⟩
theorem fl_RX8_7 : zfl RX8 7 8 1 := ⟨RX8, TX8, 43, rfl, by decide, uinX8, Or.inl (zTB_in 1047 (by decide +kernel) rfl)⟩
theorem fl_RX8_13 : zfl RX8 13 8 2 := ⟨RX8, TX8, 43, rfl, by decide, uinX8, Or.inl (zTB_in 1048 (by decide +kernel) rfl)⟩
theorem fl_RX8_16 : zfl RX8 16 8 3 := ⟨RX8, TX8, 43, rfl, by decide, uinX8, Or.inl (zTB_in 1049 (by decide +kernel) rfl)⟩
theorem fl_RX8_19 : zfl RX8 19 8 4 := ⟨RX8, TX8, 43, rfl, by decide, uinX8, Or.inl (zTB_in 1050 (by decide +kernel) rfl)⟩
theorem fl_RX8_22 : zfl RX8 22 8 5 := ⟨RX8, TX8, 43, rfl, by decide, uinX8, Or.inl (zTB_in 1051 (by decide +kernel) rfl)⟩
theorem fl_RX8_25 : zfl RX8 25 8 6 := ⟨RX8, TX8, 43, rfl, by decide, uinX8, Or.inl (zTB_in 1052 (by decide +kernel) rfl)⟩
theorem fl_RX8_28 : zfl RX8 28 8 7 := ⟨RX8, TX8, 43, rfl, by decide, uinX8, Or.inl (zTB_in 1053 (by decide +kernel) rfl)⟩
theorem fl_RX8_31 : zfl RX8 31 8 8 := ⟨RX8, TX8, 43, rfl, by decide, uinX8, Or.inl (zTB_in 1054 (by decide +kernel) rfl)⟩
theorem fl_RX8_34 : zfl RX8 34 8 9 := ⟨RX8, TX8, 43, rfl, by decide, uinX8, Or.inl (zTB_in 1055 (by decide +kernel) rfl)⟩
theorem fl_RX8_37 : zfl RX8 37 8 10 := ⟨RX8, TX8, 43, rfl, by decide, uinX8, Or.inl (zTB_in 1056 (by decide +kernel) rfl)⟩
theorem fl_RX8_40 : zfl RX8 40 8 11 := ⟨RX8, TX8, 43, rfl, by decide, uinX8, Or.inl (zTB_in 1057 (by decide +kernel) rfl)⟩
theorem fl_RX8_43 : zfl RX8 43 8 12 := ⟨RX8, TX8, 43, rfl, by decide, uinX8, Or.inl (zTB_in 1058 (by decide +kernel) rfl)⟩
theorem fl_RX8_46 : zfl RX8 46 8 13 := ⟨RX8, TX8, 43, rfl, by decide, uinX8, Or.inl (zTB_in 1059 (by decide +kernel) rfl)⟩
theorem fl_RX8_49 : zfl RX8 49 8 14 := ⟨RX8, TX8, 43, rfl, by decide, uinX8, Or.inl (zTB_in 1060 (by decide +kernel) rfl)⟩
theorem fl_RX8_52 : zfl RX8 52 8 15 := ⟨RX8, TX8, 43, rfl, by decide, uinX8, Or.inl (zTB_in 1061 (by decide +kernel) rfl)⟩
theorem fl_RX8_55 : zfl RX8 55 8 16 := ⟨RX8, TX8, 43, rfl, by decide, uinX8, Or.inl (zTB_in 1062 (by decide +kernel) rfl)⟩
theorem fl_RX8_58 : zfl RX8 58 8 17 := ⟨RX8, TX8, 43, rfl, by decide, uinX8, Or.inl (zTB_in 1063 (by decide +kernel) rfl)⟩
theorem fl_RX8_61 : zfl RX8 61 8 18 := ⟨RX8, TX8, 43, rfl, by decide, uinX8, Or.inl (zTB_in 1064 (by decide +kernel) rfl)⟩
theorem fl_RX8_64 : zfl RX8 64 8 19 := ⟨RX8, TX8, 43, rfl, by decide, uinX8, Or.inl (zTB_in 1065 (by decide +kernel) rfl)⟩
theorem fl_RX8_67 : zfl RX8 67 8 20 := ⟨RX8, TX8, 43, rfl, by decide, uinX8, Or.inl (zTB_in 1066 (by decide +kernel) rfl)⟩
theorem fl_RX8_70 : zfl RX8 70 8 33 := ⟨RX8, TX8, 43, rfl, by decide, uinX8, Or.inl (zTB_in 1079 (by decide +kernel) rfl)⟩
theorem fl_RX8_73 : zfl RX8 73 8 34 := ⟨RX8, TX8, 43, rfl, by decide, uinX8, Or.inl (zTB_in 1080 (by decide +kernel) rfl)⟩
theorem fl_RX8_76 : zfl RX8 76 8 35 := ⟨RX8, TX8, 43, rfl, by decide, uinX8, Or.inl (zTB_in 1081 (by decide +kernel) rfl)⟩
theorem fl_RX8_79 : zfl RX8 79 8 36 := ⟨RX8, TX8, 43, rfl, by decide, uinX8, Or.inl (zTB_in 1082 (by decide +kernel) rfl)⟩
theorem fl_RX8_82 : zfl RX8 82 8 38 := ⟨RX8, TX8, 43, rfl, by decide, uinX8, Or.inl (zTB_in 1084 (by decide +kernel) rfl)⟩
theorem fl_RX8_85 : zfl RX8 85 8 40 := ⟨RX8, TX8, 43, rfl, by decide, uinX8, Or.inl (zTB_in 1086 (by decide +kernel) rfl)⟩
theorem fl_RX8_89 : zfl RX8 89 8 41 := ⟨RX8, TX8, 43, rfl, by decide, uinX8, Or.inl (zTB_in 1087 (by decide +kernel) rfl)⟩
theorem fl_RX8_92 : zfl RX8 92 8 42 := ⟨RX8, TX8, 43, rfl, by decide, uinX8, Or.inl (zTB_in 1088 (by decide +kernel) rfl)⟩
theorem fl_RX8_95 : zfl RX8 95 8 0 := ⟨RX8, TX8, 43, rfl, by decide, uinX8, Or.inl (zTB_in 1046 (by decide +kernel) rfl)⟩
theorem fp_RX8_95 : zfp RX8 95 8 0 .int := ⟨RX8, TX8, 43, tyX8, rfl, by decide, uinX8, Or.inl (zTB_in 1046 (by decide +kernel) rfl), tyX8_ok, nmX8, rfl, by decide +kernel⟩
theorem fl_RX8_99 : zfl RX8 99 8 21 := ⟨RX8, TX8, 43, rfl, by decide, uinX8, Or.inl (zTB_in 1067 (by decide +kernel) rfl)⟩
theorem fp_RX8_99 : zfp RX8 99 8 21 .int := ⟨RX8, TX8, 43, tyX8, rfl, by decide, uinX8, Or.inl (zTB_in 1067 (by decide +kernel) rfl), tyX8_ok, nmX8, rfl, by decide +kernel⟩
theorem fl_RX8_110 : zfl RX8 110 8 23 := ⟨RX8, TX8, 43, rfl, by decide, uinX8, Or.inl (zTB_in 1069 (by decide +kernel) rfl)⟩
theorem fp_RX8_110 : zfp RX8 110 8 23 .int := ⟨RX8, TX8, 43, tyX8, rfl, by decide, uinX8, Or.inl (zTB_in 1069 (by decide +kernel) rfl), tyX8_ok, nmX8, rfl, by decide +kernel⟩
theorem fl_RX8_113 : zfl RX8 113 8 24 := ⟨RX8, TX8, 43, rfl, by decide, uinX8, Or.inl (zTB_in 1070 (by decide +kernel) rfl)⟩
theorem fp_RX8_113 : zfp RX8 113 8 24 .int := ⟨RX8, TX8, 43, tyX8, rfl, by decide, uinX8, Or.inl (zTB_in 1070 (by decide +kernel) rfl), tyX8_ok, nmX8, rfl, by decide +kernel⟩
theorem fl_RX8_120 : zfl RX8 120 8 29 := ⟨RX8, TX8, 43, rfl, by decide, uinX8, Or.inl (zTB_in 1075 (by decide +kernel) rfl)⟩
theorem fp_RX8_120 : zfp RX8 120 8 29 .int := ⟨RX8, TX8, 43, tyX8, rfl, by decide, uinX8, Or.inl (zTB_in 1075 (by decide +kernel) rfl), tyX8_ok, nmX8, rfl, by decide +kernel⟩
theorem fl_RX8_123 : zfl RX8 123 8 28 := ⟨RX8, TX8, 43, rfl, by decide, uinX8, Or.inl (zTB_in 1074 (by decide +kernel) rfl)⟩
theorem fp_RX8_123 : zfp RX8 123 8 28 .int := ⟨RX8, TX8, 43, tyX8, rfl, by decide, uinX8, Or.inl (zTB_in 1074 (by decide +kernel) rfl), tyX8_ok, nmX8, rfl, by decide +kernel⟩
theorem fl_RX8_126 : zfl RX8 126 8 26 := ⟨RX8, TX8, 43, rfl, by decide, uinX8, Or.inl (zTB_in 1072 (by decide +kernel) rfl)⟩
theorem fp_RX8_126 : zfp RX8 126 8 26 .int := ⟨RX8, TX8, 43, tyX8, rfl, by decide, uinX8, Or.inl (zTB_in 1072 (by decide +kernel) rfl), tyX8_ok, nmX8, rfl, by decide +kernel⟩
theorem fl_RX8_140 : zfl RX8 140 8 25 := ⟨RX8, TX8, 43, rfl, by decide, uinX8, Or.inl (zTB_in 1071 (by decide +kernel) rfl)⟩
theorem fp_RX8_140 : zfp RX8 140 8 25 .int := ⟨RX8, TX8, 43, tyX8, rfl, by decide, uinX8, Or.inl (zTB_in 1071 (by decide +kernel) rfl), tyX8_ok, nmX8, rfl, by decide +kernel⟩
theorem fl_RX8_154 : zfl RX8 154 8 30 := ⟨RX8, TX8, 43, rfl, by decide, uinX8, Or.inl (zTB_in 1076 (by decide +kernel) rfl)⟩
theorem fp_RX8_154 : zfp RX8 154 8 30 .boolean := ⟨RX8, TX8, 43, tyX8, rfl, by decide, uinX8, Or.inl (zTB_in 1076 (by decide +kernel) rfl), tyX8_ok, nmX8, rfl, by decide +kernel⟩
theorem fl_RX8_166 : zfl RX8 166 8 32 := ⟨RX8, TX8, 43, rfl, by decide, uinX8, Or.inl (zTB_in 1078 (by decide +kernel) rfl)⟩
theorem fp_RX8_166 : zfp RX8 166 8 32 .int := ⟨RX8, TX8, 43, tyX8, rfl, by decide, uinX8, Or.inl (zTB_in 1078 (by decide +kernel) rfl), tyX8_ok, nmX8, rfl, by decide +kernel⟩
theorem fl_RX8_171 : zfl RX8 171 8 31 := ⟨RX8, TX8, 43, rfl, by decide, uinX8, Or.inl (zTB_in 1077 (by decide +kernel) rfl)⟩
theorem fp_RX8_171 : zfp RX8 171 8 31 .int := ⟨RX8, TX8, 43, tyX8, rfl, by decide, uinX8, Or.inl (zTB_in 1077 (by decide +kernel) rfl), tyX8_ok, nmX8, rfl, by decide +kernel⟩
theorem fl_RX8_208 : zfl RX8 208 8 27 := ⟨RX8, TX8, 43, rfl, by decide, uinX8, Or.inl (zTB_in 1073 (by decide +kernel) rfl)⟩
theorem fp_RX8_208 : zfp RX8 208 8 27 .int := ⟨RX8, TX8, 43, tyX8, rfl, by decide, uinX8, Or.inl (zTB_in 1073 (by decide +kernel) rfl), tyX8_ok, nmX8, rfl, by decide +kernel⟩
theorem fl_RX8_217 : zfl RX8 217 8 22 := ⟨RX8, TX8, 43, rfl, by decide, uinX8, Or.inl (zTB_in 1068 (by decide +kernel) rfl)⟩
theorem fp_RX8_217 : zfp RX8 217 8 22 .int := ⟨RX8, TX8, 43, tyX8, rfl, by decide, uinX8, Or.inl (zTB_in 1068 (by decide +kernel) rfl), tyX8_ok, nmX8, rfl, by decide +kernel⟩
theorem fl_RX8_253 : zfl RX8 253 8 37 := ⟨RX8, TX8, 43, rfl, by decide, uinX8, Or.inl (zTB_in 1083 (by decide +kernel) rfl)⟩
theorem fp_RX8_253 : zfp RX8 253 8 37 .int := ⟨RX8, TX8, 43, tyX8, rfl, by decide, uinX8, Or.inl (zTB_in 1083 (by decide +kernel) rfl), tyX8_ok, nmX8, rfl, by decide +kernel⟩
theorem fl_RX8_290 : zfl RX8 290 8 39 := ⟨RX8, TX8, 43, rfl, by decide, uinX8, Or.inl (zTB_in 1085 (by decide +kernel) rfl)⟩
theorem fp_RX8_290 : zfp RX8 290 8 39 .int := ⟨RX8, TX8, 43, tyX8, rfl, by decide, uinX8, Or.inl (zTB_in 1085 (by decide +kernel) rfl), tyX8_ok, nmX8, rfl, by decide +kernel⟩
end
