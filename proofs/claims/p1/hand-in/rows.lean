section
-- ===== PART A: goes FIRST, ahead of the names: the tables' words, and 'selects' of the private methods out of them =====
/-- a private method of a class that the tables say can be made, by its rows of tables_1 -/
def lw_okq (q : MethodName × Nat) : Prop := (q.1.cls ≠ "java/lang/invoke/MethodHandle" ∧ q.1.cls ≠ "java/lang/invoke/VarHandle") ∧ Cond.instantiable q.1.cls q.2 ∈ tables_1 ∧ Cond.privateMethod q.1 ∈ tables_1 ∧ Cond.instanceMethod q.1 ∈ tables_1
theorem lw_p0 : lw_okq (⟨"PenPage", "feedFour", "(I)V"⟩, 15) := ⟨⟨by decide +kernel, by decide +kernel⟩, List.mem_of_getElem? (i := 19) (by decide +kernel), List.mem_of_getElem? (i := 275) (by decide +kernel), List.mem_of_getElem? (i := 276) (by decide +kernel)⟩
theorem lw_p1 : lw_okq (⟨"PenPage", "refuse", "(I)I"⟩, 15) := ⟨⟨by decide +kernel, by decide +kernel⟩, List.mem_of_getElem? (i := 19) (by decide +kernel), List.mem_of_getElem? (i := 294) (by decide +kernel), List.mem_of_getElem? (i := 295) (by decide +kernel)⟩
theorem lw_p2 : lw_okq (⟨"java/lang/Throwable", "fillInStackTrace", "(I)Ljava/lang/Throwable;"⟩, 6) := ⟨⟨by decide +kernel, by decide +kernel⟩, List.mem_of_getElem? (i := 375) (by decide +kernel), List.mem_of_getElem? (i := 373) (by decide +kernel), List.mem_of_getElem? (i := 374) (by decide +kernel)⟩
theorem lw_p3 : lw_okq (⟨"PenPage", "pageAt", "(I)LPenPage$Page;"⟩, 15) := ⟨⟨by decide +kernel, by decide +kernel⟩, List.mem_of_getElem? (i := 19) (by decide +kernel), List.mem_of_getElem? (i := 443) (by decide +kernel), List.mem_of_getElem? (i := 444) (by decide +kernel)⟩
theorem lw_p4 : lw_okq (⟨"PenPage", "viewOf", "(I)LPenPage$View;"⟩, 15) := ⟨⟨by decide +kernel, by decide +kernel⟩, List.mem_of_getElem? (i := 19) (by decide +kernel), List.mem_of_getElem? (i := 452) (by decide +kernel), List.mem_of_getElem? (i := 453) (by decide +kernel)⟩
theorem lw_p5 : lw_okq (⟨"PenPage$View", "undoSteps", "(LPenPage$Page;)V"⟩, 9) := ⟨⟨by decide +kernel, by decide +kernel⟩, List.mem_of_getElem? (i := 29) (by decide +kernel), List.mem_of_getElem? (i := 468) (by decide +kernel), List.mem_of_getElem? (i := 469) (by decide +kernel)⟩
theorem lw_p6 : lw_okq (⟨"PenPage$View", "undoStep", "(LPenPage$Page;II)V"⟩, 9) := ⟨⟨by decide +kernel, by decide +kernel⟩, List.mem_of_getElem? (i := 29) (by decide +kernel), List.mem_of_getElem? (i := 487) (by decide +kernel), List.mem_of_getElem? (i := 488) (by decide +kernel)⟩
theorem lw_p7 : lw_okq (⟨"PenPage$View", "applySteps", "(LPenPage$Page;)V"⟩, 9) := ⟨⟨by decide +kernel, by decide +kernel⟩, List.mem_of_getElem? (i := 29) (by decide +kernel), List.mem_of_getElem? (i := 491) (by decide +kernel), List.mem_of_getElem? (i := 492) (by decide +kernel)⟩
theorem lw_p8 : lw_okq (⟨"PenPage$View", "strikeMark", "(LPenPage$Step;)V"⟩, 9) := ⟨⟨by decide +kernel, by decide +kernel⟩, List.mem_of_getElem? (i := 29) (by decide +kernel), List.mem_of_getElem? (i := 495) (by decide +kernel), List.mem_of_getElem? (i := 496) (by decide +kernel)⟩
theorem lw_p9 : lw_okq (⟨"PenPage$View", "canBeMoved", "(LPenPage$Step;)Z"⟩, 9) := ⟨⟨by decide +kernel, by decide +kernel⟩, List.mem_of_getElem? (i := 29) (by decide +kernel), List.mem_of_getElem? (i := 508) (by decide +kernel), List.mem_of_getElem? (i := 509) (by decide +kernel)⟩
theorem lw_p10 : lw_okq (⟨"PenPage$View", "moveMarks", "(LPenPage$Step;)V"⟩, 9) := ⟨⟨by decide +kernel, by decide +kernel⟩, List.mem_of_getElem? (i := 29) (by decide +kernel), List.mem_of_getElem? (i := 517) (by decide +kernel), List.mem_of_getElem? (i := 518) (by decide +kernel)⟩
theorem lw_p11 : lw_okq (⟨"PenPage$View", "makeRow", "()V"⟩, 9) := ⟨⟨by decide +kernel, by decide +kernel⟩, List.mem_of_getElem? (i := 29) (by decide +kernel), List.mem_of_getElem? (i := 532) (by decide +kernel), List.mem_of_getElem? (i := 533) (by decide +kernel)⟩
theorem lw_p12 : lw_okq (⟨"PenPage$View", "insertMark", "(I)V"⟩, 9) := ⟨⟨by decide +kernel, by decide +kernel⟩, List.mem_of_getElem? (i := 29) (by decide +kernel), List.mem_of_getElem? (i := 536) (by decide +kernel), List.mem_of_getElem? (i := 537) (by decide +kernel)⟩
theorem lw_p13 : lw_okq (⟨"PenPage$View", "makeText", "()V"⟩, 9) := ⟨⟨by decide +kernel, by decide +kernel⟩, List.mem_of_getElem? (i := 29) (by decide +kernel), List.mem_of_getElem? (i := 545) (by decide +kernel), List.mem_of_getElem? (i := 546) (by decide +kernel)⟩
theorem lw_p14 : lw_okq (⟨"PenPage$View", "findStrike", "(LPenPage$Page;II)I"⟩, 9) := ⟨⟨by decide +kernel, by decide +kernel⟩, List.mem_of_getElem? (i := 29) (by decide +kernel), List.mem_of_getElem? (i := 557) (by decide +kernel), List.mem_of_getElem? (i := 558) (by decide +kernel)⟩
theorem lw_p15 : lw_okq (⟨"PenPage$View", "sawStrikes", "(LPenPage$Page;II)Z"⟩, 9) := ⟨⟨by decide +kernel, by decide +kernel⟩, List.mem_of_getElem? (i := 29) (by decide +kernel), List.mem_of_getElem? (i := 561) (by decide +kernel), List.mem_of_getElem? (i := 562) (by decide +kernel)⟩
def lw_privs_1 : List (MethodName × Nat) := [(⟨"PenPage", "feedFour", "(I)V"⟩, 15), (⟨"PenPage", "refuse", "(I)I"⟩, 15), (⟨"java/lang/Throwable", "fillInStackTrace", "(I)Ljava/lang/Throwable;"⟩, 6), (⟨"PenPage", "pageAt", "(I)LPenPage$Page;"⟩, 15), (⟨"PenPage", "viewOf", "(I)LPenPage$View;"⟩, 15), (⟨"PenPage$View", "undoSteps", "(LPenPage$Page;)V"⟩, 9), (⟨"PenPage$View", "undoStep", "(LPenPage$Page;II)V"⟩, 9), (⟨"PenPage$View", "applySteps", "(LPenPage$Page;)V"⟩, 9), (⟨"PenPage$View", "strikeMark", "(LPenPage$Step;)V"⟩, 9), (⟨"PenPage$View", "canBeMoved", "(LPenPage$Step;)Z"⟩, 9), (⟨"PenPage$View", "moveMarks", "(LPenPage$Step;)V"⟩, 9), (⟨"PenPage$View", "makeRow", "()V"⟩, 9), (⟨"PenPage$View", "insertMark", "(I)V"⟩, 9), (⟨"PenPage$View", "makeText", "()V"⟩, 9), (⟨"PenPage$View", "findStrike", "(LPenPage$Page;II)I"⟩, 9), (⟨"PenPage$View", "sawStrikes", "(LPenPage$Page;II)Z"⟩, 9)]
theorem lw_r1 : ∀ q ∈ lw_privs_1, lw_okq q := List.forall_mem_cons.mpr ⟨lw_p0, List.forall_mem_cons.mpr ⟨lw_p1, List.forall_mem_cons.mpr ⟨lw_p2, List.forall_mem_cons.mpr ⟨lw_p3, List.forall_mem_cons.mpr ⟨lw_p4, List.forall_mem_cons.mpr ⟨lw_p5, List.forall_mem_cons.mpr ⟨lw_p6, List.forall_mem_cons.mpr ⟨lw_p7, List.forall_mem_cons.mpr ⟨lw_p8, List.forall_mem_cons.mpr ⟨lw_p9, List.forall_mem_cons.mpr ⟨lw_p10, List.forall_mem_cons.mpr ⟨lw_p11, List.forall_mem_cons.mpr ⟨lw_p12, List.forall_mem_cons.mpr ⟨lw_p13, List.forall_mem_cons.mpr ⟨lw_p14, List.forall_mem_cons.mpr ⟨lw_p15, fun _ h => absurd h List.not_mem_nil⟩⟩⟩⟩⟩⟩⟩⟩⟩⟩⟩⟩⟩⟩⟩⟩
theorem lw_p16 : lw_okq (⟨"PenPage", "keyNumber", "(LPenPage$View;II)I"⟩, 15) := ⟨⟨by decide +kernel, by decide +kernel⟩, List.mem_of_getElem? (i := 19) (by decide +kernel), List.mem_of_getElem? (i := 593) (by decide +kernel), List.mem_of_getElem? (i := 594) (by decide +kernel)⟩
theorem lw_p17 : lw_okq (⟨"PenPage", "stepAt", "(III)LPenPage$Step;"⟩, 15) := ⟨⟨by decide +kernel, by decide +kernel⟩, List.mem_of_getElem? (i := 19) (by decide +kernel), List.mem_of_getElem? (i := 609) (by decide +kernel), List.mem_of_getElem? (i := 610) (by decide +kernel)⟩
theorem lw_p18 : lw_okq (⟨"PenPage", "perform", "(LPenPage$Page;)I"⟩, 15) := ⟨⟨by decide +kernel, by decide +kernel⟩, List.mem_of_getElem? (i := 19) (by decide +kernel), List.mem_of_getElem? (i := 671) (by decide +kernel), List.mem_of_getElem? (i := 672) (by decide +kernel)⟩
theorem lw_p19 : lw_okq (⟨"PenPage$Page", "dropOvertaken", "()V"⟩, 6) := ⟨⟨by decide +kernel, by decide +kernel⟩, List.mem_of_getElem? (i := 191) (by decide +kernel), List.mem_of_getElem? (i := 719) (by decide +kernel), List.mem_of_getElem? (i := 720) (by decide +kernel)⟩
theorem lw_p20 : lw_okq (⟨"PenPage$Page", "leastReady", "()I"⟩, 6) := ⟨⟨by decide +kernel, by decide +kernel⟩, List.mem_of_getElem? (i := 191) (by decide +kernel), List.mem_of_getElem? (i := 727) (by decide +kernel), List.mem_of_getElem? (i := 728) (by decide +kernel)⟩
theorem lw_p21 : lw_okq (⟨"PenPage$Page", "isReady", "(LPenPage$Step;)Z"⟩, 6) := ⟨⟨by decide +kernel, by decide +kernel⟩, List.mem_of_getElem? (i := 191) (by decide +kernel), List.mem_of_getElem? (i := 731) (by decide +kernel), List.mem_of_getElem? (i := 732) (by decide +kernel)⟩
theorem lw_p22 : lw_okq (⟨"PenPage", "canUndo", "(LPenPage$View;LPenPage$Page;LPenPage$Step;)Z"⟩, 15) := ⟨⟨by decide +kernel, by decide +kernel⟩, List.mem_of_getElem? (i := 19) (by decide +kernel), List.mem_of_getElem? (i := 756) (by decide +kernel), List.mem_of_getElem? (i := 757) (by decide +kernel)⟩
theorem lw_p23 : lw_okq (⟨"PenPage$Checker", "take", "(II)I"⟩, 8) := ⟨⟨by decide +kernel, by decide +kernel⟩, List.mem_of_getElem? (i := 107) (by decide +kernel), List.mem_of_getElem? (i := 797) (by decide +kernel), List.mem_of_getElem? (i := 798) (by decide +kernel)⟩
theorem lw_p24 : lw_okq (⟨"PenPage$Checker", "read", "()I"⟩, 8) := ⟨⟨by decide +kernel, by decide +kernel⟩, List.mem_of_getElem? (i := 107) (by decide +kernel), List.mem_of_getElem? (i := 801) (by decide +kernel), List.mem_of_getElem? (i := 802) (by decide +kernel)⟩
theorem lw_p25 : lw_okq (⟨"PenPage$Checker", "fail", "(II)V"⟩, 8) := ⟨⟨by decide +kernel, by decide +kernel⟩, List.mem_of_getElem? (i := 107) (by decide +kernel), List.mem_of_getElem? (i := 805) (by decide +kernel), List.mem_of_getElem? (i := 806) (by decide +kernel)⟩
theorem lw_p26 : lw_okq (⟨"PenPage$Checker", "takeSeen", "(III)I"⟩, 8) := ⟨⟨by decide +kernel, by decide +kernel⟩, List.mem_of_getElem? (i := 107) (by decide +kernel), List.mem_of_getElem? (i := 809) (by decide +kernel), List.mem_of_getElem? (i := 810) (by decide +kernel)⟩
theorem lw_p27 : lw_okq (⟨"PenPage$Checker", "takePair", "(II)V"⟩, 8) := ⟨⟨by decide +kernel, by decide +kernel⟩, List.mem_of_getElem? (i := 107) (by decide +kernel), List.mem_of_getElem? (i := 814) (by decide +kernel), List.mem_of_getElem? (i := 815) (by decide +kernel)⟩
theorem lw_p28 : lw_okq (⟨"PenPage$Checker", "takeBody", "(II)V"⟩, 8) := ⟨⟨by decide +kernel, by decide +kernel⟩, List.mem_of_getElem? (i := 107) (by decide +kernel), List.mem_of_getElem? (i := 818) (by decide +kernel), List.mem_of_getElem? (i := 819) (by decide +kernel)⟩
theorem lw_p29 : lw_okq (⟨"PenPage$Checker", "takeKey", "()V"⟩, 8) := ⟨⟨by decide +kernel, by decide +kernel⟩, List.mem_of_getElem? (i := 107) (by decide +kernel), List.mem_of_getElem? (i := 822) (by decide +kernel), List.mem_of_getElem? (i := 823) (by decide +kernel)⟩
theorem lw_p30 : lw_okq (⟨"PenPage$Checker", "takeMark", "()I"⟩, 8) := ⟨⟨by decide +kernel, by decide +kernel⟩, List.mem_of_getElem? (i := 107) (by decide +kernel), List.mem_of_getElem? (i := 826) (by decide +kernel), List.mem_of_getElem? (i := 827) (by decide +kernel)⟩
theorem lw_p31 : lw_okq (⟨"PenPage$Checker", "takeMoved", "()V"⟩, 8) := ⟨⟨by decide +kernel, by decide +kernel⟩, List.mem_of_getElem? (i := 107) (by decide +kernel), List.mem_of_getElem? (i := 831) (by decide +kernel), List.mem_of_getElem? (i := 832) (by decide +kernel)⟩
def lw_privs_2 : List (MethodName × Nat) := [(⟨"PenPage", "keyNumber", "(LPenPage$View;II)I"⟩, 15), (⟨"PenPage", "stepAt", "(III)LPenPage$Step;"⟩, 15), (⟨"PenPage", "perform", "(LPenPage$Page;)I"⟩, 15), (⟨"PenPage$Page", "dropOvertaken", "()V"⟩, 6), (⟨"PenPage$Page", "leastReady", "()I"⟩, 6), (⟨"PenPage$Page", "isReady", "(LPenPage$Step;)Z"⟩, 6), (⟨"PenPage", "canUndo", "(LPenPage$View;LPenPage$Page;LPenPage$Step;)Z"⟩, 15), (⟨"PenPage$Checker", "take", "(II)I"⟩, 8), (⟨"PenPage$Checker", "read", "()I"⟩, 8), (⟨"PenPage$Checker", "fail", "(II)V"⟩, 8), (⟨"PenPage$Checker", "takeSeen", "(III)I"⟩, 8), (⟨"PenPage$Checker", "takePair", "(II)V"⟩, 8), (⟨"PenPage$Checker", "takeBody", "(II)V"⟩, 8), (⟨"PenPage$Checker", "takeKey", "()V"⟩, 8), (⟨"PenPage$Checker", "takeMark", "()I"⟩, 8), (⟨"PenPage$Checker", "takeMoved", "()V"⟩, 8)]
theorem lw_r2 : ∀ q ∈ lw_privs_2, lw_okq q := List.forall_mem_cons.mpr ⟨lw_p16, List.forall_mem_cons.mpr ⟨lw_p17, List.forall_mem_cons.mpr ⟨lw_p18, List.forall_mem_cons.mpr ⟨lw_p19, List.forall_mem_cons.mpr ⟨lw_p20, List.forall_mem_cons.mpr ⟨lw_p21, List.forall_mem_cons.mpr ⟨lw_p22, List.forall_mem_cons.mpr ⟨lw_p23, List.forall_mem_cons.mpr ⟨lw_p24, List.forall_mem_cons.mpr ⟨lw_p25, List.forall_mem_cons.mpr ⟨lw_p26, List.forall_mem_cons.mpr ⟨lw_p27, List.forall_mem_cons.mpr ⟨lw_p28, List.forall_mem_cons.mpr ⟨lw_p29, List.forall_mem_cons.mpr ⟨lw_p30, List.forall_mem_cons.mpr ⟨lw_p31, fun _ h => absurd h List.not_mem_nil⟩⟩⟩⟩⟩⟩⟩⟩⟩⟩⟩⟩⟩⟩⟩⟩
theorem lw_p32 : lw_okq (⟨"PenPage$Checker", "takeSum", "()V"⟩, 8) := ⟨⟨by decide +kernel, by decide +kernel⟩, List.mem_of_getElem? (i := 107) (by decide +kernel), List.mem_of_getElem? (i := 835) (by decide +kernel), List.mem_of_getElem? (i := 836) (by decide +kernel)⟩
theorem lw_p33 : lw_okq (⟨"PenPage", "refuseHeard", "(II)I"⟩, 15) := ⟨⟨by decide +kernel, by decide +kernel⟩, List.mem_of_getElem? (i := 19) (by decide +kernel), List.mem_of_getElem? (i := 839) (by decide +kernel), List.mem_of_getElem? (i := 840) (by decide +kernel)⟩
theorem lw_p34 : lw_okq (⟨"PenPage$Page", "heldOf", "(II)LPenPage$Step;"⟩, 6) := ⟨⟨by decide +kernel, by decide +kernel⟩, List.mem_of_getElem? (i := 191) (by decide +kernel), List.mem_of_getElem? (i := 850) (by decide +kernel), List.mem_of_getElem? (i := 851) (by decide +kernel)⟩
theorem lw_p35 : lw_okq (⟨"PenPage$Story", "walk", "(I)V"⟩, 13) := ⟨⟨by decide +kernel, by decide +kernel⟩, List.mem_of_getElem? (i := 139) (by decide +kernel), List.mem_of_getElem? (i := 931) (by decide +kernel), List.mem_of_getElem? (i := 932) (by decide +kernel)⟩
theorem lw_p36 : lw_okq (⟨"PenPage$Story", "finishOrder", "(I)V"⟩, 13) := ⟨⟨by decide +kernel, by decide +kernel⟩, List.mem_of_getElem? (i := 139) (by decide +kernel), List.mem_of_getElem? (i := 936) (by decide +kernel), List.mem_of_getElem? (i := 937) (by decide +kernel)⟩
theorem lw_p37 : lw_okq (⟨"PenPage$Story", "nextAct", "(II)I"⟩, 13) := ⟨⟨by decide +kernel, by decide +kernel⟩, List.mem_of_getElem? (i := 139) (by decide +kernel), List.mem_of_getElem? (i := 941) (by decide +kernel), List.mem_of_getElem? (i := 942) (by decide +kernel)⟩
theorem lw_p38 : lw_okq (⟨"PenPage$Story", "perform", "(II)Z"⟩, 13) := ⟨⟨by decide +kernel, by decide +kernel⟩, List.mem_of_getElem? (i := 139) (by decide +kernel), List.mem_of_getElem? (i := 945) (by decide +kernel), List.mem_of_getElem? (i := 946) (by decide +kernel)⟩
theorem lw_p39 : lw_okq (⟨"PenPageModel", "fail", "(I)I"⟩, 38) := ⟨⟨by decide +kernel, by decide +kernel⟩, List.mem_of_getElem? (i := 950) (by decide +kernel), List.mem_of_getElem? (i := 1087) (by decide +kernel), List.mem_of_getElem? (i := 1088) (by decide +kernel)⟩
theorem lw_p40 : lw_okq (⟨"PenPageModel", "isWriter", "(I)Z"⟩, 38) := ⟨⟨by decide +kernel, by decide +kernel⟩, List.mem_of_getElem? (i := 950) (by decide +kernel), List.mem_of_getElem? (i := 1095) (by decide +kernel), List.mem_of_getElem? (i := 1096) (by decide +kernel)⟩
theorem lw_p41 : lw_okq (⟨"PenPageModel", "tellPage", "(I)V"⟩, 38) := ⟨⟨by decide +kernel, by decide +kernel⟩, List.mem_of_getElem? (i := 950) (by decide +kernel), List.mem_of_getElem? (i := 1099) (by decide +kernel), List.mem_of_getElem? (i := 1100) (by decide +kernel)⟩
theorem lw_p42 : lw_okq (⟨"PenPageModel", "tellHolds", "(I)V"⟩, 38) := ⟨⟨by decide +kernel, by decide +kernel⟩, List.mem_of_getElem? (i := 950) (by decide +kernel), List.mem_of_getElem? (i := 1103) (by decide +kernel), List.mem_of_getElem? (i := 1104) (by decide +kernel)⟩
theorem lw_p43 : lw_okq (⟨"PenPageModel", "of", "(II)I"⟩, 38) := ⟨⟨by decide +kernel, by decide +kernel⟩, List.mem_of_getElem? (i := 950) (by decide +kernel), List.mem_of_getElem? (i := 1113) (by decide +kernel), List.mem_of_getElem? (i := 1114) (by decide +kernel)⟩
theorem lw_p44 : lw_okq (⟨"PenPageModel", "setNamed", "(II)I"⟩, 38) := ⟨⟨by decide +kernel, by decide +kernel⟩, List.mem_of_getElem? (i := 950) (by decide +kernel), List.mem_of_getElem? (i := 1117) (by decide +kernel), List.mem_of_getElem? (i := 1118) (by decide +kernel)⟩
theorem lw_p45 : lw_okq (⟨"PenPageModel", "named", "(II)I"⟩, 38) := ⟨⟨by decide +kernel, by decide +kernel⟩, List.mem_of_getElem? (i := 950) (by decide +kernel), List.mem_of_getElem? (i := 1121) (by decide +kernel), List.mem_of_getElem? (i := 1122) (by decide +kernel)⟩
theorem lw_p46 : lw_okq (⟨"PenPageModel", "hasStep", "(III)Z"⟩, 38) := ⟨⟨by decide +kernel, by decide +kernel⟩, List.mem_of_getElem? (i := 950) (by decide +kernel), List.mem_of_getElem? (i := 1125) (by decide +kernel), List.mem_of_getElem? (i := 1126) (by decide +kernel)⟩
theorem lw_p47 : lw_okq (⟨"PenPageModel", "rowOfMark", "(II)I"⟩, 38) := ⟨⟨by decide +kernel, by decide +kernel⟩, List.mem_of_getElem? (i := 950) (by decide +kernel), List.mem_of_getElem? (i := 1129) (by decide +kernel), List.mem_of_getElem? (i := 1130) (by decide +kernel)⟩
def lw_privs_3 : List (MethodName × Nat) := [(⟨"PenPage$Checker", "takeSum", "()V"⟩, 8), (⟨"PenPage", "refuseHeard", "(II)I"⟩, 15), (⟨"PenPage$Page", "heldOf", "(II)LPenPage$Step;"⟩, 6), (⟨"PenPage$Story", "walk", "(I)V"⟩, 13), (⟨"PenPage$Story", "finishOrder", "(I)V"⟩, 13), (⟨"PenPage$Story", "nextAct", "(II)I"⟩, 13), (⟨"PenPage$Story", "perform", "(II)Z"⟩, 13), (⟨"PenPageModel", "fail", "(I)I"⟩, 38), (⟨"PenPageModel", "isWriter", "(I)Z"⟩, 38), (⟨"PenPageModel", "tellPage", "(I)V"⟩, 38), (⟨"PenPageModel", "tellHolds", "(I)V"⟩, 38), (⟨"PenPageModel", "of", "(II)I"⟩, 38), (⟨"PenPageModel", "setNamed", "(II)I"⟩, 38), (⟨"PenPageModel", "named", "(II)I"⟩, 38), (⟨"PenPageModel", "hasStep", "(III)Z"⟩, 38), (⟨"PenPageModel", "rowOfMark", "(II)I"⟩, 38)]
theorem lw_r3 : ∀ q ∈ lw_privs_3, lw_okq q := List.forall_mem_cons.mpr ⟨lw_p32, List.forall_mem_cons.mpr ⟨lw_p33, List.forall_mem_cons.mpr ⟨lw_p34, List.forall_mem_cons.mpr ⟨lw_p35, List.forall_mem_cons.mpr ⟨lw_p36, List.forall_mem_cons.mpr ⟨lw_p37, List.forall_mem_cons.mpr ⟨lw_p38, List.forall_mem_cons.mpr ⟨lw_p39, List.forall_mem_cons.mpr ⟨lw_p40, List.forall_mem_cons.mpr ⟨lw_p41, List.forall_mem_cons.mpr ⟨lw_p42, List.forall_mem_cons.mpr ⟨lw_p43, List.forall_mem_cons.mpr ⟨lw_p44, List.forall_mem_cons.mpr ⟨lw_p45, List.forall_mem_cons.mpr ⟨lw_p46, List.forall_mem_cons.mpr ⟨lw_p47, fun _ h => absurd h List.not_mem_nil⟩⟩⟩⟩⟩⟩⟩⟩⟩⟩⟩⟩⟩⟩⟩⟩
theorem lw_p48 : lw_okq (⟨"PenPageModel", "tellMove", "(II)V"⟩, 38) := ⟨⟨by decide +kernel, by decide +kernel⟩, List.mem_of_getElem? (i := 950) (by decide +kernel), List.mem_of_getElem? (i := 1133) (by decide +kernel), List.mem_of_getElem? (i := 1134) (by decide +kernel)⟩
theorem lw_p49 : lw_okq (⟨"PenPageModel", "layMark", "(I)V"⟩, 38) := ⟨⟨by decide +kernel, by decide +kernel⟩, List.mem_of_getElem? (i := 950) (by decide +kernel), List.mem_of_getElem? (i := 1137) (by decide +kernel), List.mem_of_getElem? (i := 1138) (by decide +kernel)⟩
theorem lw_p50 : lw_okq (⟨"PenPageModel", "compare", "(II)I"⟩, 38) := ⟨⟨by decide +kernel, by decide +kernel⟩, List.mem_of_getElem? (i := 950) (by decide +kernel), List.mem_of_getElem? (i := 1141) (by decide +kernel), List.mem_of_getElem? (i := 1142) (by decide +kernel)⟩
theorem lw_p51 : lw_okq (⟨"PenPageModel", "goneOf", "(I)I"⟩, 38) := ⟨⟨by decide +kernel, by decide +kernel⟩, List.mem_of_getElem? (i := 950) (by decide +kernel), List.mem_of_getElem? (i := 1145) (by decide +kernel), List.mem_of_getElem? (i := 1146) (by decide +kernel)⟩
theorem lw_p52 : lw_okq (⟨"PenPageModel", "isGone", "(II)Z"⟩, 38) := ⟨⟨by decide +kernel, by decide +kernel⟩, List.mem_of_getElem? (i := 950) (by decide +kernel), List.mem_of_getElem? (i := 1149) (by decide +kernel), List.mem_of_getElem? (i := 1150) (by decide +kernel)⟩
theorem lw_p53 : lw_okq (⟨"PenPageModel", "strikes", "(IIII)Z"⟩, 38) := ⟨⟨by decide +kernel, by decide +kernel⟩, List.mem_of_getElem? (i := 950) (by decide +kernel), List.mem_of_getElem? (i := 1153) (by decide +kernel), List.mem_of_getElem? (i := 1154) (by decide +kernel)⟩
theorem lw_p54 : lw_okq (⟨"PenPageModel", "ageOf", "(I)I"⟩, 38) := ⟨⟨by decide +kernel, by decide +kernel⟩, List.mem_of_getElem? (i := 950) (by decide +kernel), List.mem_of_getElem? (i := 1160) (by decide +kernel), List.mem_of_getElem? (i := 1161) (by decide +kernel)⟩
theorem lw_p55 : lw_okq (⟨"PenPageModel", "beginStep", "(II)Z"⟩, 38) := ⟨⟨by decide +kernel, by decide +kernel⟩, List.mem_of_getElem? (i := 950) (by decide +kernel), List.mem_of_getElem? (i := 1177) (by decide +kernel), List.mem_of_getElem? (i := 1178) (by decide +kernel)⟩
theorem lw_p56 : lw_okq (⟨"PenPageModel", "put", "(III)V"⟩, 38) := ⟨⟨by decide +kernel, by decide +kernel⟩, List.mem_of_getElem? (i := 950) (by decide +kernel), List.mem_of_getElem? (i := 1181) (by decide +kernel), List.mem_of_getElem? (i := 1182) (by decide +kernel)⟩
theorem lw_p57 : lw_okq (⟨"PenPageModel", "refuse", "()I"⟩, 38) := ⟨⟨by decide +kernel, by decide +kernel⟩, List.mem_of_getElem? (i := 950) (by decide +kernel), List.mem_of_getElem? (i := 1186) (by decide +kernel), List.mem_of_getElem? (i := 1187) (by decide +kernel)⟩
theorem lw_p58 : lw_okq (⟨"PenPageModel", "keyAhead", "(I)I"⟩, 38) := ⟨⟨by decide +kernel, by decide +kernel⟩, List.mem_of_getElem? (i := 950) (by decide +kernel), List.mem_of_getElem? (i := 1190) (by decide +kernel), List.mem_of_getElem? (i := 1191) (by decide +kernel)⟩
theorem lw_p59 : lw_okq (⟨"PenPageModel", "keyBehind", "(I)I"⟩, 38) := ⟨⟨by decide +kernel, by decide +kernel⟩, List.mem_of_getElem? (i := 950) (by decide +kernel), List.mem_of_getElem? (i := 1194) (by decide +kernel), List.mem_of_getElem? (i := 1195) (by decide +kernel)⟩
theorem lw_p60 : lw_okq (⟨"PenPageModel", "placeInRow", "(I)I"⟩, 38) := ⟨⟨by decide +kernel, by decide +kernel⟩, List.mem_of_getElem? (i := 950) (by decide +kernel), List.mem_of_getElem? (i := 1198) (by decide +kernel), List.mem_of_getElem? (i := 1199) (by decide +kernel)⟩
theorem lw_p61 : lw_okq (⟨"PenPageModel", "newKey", "(IIII)Z"⟩, 38) := ⟨⟨by decide +kernel, by decide +kernel⟩, List.mem_of_getElem? (i := 950) (by decide +kernel), List.mem_of_getElem? (i := 1203) (by decide +kernel), List.mem_of_getElem? (i := 1204) (by decide +kernel)⟩
theorem lw_p62 : lw_okq (⟨"PenPageModel", "endStep", "(I)I"⟩, 38) := ⟨⟨by decide +kernel, by decide +kernel⟩, List.mem_of_getElem? (i := 950) (by decide +kernel), List.mem_of_getElem? (i := 1207) (by decide +kernel), List.mem_of_getElem? (i := 1208) (by decide +kernel)⟩
theorem lw_p63 : lw_okq (⟨"PenPageModel", "add", "(II)V"⟩, 38) := ⟨⟨by decide +kernel, by decide +kernel⟩, List.mem_of_getElem? (i := 950) (by decide +kernel), List.mem_of_getElem? (i := 1211) (by decide +kernel), List.mem_of_getElem? (i := 1212) (by decide +kernel)⟩
def lw_privs_4 : List (MethodName × Nat) := [(⟨"PenPageModel", "tellMove", "(II)V"⟩, 38), (⟨"PenPageModel", "layMark", "(I)V"⟩, 38), (⟨"PenPageModel", "compare", "(II)I"⟩, 38), (⟨"PenPageModel", "goneOf", "(I)I"⟩, 38), (⟨"PenPageModel", "isGone", "(II)Z"⟩, 38), (⟨"PenPageModel", "strikes", "(IIII)Z"⟩, 38), (⟨"PenPageModel", "ageOf", "(I)I"⟩, 38), (⟨"PenPageModel", "beginStep", "(II)Z"⟩, 38), (⟨"PenPageModel", "put", "(III)V"⟩, 38), (⟨"PenPageModel", "refuse", "()I"⟩, 38), (⟨"PenPageModel", "keyAhead", "(I)I"⟩, 38), (⟨"PenPageModel", "keyBehind", "(I)I"⟩, 38), (⟨"PenPageModel", "placeInRow", "(I)I"⟩, 38), (⟨"PenPageModel", "newKey", "(IIII)Z"⟩, 38), (⟨"PenPageModel", "endStep", "(I)I"⟩, 38), (⟨"PenPageModel", "add", "(II)V"⟩, 38)]
theorem lw_r4 : ∀ q ∈ lw_privs_4, lw_okq q := List.forall_mem_cons.mpr ⟨lw_p48, List.forall_mem_cons.mpr ⟨lw_p49, List.forall_mem_cons.mpr ⟨lw_p50, List.forall_mem_cons.mpr ⟨lw_p51, List.forall_mem_cons.mpr ⟨lw_p52, List.forall_mem_cons.mpr ⟨lw_p53, List.forall_mem_cons.mpr ⟨lw_p54, List.forall_mem_cons.mpr ⟨lw_p55, List.forall_mem_cons.mpr ⟨lw_p56, List.forall_mem_cons.mpr ⟨lw_p57, List.forall_mem_cons.mpr ⟨lw_p58, List.forall_mem_cons.mpr ⟨lw_p59, List.forall_mem_cons.mpr ⟨lw_p60, List.forall_mem_cons.mpr ⟨lw_p61, List.forall_mem_cons.mpr ⟨lw_p62, List.forall_mem_cons.mpr ⟨lw_p63, fun _ h => absurd h List.not_mem_nil⟩⟩⟩⟩⟩⟩⟩⟩⟩⟩⟩⟩⟩⟩⟩⟩
theorem lw_p64 : lw_okq (⟨"PenPageModel", "copy", "(II)V"⟩, 38) := ⟨⟨by decide +kernel, by decide +kernel⟩, List.mem_of_getElem? (i := 950) (by decide +kernel), List.mem_of_getElem? (i := 1215) (by decide +kernel), List.mem_of_getElem? (i := 1216) (by decide +kernel)⟩
theorem lw_p65 : lw_okq (⟨"PenPageModel", "release", "(I)V"⟩, 38) := ⟨⟨by decide +kernel, by decide +kernel⟩, List.mem_of_getElem? (i := 950) (by decide +kernel), List.mem_of_getElem? (i := 1219) (by decide +kernel), List.mem_of_getElem? (i := 1220) (by decide +kernel)⟩
theorem lw_p66 : lw_okq (⟨"PenPageModel", "holdOf", "(II)I"⟩, 38) := ⟨⟨by decide +kernel, by decide +kernel⟩, List.mem_of_getElem? (i := 950) (by decide +kernel), List.mem_of_getElem? (i := 1223) (by decide +kernel), List.mem_of_getElem? (i := 1224) (by decide +kernel)⟩
theorem lw_p67 : lw_okq (⟨"PenPageModel", "drop", "(II)V"⟩, 38) := ⟨⟨by decide +kernel, by decide +kernel⟩, List.mem_of_getElem? (i := 950) (by decide +kernel), List.mem_of_getElem? (i := 1227) (by decide +kernel), List.mem_of_getElem? (i := 1228) (by decide +kernel)⟩
theorem lw_p68 : lw_okq (⟨"PenPageModel", "canHave", "(II)Z"⟩, 38) := ⟨⟨by decide +kernel, by decide +kernel⟩, List.mem_of_getElem? (i := 950) (by decide +kernel), List.mem_of_getElem? (i := 1231) (by decide +kernel), List.mem_of_getElem? (i := 1232) (by decide +kernel)⟩
theorem lw_p69 : lw_okq (⟨"PenPageModel", "isAhead", "(II)Z"⟩, 38) := ⟨⟨by decide +kernel, by decide +kernel⟩, List.mem_of_getElem? (i := 950) (by decide +kernel), List.mem_of_getElem? (i := 1235) (by decide +kernel), List.mem_of_getElem? (i := 1236) (by decide +kernel)⟩
theorem lw_p70 : lw_okq (⟨"PenPageModel", "mayUndo", "(II)Z"⟩, 38) := ⟨⟨by decide +kernel, by decide +kernel⟩, List.mem_of_getElem? (i := 950) (by decide +kernel), List.mem_of_getElem? (i := 1247) (by decide +kernel), List.mem_of_getElem? (i := 1248) (by decide +kernel)⟩
theorem lw_p71 : lw_okq (⟨"PenPageModel", "layPacket", "(I)V"⟩, 38) := ⟨⟨by decide +kernel, by decide +kernel⟩, List.mem_of_getElem? (i := 950) (by decide +kernel), List.mem_of_getElem? (i := 1260) (by decide +kernel), List.mem_of_getElem? (i := 1261) (by decide +kernel)⟩
theorem lw_p72 : lw_okq (⟨"PenPageModel", "lay", "(I)V"⟩, 38) := ⟨⟨by decide +kernel, by decide +kernel⟩, List.mem_of_getElem? (i := 950) (by decide +kernel), List.mem_of_getElem? (i := 1264) (by decide +kernel), List.mem_of_getElem? (i := 1265) (by decide +kernel)⟩
theorem lw_p73 : lw_okq (⟨"PenPageModel", "layKey", "(I)V"⟩, 38) := ⟨⟨by decide +kernel, by decide +kernel⟩, List.mem_of_getElem? (i := 950) (by decide +kernel), List.mem_of_getElem? (i := 1268) (by decide +kernel), List.mem_of_getElem? (i := 1269) (by decide +kernel)⟩
theorem lw_p74 : lw_okq (⟨"PenPageModel", "layMarkBytes", "(I)V"⟩, 38) := ⟨⟨by decide +kernel, by decide +kernel⟩, List.mem_of_getElem? (i := 950) (by decide +kernel), List.mem_of_getElem? (i := 1272) (by decide +kernel), List.mem_of_getElem? (i := 1273) (by decide +kernel)⟩
theorem lw_p75 : lw_okq (⟨"PenPageModel", "readPacket", "()V"⟩, 38) := ⟨⟨by decide +kernel, by decide +kernel⟩, List.mem_of_getElem? (i := 950) (by decide +kernel), List.mem_of_getElem? (i := 1284) (by decide +kernel), List.mem_of_getElem? (i := 1285) (by decide +kernel)⟩
theorem lw_p76 : lw_okq (⟨"PenPageModel", "readByte", "(II)I"⟩, 38) := ⟨⟨by decide +kernel, by decide +kernel⟩, List.mem_of_getElem? (i := 950) (by decide +kernel), List.mem_of_getElem? (i := 1288) (by decide +kernel), List.mem_of_getElem? (i := 1289) (by decide +kernel)⟩
theorem lw_p77 : lw_okq (⟨"PenPageModel", "wrong", "(II)V"⟩, 38) := ⟨⟨by decide +kernel, by decide +kernel⟩, List.mem_of_getElem? (i := 950) (by decide +kernel), List.mem_of_getElem? (i := 1292) (by decide +kernel), List.mem_of_getElem? (i := 1293) (by decide +kernel)⟩
theorem lw_p78 : lw_okq (⟨"PenPageModel", "readTwo", "(II)I"⟩, 38) := ⟨⟨by decide +kernel, by decide +kernel⟩, List.mem_of_getElem? (i := 950) (by decide +kernel), List.mem_of_getElem? (i := 1296) (by decide +kernel), List.mem_of_getElem? (i := 1297) (by decide +kernel)⟩
theorem lw_p79 : lw_okq (⟨"PenPageModel", "readKey", "(I)V"⟩, 38) := ⟨⟨by decide +kernel, by decide +kernel⟩, List.mem_of_getElem? (i := 950) (by decide +kernel), List.mem_of_getElem? (i := 1300) (by decide +kernel), List.mem_of_getElem? (i := 1301) (by decide +kernel)⟩
def lw_privs_5 : List (MethodName × Nat) := [(⟨"PenPageModel", "copy", "(II)V"⟩, 38), (⟨"PenPageModel", "release", "(I)V"⟩, 38), (⟨"PenPageModel", "holdOf", "(II)I"⟩, 38), (⟨"PenPageModel", "drop", "(II)V"⟩, 38), (⟨"PenPageModel", "canHave", "(II)Z"⟩, 38), (⟨"PenPageModel", "isAhead", "(II)Z"⟩, 38), (⟨"PenPageModel", "mayUndo", "(II)Z"⟩, 38), (⟨"PenPageModel", "layPacket", "(I)V"⟩, 38), (⟨"PenPageModel", "lay", "(I)V"⟩, 38), (⟨"PenPageModel", "layKey", "(I)V"⟩, 38), (⟨"PenPageModel", "layMarkBytes", "(I)V"⟩, 38), (⟨"PenPageModel", "readPacket", "()V"⟩, 38), (⟨"PenPageModel", "readByte", "(II)I"⟩, 38), (⟨"PenPageModel", "wrong", "(II)V"⟩, 38), (⟨"PenPageModel", "readTwo", "(II)I"⟩, 38), (⟨"PenPageModel", "readKey", "(I)V"⟩, 38)]
theorem lw_r5 : ∀ q ∈ lw_privs_5, lw_okq q := List.forall_mem_cons.mpr ⟨lw_p64, List.forall_mem_cons.mpr ⟨lw_p65, List.forall_mem_cons.mpr ⟨lw_p66, List.forall_mem_cons.mpr ⟨lw_p67, List.forall_mem_cons.mpr ⟨lw_p68, List.forall_mem_cons.mpr ⟨lw_p69, List.forall_mem_cons.mpr ⟨lw_p70, List.forall_mem_cons.mpr ⟨lw_p71, List.forall_mem_cons.mpr ⟨lw_p72, List.forall_mem_cons.mpr ⟨lw_p73, List.forall_mem_cons.mpr ⟨lw_p74, List.forall_mem_cons.mpr ⟨lw_p75, List.forall_mem_cons.mpr ⟨lw_p76, List.forall_mem_cons.mpr ⟨lw_p77, List.forall_mem_cons.mpr ⟨lw_p78, List.forall_mem_cons.mpr ⟨lw_p79, fun _ h => absurd h List.not_mem_nil⟩⟩⟩⟩⟩⟩⟩⟩⟩⟩⟩⟩⟩⟩⟩⟩
theorem lw_p80 : lw_okq (⟨"PenPageModel", "readMark", "()I"⟩, 38) := ⟨⟨by decide +kernel, by decide +kernel⟩, List.mem_of_getElem? (i := 950) (by decide +kernel), List.mem_of_getElem? (i := 1304) (by decide +kernel), List.mem_of_getElem? (i := 1305) (by decide +kernel)⟩
theorem lw_p81 : lw_okq (⟨"PenPageModel", "readMoves", "()V"⟩, 38) := ⟨⟨by decide +kernel, by decide +kernel⟩, List.mem_of_getElem? (i := 950) (by decide +kernel), List.mem_of_getElem? (i := 1308) (by decide +kernel), List.mem_of_getElem? (i := 1309) (by decide +kernel)⟩
theorem lw_p82 : lw_okq (⟨"PenPageModel", "heard", "(I)I"⟩, 38) := ⟨⟨by decide +kernel, by decide +kernel⟩, List.mem_of_getElem? (i := 950) (by decide +kernel), List.mem_of_getElem? (i := 1312) (by decide +kernel), List.mem_of_getElem? (i := 1313) (by decide +kernel)⟩
theorem lw_p83 : lw_okq (⟨"PenPageModel", "isLike", "(II)Z"⟩, 38) := ⟨⟨by decide +kernel, by decide +kernel⟩, List.mem_of_getElem? (i := 950) (by decide +kernel), List.mem_of_getElem? (i := 1316) (by decide +kernel), List.mem_of_getElem? (i := 1317) (by decide +kernel)⟩
theorem lw_p84 : lw_okq (⟨"PenPageModel", "lackOf", "(III)I"⟩, 38) := ⟨⟨by decide +kernel, by decide +kernel⟩, List.mem_of_getElem? (i := 950) (by decide +kernel), List.mem_of_getElem? (i := 1332) (by decide +kernel), List.mem_of_getElem? (i := 1333) (by decide +kernel)⟩
theorem lw_p85 : lw_okq (⟨"PenPageModel", "lacksOne", "(IIII)Z"⟩, 38) := ⟨⟨by decide +kernel, by decide +kernel⟩, List.mem_of_getElem? (i := 950) (by decide +kernel), List.mem_of_getElem? (i := 1336) (by decide +kernel), List.mem_of_getElem? (i := 1337) (by decide +kernel)⟩
theorem lw_p86 : lw_okq (⟨"PenPageModel", "orderOn", "(I)V"⟩, 38) := ⟨⟨by decide +kernel, by decide +kernel⟩, List.mem_of_getElem? (i := 950) (by decide +kernel), List.mem_of_getElem? (i := 1372) (by decide +kernel), List.mem_of_getElem? (i := 1373) (by decide +kernel)⟩
theorem lw_p87 : lw_okq (⟨"PenPageModel", "write", "(I)I"⟩, 38) := ⟨⟨by decide +kernel, by decide +kernel⟩, List.mem_of_getElem? (i := 950) (by decide +kernel), List.mem_of_getElem? (i := 1376) (by decide +kernel), List.mem_of_getElem? (i := 1377) (by decide +kernel)⟩
theorem lw_p88 : lw_okq (⟨"PenPageModel", "inOrder", "(II)I"⟩, 38) := ⟨⟨by decide +kernel, by decide +kernel⟩, List.mem_of_getElem? (i := 950) (by decide +kernel), List.mem_of_getElem? (i := 1380) (by decide +kernel), List.mem_of_getElem? (i := 1381) (by decide +kernel)⟩
theorem lw_p89 : lw_okq (⟨"PenPageModel", "actsOf", "(I)I"⟩, 38) := ⟨⟨by decide +kernel, by decide +kernel⟩, List.mem_of_getElem? (i := 950) (by decide +kernel), List.mem_of_getElem? (i := 1384) (by decide +kernel), List.mem_of_getElem? (i := 1385) (by decide +kernel)⟩
theorem lw_p90 : lw_okq (⟨"PenPageModel", "copyAll", "(II)V"⟩, 38) := ⟨⟨by decide +kernel, by decide +kernel⟩, List.mem_of_getElem? (i := 950) (by decide +kernel), List.mem_of_getElem? (i := 1392) (by decide +kernel), List.mem_of_getElem? (i := 1393) (by decide +kernel)⟩
def lw_privs_6 : List (MethodName × Nat) := [(⟨"PenPageModel", "readMark", "()I"⟩, 38), (⟨"PenPageModel", "readMoves", "()V"⟩, 38), (⟨"PenPageModel", "heard", "(I)I"⟩, 38), (⟨"PenPageModel", "isLike", "(II)Z"⟩, 38), (⟨"PenPageModel", "lackOf", "(III)I"⟩, 38), (⟨"PenPageModel", "lacksOne", "(IIII)Z"⟩, 38), (⟨"PenPageModel", "orderOn", "(I)V"⟩, 38), (⟨"PenPageModel", "write", "(I)I"⟩, 38), (⟨"PenPageModel", "inOrder", "(II)I"⟩, 38), (⟨"PenPageModel", "actsOf", "(I)I"⟩, 38), (⟨"PenPageModel", "copyAll", "(II)V"⟩, 38)]
theorem lw_r6 : ∀ q ∈ lw_privs_6, lw_okq q := List.forall_mem_cons.mpr ⟨lw_p80, List.forall_mem_cons.mpr ⟨lw_p81, List.forall_mem_cons.mpr ⟨lw_p82, List.forall_mem_cons.mpr ⟨lw_p83, List.forall_mem_cons.mpr ⟨lw_p84, List.forall_mem_cons.mpr ⟨lw_p85, List.forall_mem_cons.mpr ⟨lw_p86, List.forall_mem_cons.mpr ⟨lw_p87, List.forall_mem_cons.mpr ⟨lw_p88, List.forall_mem_cons.mpr ⟨lw_p89, List.forall_mem_cons.mpr ⟨lw_p90, fun _ h => absurd h List.not_mem_nil⟩⟩⟩⟩⟩⟩⟩⟩⟩⟩⟩
def lw_privs : List (MethodName × Nat) := lw_privs_1 ++ (lw_privs_2 ++ (lw_privs_3 ++ (lw_privs_4 ++ (lw_privs_5 ++ (lw_privs_6)))))
def lw_tbl : List Cond := k2_sels lw_privs ++ tables_1
theorem lw_privs_ok : ∀ q ∈ lw_privs, lw_okq q := by
  show ∀ q ∈ lw_privs_1 ++ (lw_privs_2 ++ (lw_privs_3 ++ (lw_privs_4 ++ (lw_privs_5 ++ (lw_privs_6))))), lw_okq q
  exact List.forall_mem_append.mpr ⟨lw_r1, List.forall_mem_append.mpr ⟨lw_r2, List.forall_mem_append.mpr ⟨lw_r3, List.forall_mem_append.mpr ⟨lw_r4, List.forall_mem_append.mpr ⟨lw_r5, lw_r6⟩⟩⟩⟩⟩
end
section
/-! ===== what the laws below want of arrays of arrays ===== -/
def va_AOA (ty : FieldType) (U : State) : Prop := (Cond.arrayOver (.array ty)).before #[] U = true
theorem va_AOA.of {ty : FieldType} {A : Array Value} {U : State} (h : (Cond.arrayOver (.array ty)).before A U = true) : va_AOA ty U := h
theorem va_AOA.use {ty : FieldType} {A : Array Value} {U : State} (h : va_AOA ty U) : (Cond.arrayOver (.array ty)).before A U = true := h
theorem va_AOA.moved {ty : FieldType} {u U : State} (hvm : u.vm.Alike U.vm) (h : va_AOA ty u) : va_AOA ty U := by
  have h1 := Cond.arrayOver_setVmC (args := #[]) (s := u) hvm (.array ty)
  have h2 : (Cond.arrayOver (.array ty)).before #[] (u.setVm U.vm) = true := h1.trans h
  exact h2
/-! ===== BEGIN words of one list among another's, by their places ===== -/
theorem goodIn_r {big : List Cond} (ws : List Cond) (ps : List Nat) (hp : ws = ps.filterMap (fun i => big[i]?)) (h : ws.all goodWord = true) : GoodIn big ws := by
  intro w hw
  have h1 := List.all_eq_true.mp h w hw
  rw [hp] at hw
  obtain ⟨i, -, hi⟩ := List.mem_filterMap.mp hw
  have hm : w ∈ big := by first | exact List.mem_of_getElem? hi | exact List.getElem?_mem hi
  exact ⟨hm, good_of_word h1⟩
theorem goodIn_app {big a b : List Cond} (ha : GoodIn big a) (hb : GoodIn big b) : GoodIn big (a ++ b) := fun w h => (List.mem_append.mp h).elim (ha w) (hb w)
theorem goodIn_ca {big a b : List Cond} {c : Cond} (ha : GoodIn big (c :: a)) (hb : GoodIn big b) : GoodIn big (c :: (a ++ b)) := fun w h => (List.mem_cons.mp h).elim (fun e => ha w (List.mem_cons.mpr (Or.inl e))) (fun h => (List.mem_append.mp h).elim (fun h => ha w (List.mem_cons.mpr (Or.inr h))) (hb w))
theorem goodIn_sub {big ws : List Cond} (hm : ∀ w ∈ ws, w ∈ big) (h : ws.all goodWord = true) : GoodIn big ws := fun w hw => ⟨hm w hw, good_of_word (List.all_eq_true.mp h w hw)⟩
/-! ===== END ===== -/

/-! ===== BEGIN new T[n][m]: the outer array a place, the inner ones among the pooled ===== -/
/-- f, but v at every address of l -/
def vr_up {α : Type} (f : Nat → α) (l : List Nat) (v : α) : Nat → α := fun a => if a ∈ l then v else f a
theorem vr_up_in {α : Type} {f : Nat → α} {l : List Nat} {v : α} {a : Nat} (h : a ∈ l) : vr_up f l v a = v := if_pos h
theorem vr_up_ne {α : Type} {f : Nat → α} {l : List Nat} {v : α} {a : Nat} (h : a ∉ l) : vr_up f l v a = f a := if_neg h
theorem vr_rows {L l : List Nat} {f : Nat → va_E} {e : va_E} (h : ∀ a, a ∈ l → a ∉ L) : va_pl L f ++ l.map (fun a => (a, e)) = va_pl (L ++ l) (vr_up f l e) := by
  unfold va_pl
  rw [List.map_append]
  congr 1
  · apply List.map_congr_left
    intro a ha
    rw [vr_up_ne (fun q => h a q ha)]
  · apply List.map_congr_left
    intro a ha
    rw [vr_up_in ha]
theorem vr_lay {X rows : va_W} {x : Nat × va_E} {pl : va_W} {D : va_G} {cl : List vw_C} {H : Heap} (hP : va_P D cl (((X ++ pl) ++ [x]) ++ rows) H) : va_P D cl ((X ++ [x]) ++ (pl ++ rows)) H := by
  rw [List.append_assoc (X ++ pl)] at hP
  have h := va_P.swap hP
  rw [← List.append_assoc X] at h
  have h2 := va_P.swap h
  rw [List.append_assoc (X ++ [x])] at h2
  exact h2
theorem vr_layD {X rows : va_W} {x : Nat × va_E} {pl : va_W} {A : Nat → Prop} (hD : va_D A (((X ++ pl) ++ [x]) ++ rows)) : va_D A ((X ++ [x]) ++ (pl ++ rows)) := by
  rw [List.append_assoc (X ++ pl)] at hD
  have h := va_D.swap hD
  rw [← List.append_assoc X] at h
  have h2 := va_D.swap h
  rw [List.append_assoc (X ++ [x])] at h2
  exact h2
theorem vr_outer (c : ClassId) (N h0 : Nat) : ∀ i : Nat, Jvm.Free.Multi.outerC c N h0 i = arrV c N (fun j => va_rf (if j < i then some (h0 + 1 + j) else none))
  | 0 => by
    show ({ cls := c, slots := Array.replicate N .null, vm := .none } : Cell) = _
    rw [arrV_new]
    refine congrArg (arrV c N) (funext fun j => ?_)
    simp [va_rf]
  | i + 1 => by
    show (Jvm.Free.Multi.outerC c N h0 i).setSlot i (.ref (h0 + 1 + i)) = _
    rw [vr_outer c N h0 i, arrV_store]
    refine congrArg (arrV c N) (funext fun j => ?_)
    by_cases e : j = i
    · subst e
      simp [updV, va_rf]
    · by_cases h : j < i
      · simp [updV, e, h, Nat.lt_succ_of_lt h]
      · simp [updV, e, h, show ¬ j < i + 1 by omega]
section VGM
variable {p : Program} {l : Launch} {e : Env} {R : Room} {s : State} {m : MethodId} {args : Array Value} {below : List Frame} {meth : Method} {c : Code} {H : Heap} {locs : List Loc} {cells slots : Nat} {Q : State → Prop}
variable {cc : ByteArray} {pc : Nat} {ls : Array Slot} {rest : List Value} {D : va_G} {cl : List vw_C} {A : Nat → Prop} {a : Nat} {tys : List (ClassId × FieldType)} {ws : va_W} {H0 : Heap}
theorem va_mna {X : va_W} {L : List Nat} {f : Nat → va_E} {cc : ByteArray} (hexec : p.tables.exec = Jvm.exec) (hb : c.code = cc) {own : String} {index : Nat} {ty : FieldType} {cy : ClassId} (hown : s.vm.findClass own = some m.cls) (hclink : (Cond.classLink own index ("[" ++ (FieldType.array ty).toString)).before args s = true) (hover : va_AOA ty s) (harr : (Cond.arrayClass ty).before args s = true) (hcy : s.vm.findClass (FieldType.array ty).toString = some cy)
    (hK : va_K D cl tys s) (hP : va_P D cl (X ++ va_pl L f) H) (hD : va_D A (X ++ va_pl L f)) (hS : va_S A H0 H locs) (hA : ∀ q, H0.size ≤ q → A q) {n k : Int32} {N' K' : Nat} {z : vp_A} (hn : ¬ n < 0) (hk : ¬ k < 0) (hN : n.toNatClampNeg = N') (hM : k.toNatClampNeg = K')
    (hb1 : N' * 4 ≤ 536870912) (hb2 : K' * componentBytes ty ≤ 536870912) (hb3 : K' ≤ 536870912) (hdf : fits ty (defaultValue ty) = true) (hdd : (defaultValue ty).isDefault = true) (hcells : cells + (1 + N') ≤ R.cells) (hslots : slots + (N' + N' * K') ≤ R.slots) (hz : ∀ c : ClassId, Jvm.Free.Multi.innerC c K' (defaultValue ty) = vp_cell c z) (hdg : decode cc pc = .ok (.multianewarray index 2, 4))
    (kk : ∀ (q : Nat) (r : Nat → Nat) (cA : ClassId) (H1 : Heap), (∀ i j : Nat, i < N' → j < N' → r i = r j → i = j) → (∀ i : Nat, i < N' → r i ∉ L) → va_K D cl (tys ++ [(cA, .array ty)]) s →
      va_P D cl ((X ++ [(q, .inl (cA, N', .inr (.inr (.inr (.inr (fun i => if i < N' then some (r i) else none))))))]) ++ va_pl (L ++ (List.range N').map r) (vr_up f ((List.range N').map r) (.inl (cy, z)))) H1 → va_D A ((X ++ [(q, .inl (cA, N', .inr (.inr (.inr (.inr (fun i => if i < N' then some (r i) else none))))))]) ++ va_pl (L ++ (List.range N').map r) (vr_up f ((List.range N').map r) (.inl (cy, z)))) → va_S A H0 H1 locs →
      W p l e R s m args below meth c H1 locs (cells + 1 + N') (slots + N' + N' * K') Q (F0 m (pc + 4) ls (.ref q :: rest))) : W p l e R s m args below meth c H locs cells slots Q (F0 m pc ls (.int k :: .int n :: rest)) := by
  subst hN
  subst hM
  intro T hT Xs
  obtain ⟨vm₁, cA, comp, -, fA, fC, hO, -, X', step⟩ := Xs.multianewarray2F hexec hown hclink (va_AOA.use hover) harr (g := F0 m pc ls (.int k :: .int n :: rest)) rfl (by rw [hb]; exact hdg) rfl hn hk hb1 hb2 hb3 hdf hdd hcells hslots
  have ec : some cy = some comp := hcy.symm.trans fC
  cases ec
  generalize hF : Jvm.Free.Multi.fill (T.setVm vm₁) cA cy n.toNatClampNeg k.toNatClampNeg (defaultValue ty) n.toNatClampNeg = F at X' step
  have hTh : (T.setVm vm₁).heap = H := hT
  obtain ⟨f1, f2, -, -⟩ := Jvm.Free.Multi.fill_facts (T.setVm vm₁) cA cy n.toNatClampNeg k.toNatClampNeg (defaultValue ty) n.toNatClampNeg
  rw [hF, hTh] at f1 f2
  have hold : ∀ x : Nat, x < H.size → F.heap[x]? = H[x]? := fun x hx => by
    have := Jvm.Free.Multi.fill_old (T.setVm vm₁) cA cy n.toNatClampNeg k.toNatClampNeg (defaultValue ty) (a := x) (by rw [hTh]; exact hx) n.toNatClampNeg
    rw [hF, hTh] at this
    exact this
  have hrow : ∀ j : Nat, j < n.toNatClampNeg → F.heap[H.size + 1 + j]? = some (vp_cell cy z) := fun j hj => by
    have := Jvm.Free.Multi.fill_inner (T.setVm vm₁) cA cy n.toNatClampNeg k.toNatClampNeg (defaultValue ty) n.toNatClampNeg j hj
    rw [hF, hTh, hz] at this
    exact this
  have hout : Jvm.Free.Multi.outerC cA n.toNatClampNeg H.size n.toNatClampNeg = vp_cell cA (n.toNatClampNeg, .inr (.inr (.inr (.inr (fun i => if i < n.toNatClampNeg then some (H.size + 1 + i) else none))))) := by
    rw [vp_cell_q]
    exact vr_outer cA n.toNatClampNeg H.size n.toNatClampNeg
  rw [hout] at f2
  have hlt : ∀ a, a ∈ L → a < H.size := fun a ha => by
    obtain ⟨k9, hk9⟩ := va_pl_get (X := X) (f := f) ha
    exact (hP k9 _ hk9).lt
  have hnl : ∀ i : Nat, i < n.toNatClampNeg → H.size + 1 + i ∉ L := fun i _ h => by
    have := hlt _ h
    omega
  have hnm : ∀ a, a ∈ (List.range n.toNatClampNeg).map (fun i => H.size + 1 + i) → a ∉ L := fun a ha h => by
    obtain ⟨i, -, rfl⟩ := List.mem_map.mp ha
    have := hlt _ h
    omega
  have hP0 : va_P D cl (X ++ va_pl L f) F.heap := hP.kept (fun k9 x hx => hold x.1 ((hP k9 x hx).lt))
  have hP1 : va_P D cl ((X ++ va_pl L f) ++ [(H.size, .inl (cA, n.toNatClampNeg, .inr (.inr (.inr (.inr (fun i => if i < n.toNatClampNeg then some (H.size + 1 + i) else none))))))]) F.heap := hP0.app (fun k9 x hx => by
    have h0 : k9 < 1 := (List.getElem?_eq_some_iff.mp hx).1
    rw [show k9 = 0 by omega] at hx
    cases hx
    exact f2)
  have hP2 : va_P D cl (((X ++ va_pl L f) ++ [(H.size, .inl (cA, n.toNatClampNeg, .inr (.inr (.inr (.inr (fun i => if i < n.toNatClampNeg then some (H.size + 1 + i) else none))))))]) ++ ((List.range n.toNatClampNeg).map (fun i => H.size + 1 + i)).map (fun a => (a, .inl (cy, z)))) F.heap := hP1.app (fun k9 x hx => by
    obtain ⟨a, ha, rfl⟩ := List.mem_map.mp (List.mem_of_getElem? hx)
    obtain ⟨i, hi, rfl⟩ := List.mem_map.mp ha
    exact hrow i (List.mem_range.mp hi))
  have hD2 : va_D A (((X ++ va_pl L f) ++ [(H.size, .inl (cA, n.toNatClampNeg, .inr (.inr (.inr (.inr (fun i => if i < n.toNatClampNeg then some (H.size + 1 + i) else none))))))]) ++ ((List.range n.toNatClampNeg).map (fun i => H.size + 1 + i)).map (fun a => (a, .inl (cy, z)))) := by
    have hD1 := hD.push (e := .inl (cA, n.toNatClampNeg, .inr (.inr (.inr (.inr (fun i => if i < n.toNatClampNeg then some (H.size + 1 + i) else none)))))) hP rfl (hA _ hS.1)
    generalize hW1 : (X ++ va_pl L f) ++ [(H.size, .inl (cA, n.toNatClampNeg, .inr (.inr (.inr (.inr (fun i => if i < n.toNatClampNeg then some (H.size + 1 + i) else none))))))] = W1 at hD1 hP1 ⊢
    have hle : ∀ (k9 : Nat) (x : Nat × va_E), W1[k9]? = some x → x.1 ≤ H.size := fun k9 x hx => by
      rw [← hW1] at hx
      by_cases hl : k9 < (X ++ va_pl L f).length
      · rw [List.getElem?_append_left hl] at hx
        exact Nat.le_of_lt ((hP k9 x hx).lt)
      · rw [List.getElem?_append_right (by omega)] at hx
        have h0 : k9 - (X ++ va_pl L f).length < 1 := (List.getElem?_eq_some_iff.mp hx).1
        rw [show k9 - (X ++ va_pl L f).length = 0 by omega] at hx
        cases hx
        exact Nat.le_refl _
    have hr : ∀ (k9 : Nat) (x : Nat × va_E), (((List.range n.toNatClampNeg).map (fun i => H.size + 1 + i)).map (fun a => ((a, .inl (cy, z)) : Nat × va_E)))[k9]? = some x → x.1 = H.size + 1 + k9 := fun k9 x hx => by
      rw [List.getElem?_map, List.getElem?_map] at hx
      by_cases h9 : k9 < n.toNatClampNeg
      · rw [List.getElem?_range h9] at hx
        cases hx
        rfl
      · have hn0 : (List.range n.toNatClampNeg)[k9]? = none := List.getElem?_eq_none (by rw [List.length_range]; omega)
        rw [hn0] at hx
        cases hx
    refine ⟨fun i j x y hi hj hxy => ?_, fun k9 x hx => ?_⟩
    · by_cases h1 : i < W1.length <;> by_cases h2 : j < W1.length
      · rw [List.getElem?_append_left h1] at hi
        rw [List.getElem?_append_left h2] at hj
        exact hD1.1 i j x y hi hj hxy
      · rw [List.getElem?_append_left h1] at hi
        rw [List.getElem?_append_right (by omega)] at hj
        have := hle _ _ hi
        have := hr _ _ hj
        omega
      · rw [List.getElem?_append_right (by omega)] at hi
        rw [List.getElem?_append_left h2] at hj
        have := hle _ _ hj
        have := hr _ _ hi
        omega
      · rw [List.getElem?_append_right (by omega)] at hi hj
        have := hr _ _ hi
        have := hr _ _ hj
        omega
    · by_cases h1 : k9 < W1.length
      · rw [List.getElem?_append_left h1] at hx
        exact hD1.2 k9 x hx
      · rw [List.getElem?_append_right (by omega)] at hx
        have := hr _ _ hx
        exact hA _ (by have := hS.1; omega)
  have hAr : ArrOfT s cA (.array ty) := fun N9 z9 => by
    obtain ⟨-, k9, hk9, cm9, hkk9⟩ := (hO 0 0 0).1
    exact ⟨(fun q hq => by cases hq), k9, hk9, cm9, hkk9⟩
  have hK2 : va_K D cl (tys ++ [(cA, .array ty)]) s := ⟨hK.1, fun k9 x hx => by
    by_cases hl : k9 < tys.length
    · rw [List.getElem?_append_left hl] at hx
      exact hK.2 k9 x hx
    · rw [List.getElem?_append_right (by omega)] at hx
      have h0 : k9 - tys.length < 1 := (List.getElem?_eq_some_iff.mp hx).1
      rw [show k9 - tys.length = 0 by omega] at hx
      cases hx
      exact ⟨hAr, fA⟩⟩
  obtain ⟨t, a1, b1⟩ := kk H.size (fun i => H.size + 1 + i) cA F.heap (fun i j _ _ h => by have h9 : H.size + 1 + i = H.size + 1 + j := h; omega) hnl hK2 (by rw [← vr_rows hnm]; exact vr_lay hP2) (by rw [← vr_rows hnm]; exact vr_layD hD2) ⟨by rw [f1]; have := hS.1; omega, fun x h1 h2 => (hold x (Nat.lt_of_lt_of_le h1 hS.1)).trans (hS.2.1 x h1 h2), hS.2.2⟩ F rfl X'
  refine ⟨t, step t ?_, b1⟩
  have e : T.heap.size = H.size := by rw [hT]
  rw [e]
  exact a1
end VGM
/-! ===== END ===== -/

/-! ===== BEGIN exceptions that leave a method, and their catching by the caller (launches without stack traces) ===== -/
section VXA
/-! The laws vx_back, vx_callV, vx_callS, vx_callSW, vx_throw0, vx_throwS follow proofs of the library, with one case more: JvmDerived/Free/Laws.lean (Back.of_free), Shelf42/LK1.lean (callV, callS), Shelf/KitTraced.lean (throwNew0V, throwNewS). -/
/-- where a method has thrown q: the class by its name, the cell, what was written, the world -/
def vx_T (XC : String → State → State → Prop) (st : State) (q : Addr) (t : State) (mc ms : Nat) (free : Addr → Prop) : Prop :=
  ∃ (E : String) (ce : Cell) (L : List Loc), XC E st t ∧ t.heap[q]? = some ce ∧ ce.vm = .none ∧ st.vm.findClass E = some ce.cls ∧ st.WarmedH t.vm ∧ st.sameButNew ({ t with vm := st.vm } : State) L mc ms ∧ ∀ z ∈ L, free z.base
def vx_Q (Qc : Array Value → State → Outcome → State → Prop) (XC : String → State → State → Prop) (mc ms : Nat) (free : Addr → Prop) : Array Value → State → Outcome → State → Prop := fun a st o t =>
  (Qc a st o t ∧ ∃ L, FrameEnd st o t L mc ms ∧ ∀ q ∈ L, free q.base) ∨ ∃ q, o = .threw q ∧ vx_T XC st q t mc ms free
/-- a callee that returns or throws -/
def vx_Met (l : Launch) (y : MethodName) (ws : List Cond) (rm : Room) (Pc : Array Value → State → Prop) (Qc : Array Value → State → Outcome → State → Prop) (XC : String → State → State → Prop) (mc ms : Nat) (free : Addr → Prop) : Prop :=
  MetFree l y (headSpec ws rm) Pc (fun _ _ _ _ _ => True) (vx_Q Qc XC mc ms free)
def vx_Post (XC : String → State → State → Prop) (mc ms : Nat) (free : Addr → Prop) : Pt → Array Value → Addr → Pt → Prop := fun A a q B =>
  ∃ (g : JFrame) (mk : MethodId) (t : State) (L : List Loc) (E : String) (ce : Cell), B.U.heap = t.heap ∧ B.U.vm = t.vm ∧ XC E (A.U.calling g mk a) t ∧ t.heap[q]? = some ce ∧ ce.vm = .none ∧ A.U.vm.findClass E = some ce.cls ∧ B.locs = A.locs ++ L ∧ (∀ z ∈ L, free z.base) ∧ B.cells = A.cells + mc ∧ B.slots = A.slots + ms
def vx_Back (l : Launch) (R : Room) (p : Program) (e : Env) (below : List Frame) (s : State) (sargs : Array Value) (y : MethodName) (len W9 : Nat)
    (Pre : Pt → Array Value → Prop) (Post : Pt → Array Value → Option Value → Pt → Prop) (PostX : Pt → Array Value → Addr → Pt → Prop) : Prop :=
  ∀ (m : MethodId) (meth : Method) (c : Code) (A : Pt) (g : JFrame) (ig : Instr) (mk : MethodId) (a : Array Value),
    Stand p l e R s m sargs below meth c A.U A.locs A.cells A.slots → g.method = m → g.locals.size = c.maxLocals → decode c.code g.pc = .ok (ig, len) →
    2 * g.monitorRoom + (g.stack.map fun v => v.category).sum ≤ W9 → A.U.methodNamed? y = some mk → Pre A a →
    (∃ (v : Option Value) (B : Pt), Stand p l e R s m sargs below meth c B.U B.locs B.cells B.slots ∧ Post A a v B ∧
      Steps p.tables e below (doInvoke e (A.U.setTop g) [] mk a).1 (B.U.setTop { g with pc := g.pc + len, stack := v.toList ++ g.stack })) ∨
    (∃ (q : Addr) (B : Pt), Stand p l e R s m sargs below meth c B.U B.locs B.cells B.slots ∧ PostX A a q B ∧
      Steps p.tables e below (doInvoke e (A.U.setTop g) [] mk a).1 ((B.U.setTop g).pushFrame (.throwing q)))
section Payer
variable {l : Launch} {R : Room} {p : Program} {e : Env} {below : List Frame} {s : State} {sargs : Array Value} {y : MethodName} {len W9 : Nat}
theorem vx_back {ws : List Cond} {rm : Room} {Pc : Array Value → State → Prop} {Qc : Array Value → State → Outcome → State → Prop} {XC : String → State → State → Prop} {mc ms : Nat} {free : Addr → Prop} {bytes : ByteArray} {maxL : Nat} {ret : Option FieldType}
    (hM : vx_Met l y ws rm Pc Qc XC mc ms free) (hblind : FrameBlind Pc) (hrc : rm.cells = mc) (hrs : rm.slots = ms)
    (hframes : rm.frames + 1 ≤ R.frames) (hlocals : W9 + (maxL + 11) + rm.locals ≤ R.locals)
    (hws : ∀ w ∈ ws, ∀ a' U, s.WarmedH U.vm → w.before a' U = true) (hcode : Cond.code y bytes maxL ret ∈ ws) (hinit : ∀ a' U, s.WarmedH U.vm → (Cond.initialized y.cls).before a' U = true) :
    vx_Back l R p e below s sargs y len W9 (PreOf R mc ms Pc) (PostOf Qc mc ms free) (vx_Post XC mc ms free) := by
  intro m meth c A g ig mk a X hg hsize hdg hW hn hp
  have h1 : (headSpec ws rm).pre.before a A.U = true := atoms_intro fun w hw => hws w hw _ _ X.warmed
  have h2 : (Cond.code y bytes maxL ret).before a A.U = true := hws _ hcode _ _ X.warmed
  have h3 : (Cond.initialized y.cls).before a A.U = true := hinit _ _ X.warmed
  have h4 : A.cells + (headSpec ws rm).room.cells ≤ R.cells := by rw [show (headSpec ws rm).room.cells = mc from hrc]; exact hp.1
  have h5 : A.slots + (headSpec ws rm).room.slots ≤ R.slots := by rw [show (headSpec ws rm).room.slots = ms from hrs]; exact hp.2.1
  have hPc : Pc a (A.U.calling g mk a) := hblind _ _ _ _ hp.2.2
  obtain ⟨U, Ls, c0, s0⟩ := A
  dsimp only [Pt.U, Pt.locs, Pt.cells, Pt.slots] at h1 h2 h3 h4 h5 X hn hPc ⊢
  obtain ⟨methY, cY, hmY, hcY, -, hlY, -, -, -, -⟩ := Cond.code_spec hn h2
  obtain ⟨kY, hkY, -⟩ := className_of_methodNamed hn
  have hinitY : kY.init = .initialized := Cond.initialized_spec (findClass_of_methodNamed hn) hkY h3
  have h : At U g.method c below := by rw [hg]; exact X.here
  have hlocals9 : W9 + (maxL + 11) + (headSpec ws rm).room.locals ≤ R.locals := hlocals
  have happ : (headSpec ws rm).appliesLoose y e.platform (U.calling g mk a) = true :=
    Spec.appliesLoose_calling (g := g) h hdg hn hkY hinitY
      (X.room_calling (g := g) (R' := (headSpec ws rm).room) hsize hmY hcY hframes (by rw [hlY]; omega) h4 h5) h1
  obtain ⟨mid, hmid⟩ := h.above
  have hfr : (U.setTop g).frames = (.java g :: mid) ++ below := by rw [State.frames_setTop' g h.top, hmid]; rfl
  obtain ⟨o, s₂, hsteps, -, hend, hq⟩ := Steps.callFree hM p X.admits X.cas X.clock (acts := []) hfr happ hPc trivial
  have hq' : vx_Q Qc XC mc ms free a (U.calling g mk a) o s₂ := hq
  rw [State.frames_setTop' g h.top] at hend
  obtain ⟨g₀, hg0⟩ := Option.isSome_iff_exists.mp h.top
  obtain ⟨r, hr⟩ := State.topJava?_eq_some.mp hg0
  have hr' : (({ U with heap := s₂.heap, slotsUsed := s₂.slotsUsed } : State).setVm s₂.vm).frames = .java g₀ :: r := hr
  rcases hq' with ⟨hqc, L, hfe, hL⟩ | ⟨q, rfl, E, ce, L, hx, hce, hcv, hcl, hW₂, hsm, hL⟩
  · obtain ⟨⟨v, rfl⟩, hW₂, e2, q2, q3, q4, q5, q6⟩ := id hfe
    have e3 : s₂ = ({ (U.calling g mk a).setFrames s₂.frames with heap := s₂.heap, slotsUsed := s₂.slotsUsed } : State).setVm s₂.vm := by
      have : s₂ = ({ s₂ with vm := (U.calling g mk a).vm } : State).setVm s₂.vm := rfl
      rw [e2] at this
      exact this
    obtain ⟨c₂, i₂, len₂, hc₂, hd₂, hf₂⟩ := hend
    have hW' : U.WarmedH s₂.vm := hW₂
    have hcc : c₂ = c := by
      have h1 : s₂.code? g.method = U.code? g.method := by
        rw [State.code?_eq, State.code?_eq, hW'.alike.method?]
      exact Option.some.inj (hc₂.symm.trans (h1.trans h.code))
    subst hcc
    have hlen : len₂ = len := by rw [hdg] at hd₂; cases hd₂; rfl
    subst hlen
    have hs₂ : s₂ = (({ U with heap := s₂.heap, slotsUsed := s₂.slotsUsed } : State).setVm s₂.vm).setTop { g with pc := g.pc + len₂, stack := v.toList ++ g.stack } := by
      refine e3.trans ?_
      rw [hf₂, State.calling_eq h.top, State.setFrames_setFrames, State.setTop_of_frames _ hr', hr]
      rfl
    have hsame : U.sameButNew ({ U with heap := s₂.heap, slotsUsed := s₂.slotsUsed } : State) L mc ms := by
      refine ⟨?_, q2, q3, q4, q5, q6⟩
      obtain ⟨t, ht, -⟩ := State.frames_cons hr
      show ({ U with heap := s₂.heap, slotsUsed := s₂.slotsUsed } : State) = { U.setFrames U.frames with heap := s₂.heap, slotsUsed := s₂.slotsUsed }
      rw [State.setFrames_self ht]
    subst hg
    refine Or.inl ⟨v, ⟨(({ U with heap := s₂.heap, slotsUsed := s₂.slotsUsed } : State).setVm s₂.vm), Ls ++ L, c0 + mc, s0 + ms⟩,
      ⟨X.admits, X.cas, X.clock, X.frames, X.room, X.hears, X.method, X.code, (X.here.setHeapUsed s₂.heap s₂.slotsUsed).setVm hW'.alike, X.tail, State.WarmedH.trans X.warmed hW', X.limits, X.bytes, X.same.trans (hsame.setVm s.vm)⟩,
      ⟨g, mk, s₂, L, rfl, rfl, hqc, rfl, hL, rfl, rfl⟩, ?_⟩
    show Steps p.tables e below _ ((({ U with heap := s₂.heap, slotsUsed := s₂.slotsUsed } : State).setVm s₂.vm).setTop { g with pc := g.pc + len₂, stack := v.toList ++ g.stack })
    rw [← hs₂]
    exact hsteps
  · obtain ⟨e2, q2, q3, q4, q5, q6⟩ := id hsm
    have e3 : s₂ = ({ (U.calling g mk a).setFrames s₂.frames with heap := s₂.heap, slotsUsed := s₂.slotsUsed } : State).setVm s₂.vm := by
      have : s₂ = ({ s₂ with vm := (U.calling g mk a).vm } : State).setVm s₂.vm := rfl
      rw [e2] at this
      exact this
    have hf₂ : s₂.frames = .throwing q :: .java g :: U.frames.tail := hend
    have hW' : U.WarmedH s₂.vm := hW₂
    have hs₂ : s₂ = ((({ U with heap := s₂.heap, slotsUsed := s₂.slotsUsed } : State).setVm s₂.vm).setTop g).pushFrame (.throwing q) := by
      refine e3.trans ?_
      rw [hf₂, State.calling_eq h.top, State.setFrames_setFrames, State.pushFrame, State.frames_setTop _ hr', State.setTop_of_frames _ hr', State.setFrames_setFrames, hr]
      rfl
    have hsame : U.sameButNew ({ U with heap := s₂.heap, slotsUsed := s₂.slotsUsed } : State) L mc ms := by
      refine ⟨?_, q2, q3, q4, q5, q6⟩
      obtain ⟨t, ht, -⟩ := State.frames_cons hr
      show ({ U with heap := s₂.heap, slotsUsed := s₂.slotsUsed } : State) = { U.setFrames U.frames with heap := s₂.heap, slotsUsed := s₂.slotsUsed }
      rw [State.setFrames_self ht]
    subst hg
    refine Or.inr ⟨q, ⟨(({ U with heap := s₂.heap, slotsUsed := s₂.slotsUsed } : State).setVm s₂.vm), Ls ++ L, c0 + mc, s0 + ms⟩,
      ⟨X.admits, X.cas, X.clock, X.frames, X.room, X.hears, X.method, X.code, (X.here.setHeapUsed s₂.heap s₂.slotsUsed).setVm hW'.alike, X.tail, State.WarmedH.trans X.warmed hW', X.limits, X.bytes, X.same.trans (hsame.setVm s.vm)⟩,
      ⟨g, mk, s₂, L, E, ce, rfl, rfl, hx, hce, hcv, hcl, rfl, hL, rfl, rfl⟩, ?_⟩
    show Steps p.tables e below _ (((({ U with heap := s₂.heap, slotsUsed := s₂.slotsUsed } : State).setVm s₂.vm).setTop g).pushFrame (.throwing q))
    rw [← hs₂]
    exact hsteps
end Payer
section Calls
variable {p : Program} {l : Launch} {e : Env} {R : Room} {s : State} {m : MethodId} {args : Array Value} {below : List Frame} {meth : Method} {c : Code} {T : State} {locs : List Loc} {cells slots : Nat}
theorem vx_callV (X : Stand p l e R s m args below meth c T locs cells slots) (hexec : p.tables.exec = Jvm.exec) {own C : String} {index : Nat} {y : MethodName} {bytes : ByteArray} {maxL : Nat} {ret : Option FieldType}
    (hown : s.vm.findClass own = some m.cls) (hlink : (Cond.methodLink own index y).before args s = true) (hinst : (Cond.instanceMethod y).before args s = true) (hsel : (Cond.selects C y y).before args s = true)
    (hcode : (Cond.code y bytes maxL ret).before args s = true) (hy : y.cls ≠ "java/lang/invoke/MethodHandle" ∧ y.cls ≠ "java/lang/invoke/VarHandle")
    {W9 : Nat} {Pre : Pt → Array Value → Prop} {Post : Pt → Array Value → Option Value → Pt → Prop} {PostX : Pt → Array Value → Addr → Pt → Prop} (hK : vx_Back l R p e below s args y 3 W9 Pre Post PostX)
    {b : Addr} {cellB : Cell} (hcell : T.heap[b]? = some cellB) (hobj : cellB.vm.isStatics = false) (hcls : s.vm.findClass C = some cellB.cls)
    {g : JFrame} (hg : g.method = m) (hsize : g.locals.size = c.maxLocals) {argsL rest : List Value} (hlen : ∀ sig, parseMethodDescriptor y.desc = some sig → argsL.length = sig.parameters.length)
    (hstack : g.stack = argsL.reverse ++ .ref b :: rest) (hW : 2 * g.monitorRoom + (rest.map fun v => v.category).sum ≤ W9) (hdg : decode c.code g.pc = .ok (.invokevirtual index, 3))
    (hpre : ∀ vm₁, s.WarmedH vm₁ → Pre ⟨T.setVm vm₁, locs, cells, slots⟩ (Value.ref b :: argsL).toArray) :
    (∃ (v : Option Value) (vm₁ : Vm) (B : Pt), s.WarmedH vm₁ ∧ Stand p l e R s m args below meth c B.U B.locs B.cells B.slots ∧ Post ⟨T.setVm vm₁, locs, cells, slots⟩ (Value.ref b :: argsL).toArray v B ∧
      ∀ target, Steps p.tables e below (B.U.setTop { g with pc := g.pc + 3, stack := v.toList ++ rest }) target → Steps p.tables e below (T.setTop g) target) ∨
    (∃ (q : Addr) (vm₁ : Vm) (B : Pt), s.WarmedH vm₁ ∧ Stand p l e R s m args below meth c B.U B.locs B.cells B.slots ∧ PostX ⟨T.setVm vm₁, locs, cells, slots⟩ (Value.ref b :: argsL).toArray q B ∧
      Steps p.tables e below (T.setTop g) ((B.U.setTop { g with stack := rest }).pushFrame (.throwing q))) := by
  obtain ⟨mk, methM, hnamed, hmethM, hstM, habM⟩ := Cond.instanceMethod_spec hinst
  obtain ⟨methM', cM, hmethM', -, -, -, -, -, -, hsigM⟩ := Cond.code_spec hnamed hcode
  cases hmethM.symm.trans hmethM'
  obtain ⟨c2, r2, m2, q1, q2, q3, q4, kP, hkP, hkPi⟩ := Cond.selects_spec hsel
  cases hcls.symm.trans q1
  cases (State.methodFound?_of_named hnamed hy).symm.trans q2
  cases hnamed.symm.trans q3
  have hselP : selectMethod e.platform s.vm cellB.cls mk = .method mk := by rw [Launch.admits_selectMethod X.admits]; exact q4
  obtain ⟨vm₁, X₁, hstep₁⟩ := X.invokevirtual hexec hown hlink hnamed hmethM hstM hkP hkPi hy (a := b) (cell := cellB) hcell
    (fun z h => by rw [h] at hobj; cases hobj) hselP hmethM habM hkP hkPi (g := g) hg (argsL := argsL) (rest := rest) (hlen _ hsigM) hstack hdg
  rcases hK m meth c ⟨T.setVm vm₁, locs, cells, slots⟩ { g with stack := rest } (.invokevirtual index) mk (Value.ref b :: argsL).toArray X₁ hg hsize hdg hW (X₁.named hnamed) (hpre vm₁ X₁.warmed) with ⟨v, B, X', hpost, hsteps⟩ | ⟨q, B, X', hpost, hsteps⟩
  · exact Or.inl ⟨v, vm₁, B, X₁.warmed, X', hpost, fun target h => hstep₁ _ fun acts => by rw [doInvoke_state]; exact hsteps.trans h⟩
  · exact Or.inr ⟨q, vm₁, B, X₁.warmed, X', hpost, hstep₁ _ fun acts => by rw [doInvoke_state]; exact hsteps⟩
theorem vx_callS (X : Stand p l e R s m args below meth c T locs cells slots) (hexec : p.tables.exec = Jvm.exec) {own : String} {index : Nat} {y : MethodName} {bytes : ByteArray} {maxL : Nat} {ret : Option FieldType}
    (hown : s.vm.findClass own = some m.cls) (hlink : (Cond.methodLink own index y).before args s = true) (hstat : (Cond.static y).before args s = true) (hinit : (Cond.initialized y.cls).before args s = true)
    (hcode : (Cond.code y bytes maxL ret).before args s = true) (hy : y.cls ≠ "java/lang/invoke/MethodHandle" ∧ y.cls ≠ "java/lang/invoke/VarHandle")
    {W9 : Nat} {Pre : Pt → Array Value → Prop} {Post : Pt → Array Value → Option Value → Pt → Prop} {PostX : Pt → Array Value → Addr → Pt → Prop} (hK : vx_Back l R p e below s args y 3 W9 Pre Post PostX)
    {g : JFrame} (hg : g.method = m) (hsize : g.locals.size = c.maxLocals) {argsL rest : List Value} (hlen : ∀ sig, parseMethodDescriptor y.desc = some sig → argsL.length = sig.parameters.length)
    (hstack : g.stack = argsL.reverse ++ rest) (hW : 2 * g.monitorRoom + (rest.map fun v => v.category).sum ≤ W9) (hdg : decode c.code g.pc = .ok (.invokestatic index, 3))
    (hpre : ∀ vm₁, s.WarmedH vm₁ → Pre ⟨T.setVm vm₁, locs, cells, slots⟩ argsL.toArray) :
    (∃ (v : Option Value) (vm₁ : Vm) (B : Pt), s.WarmedH vm₁ ∧ Stand p l e R s m args below meth c B.U B.locs B.cells B.slots ∧ Post ⟨T.setVm vm₁, locs, cells, slots⟩ argsL.toArray v B ∧
      ∀ target, Steps p.tables e below (B.U.setTop { g with pc := g.pc + 3, stack := v.toList ++ rest }) target → Steps p.tables e below (T.setTop g) target) ∨
    (∃ (q : Addr) (vm₁ : Vm) (B : Pt), s.WarmedH vm₁ ∧ Stand p l e R s m args below meth c B.U B.locs B.cells B.slots ∧ PostX ⟨T.setVm vm₁, locs, cells, slots⟩ argsL.toArray q B ∧
      Steps p.tables e below (T.setTop g) ((B.U.setTop { g with stack := rest }).pushFrame (.throwing q))) := by
  obtain ⟨mk, hnamed⟩ := Cond.code_named hcode
  obtain ⟨methM, cM, hmethM, -, -, -, -, -, -, hsigM⟩ := Cond.code_spec hnamed hcode
  have hstatic : methM.isStatic = true := Cond.static_spec hnamed hmethM hstat
  obtain ⟨kP, hkP, -⟩ := className_of_methodNamed hnamed
  have hinitP : kP.init = .initialized := Cond.initialized_spec (findClass_of_methodNamed hnamed) hkP hinit
  obtain ⟨vm₁, X₁, hstep₁⟩ := X.invokestatic hexec hown hlink hnamed hmethM hstatic hkP hinitP hy (g := g) hg (argsL := argsL) (rest := rest) (hlen _ hsigM) hstack hdg
  rcases hK m meth c ⟨T.setVm vm₁, locs, cells, slots⟩ { g with stack := rest } (.invokestatic index) mk argsL.toArray X₁ hg hsize hdg hW (X₁.named hnamed) (hpre vm₁ X₁.warmed) with ⟨v, B, X', hpost, hsteps⟩ | ⟨q, B, X', hpost, hsteps⟩
  · exact Or.inl ⟨v, vm₁, B, X₁.warmed, X', hpost, fun target h => hstep₁ _ fun acts => by rw [doInvoke_state]; exact hsteps.trans h⟩
  · exact Or.inr ⟨q, vm₁, B, X₁.warmed, X', hpost, hstep₁ _ fun acts => by rw [doInvoke_state]; exact hsteps⟩
end Calls
theorem vx_cls {s : State} {T : State} {vm₁ : Vm} {E : String} {k : ClassId} (hW : s.WarmedH vm₁) (h : (T.setVm vm₁).vm.findClass E = some k) : s.vm.findClass E = some k := by
  have h1 : vm₁.findClass E = some k := h
  rw [hW.alike.findClass] at h1
  exact h1
/-- the method's frame g, with q thrown over it -/
def vx_W (p : Program) (l : Launch) (e : Env) (R : Room) (s : State) (m : MethodId) (args : Array Value) (below : List Frame) (meth : Method) (c : Code) (H : Heap) (locs : List Loc) (cells slots : Nat) (Q : State → Prop) (g : JFrame) (q : Addr) : Prop :=
  ∀ T : State, T.heap = H → Stand p l e R s m args below meth c T locs cells slots → ∃ t, Steps p.tables e below ((T.setTop g).pushFrame (.throwing q)) t ∧ Q t
def vx_Run (p : Program) (l : Launch) (e : Env) (R : Room) (s : State) (m : MethodId) (args : Array Value) (below : List Frame) (meth : Method) (c : Code) (H : Heap) (locs : List Loc) (cells slots mc ms : Nat) (g : JFrame) (rest : List Value) (Qa : State → Outcome → State → Prop) (XC : String → State → State → Prop) (free : Addr → Prop) : Prop :=
  ∀ T : State, T.heap = H → Stand p l e R s m args below meth c T locs cells slots →
    (∃ (v : Option Value) (st₀ t T' : State) (L : List Loc), st₀.heap = H ∧ Stand p l e R s m args below meth c T' (locs ++ L) (cells + mc) (slots + ms) ∧ (∀ q ∈ L, free q.base) ∧ T'.heap = t.heap ∧ T'.vm = t.vm ∧ Qa st₀ (.returned v) t ∧
      Goes p e below T g T' { g with pc := g.pc + 3, stack := v.toList ++ rest }) ∨
    (∃ (q : Addr) (st₀ t T' : State) (L : List Loc) (E : String) (ce : Cell), st₀.heap = H ∧ Stand p l e R s m args below meth c T' (locs ++ L) (cells + mc) (slots + ms) ∧ (∀ z ∈ L, free z.base) ∧ T'.heap = t.heap ∧ T'.vm = t.vm ∧ XC E st₀ t ∧ t.heap[q]? = some ce ∧ ce.vm = .none ∧ s.vm.findClass E = some ce.cls ∧
      Steps p.tables e below (T.setTop g) ((T'.setTop { g with stack := rest }).pushFrame (.throwing q)))
def vx_X {S : Type} (px : S → Prop) (B : String → S → State → Prop) (A : Nat → Prop) : String → State → State → Prop := fun E st t => ∃ u : S, px u ∧ B E u t ∧ va_F A st t
section Runs
variable {p : Program} {l : Launch} {e : Env} {R : Room} {s : State} {m : MethodId} {args : Array Value} {below : List Frame} {meth : Method} {c : Code} {H : Heap} {locs : List Loc} {cells slots : Nat}
variable {y : MethodName} {bytes cc : ByteArray} {maxL nL mc ms n index : Nat} {ret : Option FieldType} {ws : List Cond} {rm : Room} {Pc : Array Value → State → Prop} {Qc : Array Value → State → Outcome → State → Prop} {XC : String → State → State → Prop} {free : Addr → Prop} {Ts : List Cond} {own C : String} {b : Addr} {As rest : List Value} {g : JFrame}
theorem vx_callBack (cb : CallB R s args own index y bytes maxL ret ws rm mc ms n) (hM : vx_Met l y ws rm Pc Qc XC mc ms free) (hbl : FrameBlind Pc) : vx_Back l R p e below s args y 3 8 (PreOf R mc ms Pc) (PostOf Qc mc ms free) (vx_Post XC mc ms free) := by
  obtain ⟨hrc, hrs, hfr, hlo, hws, hcw, -, hini, -⟩ := cb
  exact vx_back (bytes := bytes) (maxL := maxL) (ret := ret) hM hbl hrc hrs hfr hlo hws hcw (fun a' U hW => word_at hW (Or.inl (by first | rfl | simp [Cond.onTables, Cond.keeps, Cond.steady])) hini)
theorem vx_runV (S : CallFix p m c cc nL s args Ts own) (hM : vx_Met l y ws rm Pc Qc XC mc ms free) (cw : CallW R s args own C index y bytes maxL ret ws rm mc ms n) (hp : PreV s H C b Pc As)
    (hg : g.method = m) (hn : As.length = n) (hsize : g.locals.size = nL) (hstack : g.stack = As.reverse ++ .ref b :: rest) (hW : 2 * g.monitorRoom + (rest.map fun v => v.category).sum ≤ 8) (hdg : decode cc g.pc = .ok (.invokevirtual index, 3)) (hf : cells + mc ≤ R.cells ∧ slots + ms ≤ R.slots) :
    vx_Run p l e R s m args below meth c H locs cells slots mc ms g rest (Qc (Value.ref b :: As).toArray) XC free := by
  have hK : vx_Back l R p e below s args y 3 8 (PreOf R mc ms Pc) (PostOf Qc mc ms free) (vx_Post XC mc ms free) := vx_callBack cw.1 hM hp.1
  obtain ⟨⟨-, -, -, -, -, -, hcode, -, hy, hlen, hl⟩, hin, hse⟩ := cw
  obtain ⟨hx, hb, hml, ho, -⟩ := S
  obtain ⟨-, ⟨cellB, hcB, hoB, hclB⟩, hPc⟩ := hp
  intro T hT X
  rcases vx_callV X hx (C := C) (bytes := bytes) (maxL := maxL) (ret := ret) ho hl hin hse hcode hy hK (by rw [hT]; exact hcB) hoB hclB hg (hsize.trans hml.symm) (argsL := As) (rest := rest) (fun sig h => hn.trans (hlen sig h)) hstack hW (by rw [hb]; exact hdg)
    (fun vm₁ hW₁ => ⟨hf.1, hf.2, hPc (T.setVm vm₁) hT hW₁⟩) with ⟨v, vm₁, ⟨U', l2, c2, s2⟩, hW₁, X', ⟨g', mk, t, L, e1, e2, hq, h1, hL, h2, h3⟩, st⟩ | ⟨q, vm₁, ⟨U', l2, c2, s2⟩, hW₁, X', ⟨g', mk, t, L, E, ce, e1, e2, hq, hce, hcv, hcl, h1, hL, h2, h3⟩, st⟩
  · dsimp only [Pt.U, Pt.locs, Pt.cells, Pt.slots] at X' e1 e2 h1 h2 h3 st
    subst h1; subst h2; subst h3
    exact Or.inl ⟨v, (T.setVm vm₁).calling g' mk (Value.ref b :: As).toArray, t, U', L, hT, X', hL, e1, e2, hq, st⟩
  · dsimp only [Pt.U, Pt.locs, Pt.cells, Pt.slots] at X' e1 e2 h1 h2 h3 st hcl
    subst h1; subst h2; subst h3
    exact Or.inr ⟨q, (T.setVm vm₁).calling g' mk (Value.ref b :: As).toArray, t, U', L, E, ce, hT, X', hL, e1, e2, hq, hce, hcv, vx_cls hW₁ hcl, st⟩
theorem vx_runS (S : CallFix p m c cc nL s args Ts own) (hM : vx_Met l y ws rm Pc Qc XC mc ms free) (cw : CallB R s args own index y bytes maxL ret ws rm mc ms n ∧ (Cond.static y).before args s = true) (hp : PreS s H Pc As)
    (hg : g.method = m) (hn : As.length = n) (hsize : g.locals.size = nL) (hstack : g.stack = As.reverse ++ rest) (hW : 2 * g.monitorRoom + (rest.map fun v => v.category).sum ≤ 8) (hdg : decode cc g.pc = .ok (.invokestatic index, 3)) (hf : cells + mc ≤ R.cells ∧ slots + ms ≤ R.slots) :
    vx_Run p l e R s m args below meth c H locs cells slots mc ms g rest (Qc As.toArray) XC free := by
  have hK : vx_Back l R p e below s args y 3 8 (PreOf R mc ms Pc) (PostOf Qc mc ms free) (vx_Post XC mc ms free) := vx_callBack cw.1 hM hp.1
  obtain ⟨⟨-, -, -, -, -, -, hcode, hini, hy, hlen, hl⟩, hstt⟩ := cw
  obtain ⟨hx, hb, hml, ho, -⟩ := S
  intro T hT X
  rcases vx_callS X hx (bytes := bytes) (maxL := maxL) (ret := ret) ho hl hstt hini hcode hy hK hg (hsize.trans hml.symm) (argsL := As) (rest := rest) (fun sig h => hn.trans (hlen sig h)) hstack hW (by rw [hb]; exact hdg)
    (fun vm₁ hW₁ => ⟨hf.1, hf.2, hp.2 (T.setVm vm₁) hT hW₁⟩) with ⟨v, vm₁, ⟨U', l2, c2, s2⟩, hW₁, X', ⟨g', mk, t, L, e1, e2, hq, h1, hL, h2, h3⟩, st⟩ | ⟨q, vm₁, ⟨U', l2, c2, s2⟩, hW₁, X', ⟨g', mk, t, L, E, ce, e1, e2, hq, hce, hcv, hcl, h1, hL, h2, h3⟩, st⟩
  · dsimp only [Pt.U, Pt.locs, Pt.cells, Pt.slots] at X' e1 e2 h1 h2 h3 st
    subst h1; subst h2; subst h3
    exact Or.inl ⟨v, (T.setVm vm₁).calling g' mk As.toArray, t, U', L, hT, X', hL, e1, e2, hq, st⟩
  · dsimp only [Pt.U, Pt.locs, Pt.cells, Pt.slots] at X' e1 e2 h1 h2 h3 st hcl
    subst h1; subst h2; subst h3
    exact Or.inr ⟨q, (T.setVm vm₁).calling g' mk As.toArray, t, U', L, E, ce, hT, X', hL, e1, e2, hq, hce, hcv, vx_cls hW₁ hcl, st⟩
end Runs
section Rows
variable {p : Program} {l : Launch} {e : Env} {R : Room} {s : State} {m : MethodId} {args : Array Value} {below : List Frame} {meth : Method} {c : Code} {H : Heap} {locs : List Loc} {cells slots : Nat} {Q : State → Prop}
variable {mc ms : Nat} {free : Addr → Prop} {A0 A1 : Nat → Prop} {H0 : Heap} {a : Array Value} {pc : Nat} {ls : Array Slot} {st0 rest : List Value}
theorem vx_keep {st₀ t T' : State} {L : List Loc} (h0 : st₀.heap = H) (e1 : T'.heap = t.heap) (hS : va_S A0 H0 H locs) (hA : ∀ q, q < H.size → A1 q → A0 q) (hf : ∀ q, free q → A0 q) (hL : ∀ q ∈ L, free q.base) (hF : va_F A1 st₀ t) :
    H.size ≤ T'.heap.size ∧ (∀ q : Nat, q < H.size → ¬ A1 q → T'.heap[q]? = H[q]?) ∧ va_S A0 H0 T'.heap (locs ++ L) := by
  obtain ⟨hz, hk⟩ := hF
  rw [h0] at hz hk
  exact ⟨by rw [e1]; exact hz, fun q h1 h2 => by rw [e1]; exact hk q h1 h2,
    ⟨Nat.le_trans hS.1 (by rw [e1]; exact hz), fun q h1 h2 => by rw [e1, hk q (Nat.lt_of_lt_of_le h1 hS.1) (fun z => h2 (hA q (Nat.lt_of_lt_of_le h1 hS.1) z))]; exact hS.2.1 q h1 h2, fun q hq => by
      rcases List.mem_append.mp hq with h | h
      · exact hS.2.2 q h
      · exact hf _ (hL q h)⟩⟩
theorem vx_calli {S SX : Type} {post : Int32 → S → Prop} {px : SX → Prop} {B : S → State → Prop} {BX : String → SX → State → Prop} {AX : Nat → Prop} (hr : vx_Run p l e R s m args below meth c H locs cells slots mc ms (F0 m pc ls st0) rest (va_Qi post B A1 a) (vx_X px BX AX) free) (hS : va_S A0 H0 H locs) (hA : ∀ q, q < H.size → A1 q → A0 q) (hf : ∀ q, free q → A0 q) (hAX : ∀ q, q < H.size → AX q → A0 q)
    (kx : ∀ (E : String) (ce : Cell) (q9 : Addr) (u : SX) (t : State) (H1 : Heap) (locs1 : List Loc), t.heap = H1 → s.vm.Alike t.vm → px u → BX E u t → H.size ≤ H1.size → (∀ q : Nat, q < H.size → ¬ AX q → H1[q]? = H[q]?) → va_S A0 H0 H1 locs1 → H1[q9]? = some ce → ce.vm = .none → s.vm.findClass E = some ce.cls → vx_W p l e R s m args below meth c H1 locs1 (cells + mc) (slots + ms) Q (F0 m pc ls rest) q9)
    (kk : ∀ (r : Int32) (u : S) (t : State) (H1 : Heap) (locs1 : List Loc), t.heap = H1 → s.vm.Alike t.vm → post r u → B u t → H.size ≤ H1.size → (∀ q : Nat, q < H.size → ¬ A1 q → H1[q]? = H[q]?) → va_S A0 H0 H1 locs1 → W p l e R s m args below meth c H1 locs1 (cells + mc) (slots + ms) Q (F0 m (pc + 3) ls (.int r :: rest))) : W p l e R s m args below meth c H locs cells slots Q (F0 m pc ls st0) := by
  intro T hT X
  rcases hr T hT X with ⟨v, st₀, t, T', L, h0, X', hL, e1, e2, ⟨⟨r, u, hv, hp, hb⟩, hF⟩, st⟩ | ⟨q, st₀, t, T', L, E, ce, h0, X', hL, e1, e2, ⟨u, hp, hb, hF⟩, hce, hcv, hcl, st⟩
  · cases hv
    obtain ⟨k1, k2, k3⟩ := vx_keep h0 e1 hS hA hf hL hF
    obtain ⟨t2, a1, b1⟩ := kk r u t T'.heap (locs ++ L) e1.symm (by rw [← e2]; exact X'.warmed.alike) hp hb k1 k2 k3 T' rfl X'
    exact ⟨t2, st t2 a1, b1⟩
  · obtain ⟨k1, k2, k3⟩ := vx_keep h0 e1 hS hAX hf hL hF
    obtain ⟨t2, a1, b1⟩ := kx E ce q u t T'.heap (locs ++ L) e1.symm (by rw [← e2]; exact X'.warmed.alike) hp hb k1 k2 k3 (by rw [e1]; exact hce) hcv hcl T' rfl X'
    exact ⟨t2, st.trans a1, b1⟩
theorem vx_calll {S SX : Type} {post : Int64 → S → Prop} {px : SX → Prop} {B : S → State → Prop} {BX : String → SX → State → Prop} {AX : Nat → Prop} (hr : vx_Run p l e R s m args below meth c H locs cells slots mc ms (F0 m pc ls st0) rest (va_Ql post B A1 a) (vx_X px BX AX) free) (hS : va_S A0 H0 H locs) (hA : ∀ q, q < H.size → A1 q → A0 q) (hf : ∀ q, free q → A0 q) (hAX : ∀ q, q < H.size → AX q → A0 q)
    (kx : ∀ (E : String) (ce : Cell) (q9 : Addr) (u : SX) (t : State) (H1 : Heap) (locs1 : List Loc), t.heap = H1 → s.vm.Alike t.vm → px u → BX E u t → H.size ≤ H1.size → (∀ q : Nat, q < H.size → ¬ AX q → H1[q]? = H[q]?) → va_S A0 H0 H1 locs1 → H1[q9]? = some ce → ce.vm = .none → s.vm.findClass E = some ce.cls → vx_W p l e R s m args below meth c H1 locs1 (cells + mc) (slots + ms) Q (F0 m pc ls rest) q9)
    (kk : ∀ (r : Int64) (u : S) (t : State) (H1 : Heap) (locs1 : List Loc), t.heap = H1 → s.vm.Alike t.vm → post r u → B u t → H.size ≤ H1.size → (∀ q : Nat, q < H.size → ¬ A1 q → H1[q]? = H[q]?) → va_S A0 H0 H1 locs1 → W p l e R s m args below meth c H1 locs1 (cells + mc) (slots + ms) Q (F0 m (pc + 3) ls (.long r :: rest))) : W p l e R s m args below meth c H locs cells slots Q (F0 m pc ls st0) := by
  intro T hT X
  rcases hr T hT X with ⟨v, st₀, t, T', L, h0, X', hL, e1, e2, ⟨⟨r, u, hv, hp, hb⟩, hF⟩, st⟩ | ⟨q, st₀, t, T', L, E, ce, h0, X', hL, e1, e2, ⟨u, hp, hb, hF⟩, hce, hcv, hcl, st⟩
  · cases hv
    obtain ⟨k1, k2, k3⟩ := vx_keep h0 e1 hS hA hf hL hF
    obtain ⟨t2, a1, b1⟩ := kk r u t T'.heap (locs ++ L) e1.symm (by rw [← e2]; exact X'.warmed.alike) hp hb k1 k2 k3 T' rfl X'
    exact ⟨t2, st t2 a1, b1⟩
  · obtain ⟨k1, k2, k3⟩ := vx_keep h0 e1 hS hAX hf hL hF
    obtain ⟨t2, a1, b1⟩ := kx E ce q u t T'.heap (locs ++ L) e1.symm (by rw [← e2]; exact X'.warmed.alike) hp hb k1 k2 k3 (by rw [e1]; exact hce) hcv hcl T' rfl X'
    exact ⟨t2, st.trans a1, b1⟩
theorem vx_callf {S SX : Type} {post : UInt32 → S → Prop} {px : SX → Prop} {B : S → State → Prop} {BX : String → SX → State → Prop} {AX : Nat → Prop} (hr : vx_Run p l e R s m args below meth c H locs cells slots mc ms (F0 m pc ls st0) rest (va_Qf post B A1 a) (vx_X px BX AX) free) (hS : va_S A0 H0 H locs) (hA : ∀ q, q < H.size → A1 q → A0 q) (hf : ∀ q, free q → A0 q) (hAX : ∀ q, q < H.size → AX q → A0 q)
    (kx : ∀ (E : String) (ce : Cell) (q9 : Addr) (u : SX) (t : State) (H1 : Heap) (locs1 : List Loc), t.heap = H1 → s.vm.Alike t.vm → px u → BX E u t → H.size ≤ H1.size → (∀ q : Nat, q < H.size → ¬ AX q → H1[q]? = H[q]?) → va_S A0 H0 H1 locs1 → H1[q9]? = some ce → ce.vm = .none → s.vm.findClass E = some ce.cls → vx_W p l e R s m args below meth c H1 locs1 (cells + mc) (slots + ms) Q (F0 m pc ls rest) q9)
    (kk : ∀ (r : UInt32) (u : S) (t : State) (H1 : Heap) (locs1 : List Loc), t.heap = H1 → s.vm.Alike t.vm → post r u → B u t → H.size ≤ H1.size → (∀ q : Nat, q < H.size → ¬ A1 q → H1[q]? = H[q]?) → va_S A0 H0 H1 locs1 → W p l e R s m args below meth c H1 locs1 (cells + mc) (slots + ms) Q (F0 m (pc + 3) ls (.float r :: rest))) : W p l e R s m args below meth c H locs cells slots Q (F0 m pc ls st0) := by
  intro T hT X
  rcases hr T hT X with ⟨v, st₀, t, T', L, h0, X', hL, e1, e2, ⟨⟨r, u, hv, hp, hb⟩, hF⟩, st⟩ | ⟨q, st₀, t, T', L, E, ce, h0, X', hL, e1, e2, ⟨u, hp, hb, hF⟩, hce, hcv, hcl, st⟩
  · cases hv
    obtain ⟨k1, k2, k3⟩ := vx_keep h0 e1 hS hA hf hL hF
    obtain ⟨t2, a1, b1⟩ := kk r u t T'.heap (locs ++ L) e1.symm (by rw [← e2]; exact X'.warmed.alike) hp hb k1 k2 k3 T' rfl X'
    exact ⟨t2, st t2 a1, b1⟩
  · obtain ⟨k1, k2, k3⟩ := vx_keep h0 e1 hS hAX hf hL hF
    obtain ⟨t2, a1, b1⟩ := kx E ce q u t T'.heap (locs ++ L) e1.symm (by rw [← e2]; exact X'.warmed.alike) hp hb k1 k2 k3 (by rw [e1]; exact hce) hcv hcl T' rfl X'
    exact ⟨t2, st.trans a1, b1⟩
theorem vx_calld {S SX : Type} {post : UInt64 → S → Prop} {px : SX → Prop} {B : S → State → Prop} {BX : String → SX → State → Prop} {AX : Nat → Prop} (hr : vx_Run p l e R s m args below meth c H locs cells slots mc ms (F0 m pc ls st0) rest (va_Qd post B A1 a) (vx_X px BX AX) free) (hS : va_S A0 H0 H locs) (hA : ∀ q, q < H.size → A1 q → A0 q) (hf : ∀ q, free q → A0 q) (hAX : ∀ q, q < H.size → AX q → A0 q)
    (kx : ∀ (E : String) (ce : Cell) (q9 : Addr) (u : SX) (t : State) (H1 : Heap) (locs1 : List Loc), t.heap = H1 → s.vm.Alike t.vm → px u → BX E u t → H.size ≤ H1.size → (∀ q : Nat, q < H.size → ¬ AX q → H1[q]? = H[q]?) → va_S A0 H0 H1 locs1 → H1[q9]? = some ce → ce.vm = .none → s.vm.findClass E = some ce.cls → vx_W p l e R s m args below meth c H1 locs1 (cells + mc) (slots + ms) Q (F0 m pc ls rest) q9)
    (kk : ∀ (r : UInt64) (u : S) (t : State) (H1 : Heap) (locs1 : List Loc), t.heap = H1 → s.vm.Alike t.vm → post r u → B u t → H.size ≤ H1.size → (∀ q : Nat, q < H.size → ¬ A1 q → H1[q]? = H[q]?) → va_S A0 H0 H1 locs1 → W p l e R s m args below meth c H1 locs1 (cells + mc) (slots + ms) Q (F0 m (pc + 3) ls (.double r :: rest))) : W p l e R s m args below meth c H locs cells slots Q (F0 m pc ls st0) := by
  intro T hT X
  rcases hr T hT X with ⟨v, st₀, t, T', L, h0, X', hL, e1, e2, ⟨⟨r, u, hv, hp, hb⟩, hF⟩, st⟩ | ⟨q, st₀, t, T', L, E, ce, h0, X', hL, e1, e2, ⟨u, hp, hb, hF⟩, hce, hcv, hcl, st⟩
  · cases hv
    obtain ⟨k1, k2, k3⟩ := vx_keep h0 e1 hS hA hf hL hF
    obtain ⟨t2, a1, b1⟩ := kk r u t T'.heap (locs ++ L) e1.symm (by rw [← e2]; exact X'.warmed.alike) hp hb k1 k2 k3 T' rfl X'
    exact ⟨t2, st t2 a1, b1⟩
  · obtain ⟨k1, k2, k3⟩ := vx_keep h0 e1 hS hAX hf hL hF
    obtain ⟨t2, a1, b1⟩ := kx E ce q u t T'.heap (locs ++ L) e1.symm (by rw [← e2]; exact X'.warmed.alike) hp hb k1 k2 k3 (by rw [e1]; exact hce) hcv hcl T' rfl X'
    exact ⟨t2, st.trans a1, b1⟩
theorem vx_callv {S SX : Type} {post : S → Prop} {px : SX → Prop} {B : S → State → Prop} {BX : String → SX → State → Prop} {AX : Nat → Prop} (hr : vx_Run p l e R s m args below meth c H locs cells slots mc ms (F0 m pc ls st0) rest (va_Qv post B A1 a) (vx_X px BX AX) free) (hS : va_S A0 H0 H locs) (hA : ∀ q, q < H.size → A1 q → A0 q) (hf : ∀ q, free q → A0 q) (hAX : ∀ q, q < H.size → AX q → A0 q)
    (kx : ∀ (E : String) (ce : Cell) (q9 : Addr) (u : SX) (t : State) (H1 : Heap) (locs1 : List Loc), t.heap = H1 → s.vm.Alike t.vm → px u → BX E u t → H.size ≤ H1.size → (∀ q : Nat, q < H.size → ¬ AX q → H1[q]? = H[q]?) → va_S A0 H0 H1 locs1 → H1[q9]? = some ce → ce.vm = .none → s.vm.findClass E = some ce.cls → vx_W p l e R s m args below meth c H1 locs1 (cells + mc) (slots + ms) Q (F0 m pc ls rest) q9)
    (kk : ∀ (u : S) (t : State) (H1 : Heap) (locs1 : List Loc), t.heap = H1 → s.vm.Alike t.vm → post u → B u t → H.size ≤ H1.size → (∀ q : Nat, q < H.size → ¬ A1 q → H1[q]? = H[q]?) → va_S A0 H0 H1 locs1 → W p l e R s m args below meth c H1 locs1 (cells + mc) (slots + ms) Q (F0 m (pc + 3) ls (rest))) : W p l e R s m args below meth c H locs cells slots Q (F0 m pc ls st0) := by
  intro T hT X
  rcases hr T hT X with ⟨v, st₀, t, T', L, h0, X', hL, e1, e2, ⟨⟨u, hv, hp, hb⟩, hF⟩, st⟩ | ⟨q, st₀, t, T', L, E, ce, h0, X', hL, e1, e2, ⟨u, hp, hb, hF⟩, hce, hcv, hcl, st⟩
  · cases hv
    obtain ⟨k1, k2, k3⟩ := vx_keep h0 e1 hS hA hf hL hF
    obtain ⟨t2, a1, b1⟩ := kk u t T'.heap (locs ++ L) e1.symm (by rw [← e2]; exact X'.warmed.alike) hp hb k1 k2 k3 T' rfl X'
    exact ⟨t2, st t2 a1, b1⟩
  · obtain ⟨k1, k2, k3⟩ := vx_keep h0 e1 hS hAX hf hL hF
    obtain ⟨t2, a1, b1⟩ := kx E ce q u t T'.heap (locs ++ L) e1.symm (by rw [← e2]; exact X'.warmed.alike) hp hb k1 k2 k3 (by rw [e1]; exact hce) hcv hcl T' rfl X'
    exact ⟨t2, st.trans a1, b1⟩
/-- caught by the row x of this method's table; the rows ahead don't take it -/
theorem vx_catch {own name : String} {E : String} {ce : Cell} {q : Addr} (hown : s.vm.findClass own = some m.cls) (pre : List ExceptionTableEntry) (x : ExceptionTableEntry) (suf : List ExceptionTableEntry) (hsplit : c.exceptionTable.toList = pre ++ x :: suf)
    (hpass : ∀ z ∈ pre, covers z pc = false ∨ (z.catchType ≠ 0 ∧ ∃ nm : String, (Cond.classLink own z.catchType nm).before args s = true ∧ va_Nc E nm s)) (hx : covers x pc = true) (h0 : x.catchType ≠ 0)
    (hlink : (Cond.classLink own x.catchType name).before args s = true) (hcast : (Cond.castable E name).before args s = true) (hcell : H[q]? = some ce) (hv : ce.vm = .none) (hcl : s.vm.findClass E = some ce.cls)
    (kk : W p l e R s m args below meth c H locs cells slots Q (F0 m x.handlerPc ls [.ref q])) : vx_W p l e R s m args below meth c H locs cells slots Q (F0 m pc ls rest) q := by
  intro T hT X
  have hpl : e.platform.magicAccessors = ({} : Platform).magicAccessors := by rw [X.admits.platform]
  obtain ⟨c3, c4, hc3, hc4, hasg⟩ := Cond.castable_spec hcast
  cases Option.some.inj (hc3.symm.trans hcl)
  obtain ⟨c5, hc5, hcl5⟩ := Cond.classLink_spec hown hlink e.platform hpl
  cases Option.some.inj (hc4.symm.trans hc5)
  obtain ⟨vm', X', st⟩ := X.thenCaughtThrough q (g := F0 m pc ls rest) rfl (Steps.refl _) (by rw [hT]; exact hcell) (by rw [hv]; rfl) (by obtain ⟨k9, h9, -⟩ := Vm.findClass_spec hcl; exact ⟨k9, h9⟩) pre x suf hsplit
    (fun z hz => by
      rcases hpass z hz with h | ⟨hz0, nm, hl1, hn1⟩
      · exact Or.inl h
      · obtain ⟨c6, hc6, hcl6⟩ := Cond.classLink_spec hown hl1 e.platform hpl
        obtain ⟨a8, b8, h1, h2, h3⟩ := hn1
        cases Option.some.inj (h1.symm.trans hcl)
        cases Option.some.inj (h2.symm.trans hc6)
        exact Or.inr ⟨hz0, _, hcl6, h3⟩) hx (Or.inr ⟨h0, c4, hcl5, hasg⟩)
  obtain ⟨t, a1, b1⟩ := kk (T.setVm vm') hT X'
  exact ⟨t, st.trans a1, b1⟩
end Rows
section Ends
variable {p : Program} {l : Launch} {e : Env} {R : Room} {s : State} {m : MethodId} {args : Array Value} {below : List Frame} {meth : Method} {c : Code} {H : Heap} {locs : List Loc} {cells slots : Nat} {Q : State → Prop}
variable {mc ms : Nat} {free : Addr → Prop} {A0 A1 : Nat → Prop} {H0 : Heap} {a : Array Value} {ls : Array Slot} {st0 rest : List Value}
variable {Qc : Array Value → State → Outcome → State → Prop} {XC : String → State → State → Prop}
/-- what a body that may throw owes at its end -/
def vx_MQ (below : List Frame) (Qc : Array Value → State → Outcome → State → Prop) (XC : String → State → State → Prop) (a : Array Value) (s : State) (mc ms : Nat) (free : Addr → Prop) : State → Prop := fun t =>
  ∃ o, t.status = .running ∧ Ended t below o ∧ vx_Q Qc XC mc ms free a s o t
theorem vx_ret {g : JFrame} {mc ms : Nat} (k : W p l e R s m args below meth c H locs cells slots (MQ below Qc args s mc ms free) g) : W p l e R s m args below meth c H locs cells slots (vx_MQ below Qc XC args s mc ms free) g := by
  intro T hT X
  obtain ⟨t, a1, o, b1, b2, b3, b4⟩ := k T hT X
  exact ⟨t, a1, o, b1, b2, Or.inl ⟨b3, b4⟩⟩
/-- not caught here: it goes on to the caller -/
theorem vx_widen {g : JFrame} {q : Addr} {k n : Nat} (h1 : cells ≤ k) (h2 : slots ≤ n) (kk : vx_W p l e R s m args below meth c H locs k n Q g q) : vx_W p l e R s m args below meth c H locs cells slots Q g q := fun T hT X => kk T hT (stand_widen X h1 h2)
theorem vx_out {pc : Nat} {E : String} {ce : Cell} {q : Addr} {mc ms : Nat} (hout : ∀ x ∈ c.exceptionTable.toList, covers x pc = false) (hlocks : meth.locks = false) (hcell : H[q]? = some ce) (hv : ce.vm = .none) (hcl : s.vm.findClass E = some ce.cls)
    (hx : ∀ t : State, t.heap = H → s.vm.Alike t.vm → XC E s t) (hf : ∀ z ∈ locs, free z.base) (hc : cells ≤ mc) (hs : slots ≤ ms) :
    vx_W p l e R s m args below meth c H locs cells slots (vx_MQ below Qc XC args s mc ms free) (F0 m pc ls rest) q := by
  intro T hT X
  obtain ⟨st1, hrun, hend, hW, hsm⟩ := X.leaveThrown q (g := F0 m pc ls rest) rfl rfl rfl hout hlocks
  have hcell9 : (T.setFrames (.throwing q :: below)).heap[q]? = some ce := by
    show T.heap[q]? = some ce
    rw [hT]; exact hcell
  exact ⟨_, st1, .threw q, hrun, hend, Or.inr ⟨q, rfl, E, ce, locs, hx _ hT hW.alike, hcell9, hv, hcl, hW, hsm.mono hc hs, hf⟩⟩
theorem vx_frame {U : State} {k n : Nat} (h : s.sameButNew ({ U with vm := s.vm } : State) locs k n) : s.heap.size ≤ U.heap.size ∧ ∀ q : Nat, q < s.heap.size → (∀ z ∈ locs, z.base ≠ q) → U.heap[q]? = s.heap[q]? := by
  obtain ⟨-, h2, -, -, -, h6⟩ := h
  refine ⟨h2, fun q hq hz => ?_⟩
  obtain ⟨c9, e1, e2, e3, e4⟩ := h6 q _ (Array.getElem?_eq_getElem hq)
  have hs : c9.slots = (s.heap[q]).slots := Array.ext_getElem? fun i => e4 i fun hm => hz _ hm rfl
  have h9 : c9 = s.heap[q] := by
    rw [hs] at e2
    exact e2
  have e5 : U.heap[q]? = some c9 := e1
  rw [e5, h9, Array.getElem?_eq_getElem hq]
/-- the words of a throw but the four that speak of the heap -/
def vx_no (w : Cond) : Bool := decide (w ≠ .isRef (.static Bundle.tN "UNASSIGNED_STACK" Bundle.steD)) && decide (w ≠ .isRef (.static Bundle.tN "SUPPRESSED_SENTINEL" Bundle.listD)) && decide (w ≠ .laysStatic Bundle.tN "UNASSIGNED_STACK" Bundle.steD) && decide (w ≠ .laysStatic Bundle.tN "SUPPRESSED_SENTINEL" Bundle.listD)
def vx_at0 (own : String) (ic : Nat) (X : String) (names : List String) : List Cond := (Bundle.ownAtoms0 own ic X names).filter vx_no
def vx_atS (own : String) (ic : Nat) (X : String) (names : List String) : List Cond := (Bundle.ownAtoms own ic X names).filter vx_no
/-- a word that the tables alone decide, or a good one -/
def vx_ot (w : Cond) : Bool := w.onTables || goodWord w
theorem vx_ot_at {args a' : Array Value} {s U : State} {w : Cond} (hW : s.WarmedH U.vm) (hvm : s.vm = U.vm) (hg : vx_ot w = true) (h : w.before args s = true) : w.before a' U = true := by
  simp only [vx_ot, Bool.or_eq_true] at hg
  rcases hg with hg | hg
  · exact va_tabs hg hvm h
  · exact word_at hW (good_of_word hg) h
/-- a list's words: the good ones out of the method's own list, the others by premises of their own -/
theorem vx_hat {args : Array Value} {s : State} {L B : List Cond} (h1 : ∀ w ∈ L.filter goodWord, w.before args s = true) (h2 : ∀ w ∈ L.filter (fun w => !goodWord w), w ∈ B) (h3 : ∀ w ∈ B, w.before args s = true) : ∀ w ∈ L, w.before args s = true := by
  intro w hw
  by_cases g : goodWord w = true
  · exact h1 w (List.mem_filter.mpr ⟨hw, g⟩)
  · refine h3 w (h2 w (List.mem_filter.mpr ⟨hw, ?_⟩))
    show (!goodWord w) = true
    cases hgw : goodWord w
    · rfl
    · exact absurd hgw g
theorem vx_c {args : Array Value} {s : State} {w : Cond} {B : List Cond} (h : w.before args s = true) (t : ∀ w ∈ B, w.before args s = true) : ∀ w' ∈ w :: B, w'.before args s = true := fun w' h' => (List.mem_cons.mp h').elim (fun e => by rw [e]; exact h) (t w')
theorem vx_n {args : Array Value} {s : State} : ∀ w ∈ ([] : List Cond), w.before args s = true := fun _ h => nomatch h
theorem vx_own {args : Array Value} {s : State} {L : List Cond} (h1 : ∀ w ∈ L.filter vx_no, w.before args s = true)
    (hU : (Cond.isRef (.static Bundle.tN "UNASSIGNED_STACK" Bundle.steD)).before args s = true) (hN : (Cond.isRef (.static Bundle.tN "SUPPRESSED_SENTINEL" Bundle.listD)).before args s = true)
    (lU : (Cond.laysStatic Bundle.tN "UNASSIGNED_STACK" Bundle.steD).before args s = true) (lN : (Cond.laysStatic Bundle.tN "SUPPRESSED_SENTINEL" Bundle.listD).before args s = true) : ∀ w ∈ L, w.before args s = true := by
  intro w hw
  by_cases e1 : w = .isRef (.static Bundle.tN "UNASSIGNED_STACK" Bundle.steD)
  · rw [e1]; exact hU
  · by_cases e2 : w = .isRef (.static Bundle.tN "SUPPRESSED_SENTINEL" Bundle.listD)
    · rw [e2]; exact hN
    · by_cases e3 : w = .laysStatic Bundle.tN "UNASSIGNED_STACK" Bundle.steD
      · rw [e3]; exact lU
      · by_cases e4 : w = .laysStatic Bundle.tN "SUPPRESSED_SENTINEL" Bundle.listD
        · rw [e4]; exact lN
        · exact h1 w (List.mem_filter.mpr ⟨hw, by unfold vx_no; rw [decide_eq_true e1, decide_eq_true e2, decide_eq_true e3, decide_eq_true e4]; rfl⟩)
/-- where a static field lies, its class's statics cell in H -/
def vx_L (C n d : String) (A : Nat → Prop) (U : State) (H : Heap) : Prop := ∃ (c : ClassId) (k : Class) (i : Nat) (f : Field) (a : Nat) (cell : Cell), U.vm.findClass C = some c ∧ U.fieldFound? C n d = some (c, k, i, f) ∧ f.isStatic = true ∧ k.statics = some a ∧ H[a]? = some cell ∧ cell.vm.isStatics = true ∧ cell.cls = c ∧ f.slot < cell.slots.size ∧ k.staticTypes[f.slot]? = some f.type ∧ ¬ A a
theorem vx_L.moved {C n d : String} {A : Nat → Prop} {u U : State} {H : Heap} (hvm : u.vm.Alike U.vm) (h : vx_L C n d A u H) : vx_L C n d A U H := by
  obtain ⟨c, k, i, f, a, cell, h1, h2, h3, h4, h5, h6, h7, h8, h9, h10⟩ := h
  obtain ⟨k', hi', he⟩ := State.fieldFound?_setVm hvm h2
  exact ⟨c, k', i, f, a, cell, by rw [hvm.findClass]; exact h1, hi', h3, by rw [he]; exact h4, h5, h6, h7, h8, by rw [he]; exact h9, h10⟩
theorem vx_L.kept {C n d : String} {A : Nat → Prop} {U : State} {H H1 : Heap} (h : vx_L C n d A U H) (hq : ∀ a : Nat, a < H.size → ¬ A a → H1[a]? = H[a]?) : vx_L C n d A U H1 := by
  obtain ⟨c, k, i, f, a, cell, h1, h2, h3, h4, h5, h6, h7, h8, h9, h10⟩ := h
  exact ⟨c, k, i, f, a, cell, h1, h2, h3, h4, by rw [hq a (Array.getElem?_eq_some_iff.mp h5).1 h10]; exact h5, h6, h7, h8, h9, h10⟩
theorem vx_L.narrow {C n d : String} {A B : Nat → Prop} {U : State} {H : Heap} (h : vx_L C n d A U H) (hAB : ∀ q, B q → A q) : vx_L C n d B U H := by
  obtain ⟨c, k, i, f, a, cell, h1, h2, h3, h4, h5, h6, h7, h8, h9, h10⟩ := h
  exact ⟨c, k, i, f, a, cell, h1, h2, h3, h4, h5, h6, h7, h8, h9, fun z => h10 (hAB _ z)⟩
theorem vx_L.word {C n d : String} {A : Nat → Prop} {s : State} {args : Array Value} (h : vx_L C n d A s s.heap) : (Cond.laysStatic C n d).before args s = true := by
  obtain ⟨c, k, i, f, a, cell, h1, h2, h3, h4, h5, h6, h7, h8, h9, -⟩ := h
  show (Cond.laysStatic C n d).holds args s none s [] = true
  exact Cond.laysStatic_of h1 h2 h3 h4 h5 h6 h7 h8 h9
/-- .. and what it holds: null or some reference -/
def vx_Zq (C n d : String) (A : Nat → Prop) (U : State) (H : Heap) : Prop := va_Zq C n d A U H ∧ vx_L C n d A U H
theorem vx_Zq.moved {C n d : String} {A : Nat → Prop} {u U : State} {H : Heap} (hvm : u.vm.Alike U.vm) (h : vx_Zq C n d A u H) : vx_Zq C n d A U H := ⟨va_Zq.moved hvm h.1, vx_L.moved hvm h.2⟩
theorem vx_Zq.kept {C n d : String} {A : Nat → Prop} {U : State} {H H1 : Heap} (h : vx_Zq C n d A U H) (hq : ∀ a : Nat, a < H.size → ¬ A a → H1[a]? = H[a]?) : vx_Zq C n d A U H1 := ⟨va_Zq.kept h.1 hq, vx_L.kept h.2 hq⟩
theorem vx_Zq.narrow {C n d : String} {A B : Nat → Prop} {U : State} {H : Heap} (h : vx_Zq C n d A U H) (hAB : ∀ q, B q → A q) : vx_Zq C n d B U H := ⟨va_Zq.narrow h.1 hAB, vx_L.narrow h.2 hAB⟩
theorem vx_Zqof {args : Array Value} {s : State} {C n d : String} {A : Nat → Prop} (hl : (Cond.laysStatic C n d).before args s = true) (hini : (Cond.initialized C).before args s = true) (h : (Cond.isRef (.static C n d)).before args s = true) (hA : ∀ a : Nat, a < s.heap.size → ¬ A a) : vx_Zq C n d A s s.heap := by
  refine ⟨va_Zqof hl hini h hA, ?_⟩
  obtain ⟨c, k, i, f, a, cell, h1, h2, h3, h4, h5, h6, h7, h8, h9⟩ := Cond.laysStatic_spec hl
  exact ⟨c, k, i, f, a, cell, h1, h2, h3, h4, h5, h6, h7, h8, h9, hA a (Array.getElem?_eq_some_iff.mp h5).1⟩
theorem vx_isRef {C n d : String} {v : Value} {A : Nat → Prop} {s : State} {args : Array Value} (h : va_Z C n d v A s s.heap) (hv : v.isRef = true) : (Cond.isRef (.static C n d)).before args s = true := by
  obtain ⟨cf, kf, fi, f, a, cell, h1, h2, h3, h4, h5, h6, h7, -⟩ := h
  have he : (Term.static C n d).eval args s none [] s = some v := by
    simp [Term.eval, State.fieldNamed?, h1, h2, h4, h5, h6, h7]
  simp only [Cond.before, Cond.holds, Cond.value, he]
  cases v <;> simp_all [Value.isRef]
theorem vx_isRefq {C n d : String} {A : Nat → Prop} {s : State} {args : Array Value} (h : va_Zq C n d A s s.heap) : (Cond.isRef (.static C n d)).before args s = true := by
  rcases h with h | ⟨t, h⟩
  · exact vx_isRef h rfl
  · exact vx_isRef h rfl
/-- the same frame, seen from here: as if the method were called anew in this heap -/
theorem vx_rebase {T : State} (X : Stand p l e R s m args below meth c T locs cells slots) {R' : Room} (hf : R'.frames ≤ R.frames) (hl : R'.locals ≤ R.locals) (hc : cells + R'.cells ≤ R.cells) (hs : slots + R'.slots ≤ R.slots) :
    Stand p l e R' ((T.setVm s.vm).setFrames (.invoking m args :: below)) m args below meth c T [] 0 0 := by
  have htop : (T.setVm s.vm).topJava?.isSome := X.here.top
  have hF : ((T.setVm s.vm).setFrames (.invoking m args :: below)).frames = .invoking m args :: below := State.frames_setFrames _ (State.cur_lt_of_top htop)
  obtain ⟨g₀, hg0⟩ := Option.isSome_iff_exists.mp htop
  obtain ⟨r, hr⟩ := State.topJava?_eq_some.mp hg0
  have hl9 : e.platform.stackLimits (T.setVm s.vm).me = e.platform.stackLimits s.me := X.limits
  have hb9 : (T.setVm s.vm).me.stackBytes = s.me.stackBytes := X.bytes
  refine ⟨X.admits, X.cas, X.clock, hF, ?_, X.hears, X.method, X.code, X.here, X.tail, X.warmed, ?_, ?_, ?_⟩
  · have h := X.room
    have hU : ((T.setVm s.vm).setFrames (.invoking m args :: below)).localsInUse = s.localsInUse := by
      rw [State.localsInUse_invoking hF (meth := meth) (c := c) X.method X.code, State.localsInUse_invoking X.frames X.method X.code]
    simp only [State.hasRoom, Bool.and_eq_true, decide_eq_true_eq] at h ⊢
    obtain ⟨⟨⟨⟨h1, h2, h3, h4, h5, h6⟩, h7⟩, h8⟩, h9⟩ := h
    rw [X.frames, List.length_cons] at h2 h3
    have q1 := X.heapSize
    have q2 := X.used
    simp only [hF, hU, List.length_cons, State.stackLimits_setFrames, State.stackBytes_setFrames, hl9, hb9]
    refine ⟨⟨⟨⟨by omega, by omega, by omega, by omega, by omega, h6⟩, ?_⟩, ?_⟩, X.book⟩
    · show T.heap.size + R'.cells ≤ e.platform.maxCells
      omega
    · show T.slotsUsed + R'.slots ≤ e.platform.maxSlots
      omega
  · rw [State.stackLimits_setFrames]; rfl
  · rw [State.stackBytes_setFrames]; rfl
  · refine ⟨?_, Nat.le_refl _, Nat.le_refl _, ?_, ?_, fun a c9 h9 => ⟨c9, h9, rfl, rfl, fun _ _ => rfl⟩⟩
    · obtain ⟨t, ht, -⟩ := State.frames_cons hr
      show T.setVm s.vm = { ((T.setVm s.vm).setFrames (.invoking m args :: below)).setFrames (T.setVm s.vm).frames with heap := T.heap, slotsUsed := T.slotsUsed }
      rw [State.setFrames_setFrames, State.setFrames_self ht]
      rfl
    · show T.slotsUsed = T.slotsUsed + ((T.heap.toList.drop T.heap.size).map (·.slots.size)).sum
      rw [List.drop_eq_nil_of_le (Nat.le_of_eq Array.length_toList)]
      rfl
    · show ((T.heap.toList.drop T.heap.size).map (·.slots.size)).sum ≤ 0
      rw [List.drop_eq_nil_of_le (Nat.le_of_eq Array.length_toList)]
      exact Nat.le_refl _
/-- 'throw new E()': new; dup; invokespecial; athrow -/
theorem vx_throw0 {cc : ByteArray} {pc : Nat} (hexec : p.tables.exec = Jvm.exec) (hb : c.code = cc) (hl : l.stackTraces = false) {own cls : String} {names : List String} {ik ic mc ms : Nat} {A : Nat → Prop}
    (hown : s.vm.findClass own = some m.cls) (hcls : Bundle.fit cls = true) (hnames : ∀ n ∈ names, Bundle.fit n = true)
    (hk : (Cond.classLink own ik cls).before args s = true) (hini : (Cond.initialized cls).before args s = true) (hat : ∀ w ∈ vx_at0 own ic cls names, w.before args s = true)
    (hgood : ∀ w ∈ Cond.classLink own ik cls :: Cond.initialized cls :: vx_at0 own ic cls names, vx_ot w = true)
    (hU : vx_Zq Bundle.tN "UNASSIGNED_STACK" Bundle.steD A s s.heap) (hN : vx_Zq Bundle.tN "SUPPRESSED_SENTINEL" Bundle.listD A s s.heap) (hS : va_S A s.heap H locs) (hsize : ls.size = c.maxLocals)
    (d0 : decode cc pc = .ok (.new ik, 3)) (d3 : decode cc (pc + 3) = .ok (.dup, 1)) (d4 : decode cc (pc + 4) = .ok (.invokespecial ic, 3)) (d7 : decode cc (pc + 7) = .ok (.athrow, 1))
    (hout : ∀ x ∈ c.exceptionTable.toList, covers x (pc + 7) = false)
    (hRframes : names.length + 3 < R.frames) (hRlocals : (rest.map fun v => v.category).sum + (13 * (names.length + 1) + 42) ≤ R.locals) (hRcells : cells + 1 ≤ R.cells) (hRslots : slots + 6 ≤ R.slots) (hlocks : meth.locks = false)
    (hx : ∀ t : State, s.vm.Alike t.vm → H.size ≤ t.heap.size → (∀ q : Nat, q < H.size → t.heap[q]? = H[q]?) → XC cls s t)
    (hf : ∀ z ∈ locs, free z.base) (hc : cells + 1 ≤ mc) (hs : slots + 6 ≤ ms) :
    W p l e R s m args below meth c H locs cells slots (vx_MQ below Qc XC args s mc ms free) (F0 m pc ls rest) := by
  intro T hT X
  have htr : e.platform.stackTraces = false := (show e.platform.stackTraces = l.stackTraces by rw [X.admits.platform]).trans hl
  have Y := vx_rebase X (R' := { frames := R.frames, locals := R.locals, cells := 1, slots := 6 }) (Nat.le_refl _) (Nat.le_refl _) hRcells hRslots
  obtain ⟨s', hA⟩ : ∃ z, z = (T.setVm s.vm).setFrames (.invoking m args :: below) := ⟨_, rfl⟩
  rw [← hA] at Y
  have hvm : s'.vm = s.vm := by rw [hA]; rfl
  have hhp : s'.heap = H := by rw [hA]; exact hT
  have hW0 : s.WarmedH s'.vm := by rw [hvm]; exact State.WarmedH.refl s
  have hat' : ∀ w ∈ vx_at0 own ic cls names, w.before args s' = true := fun w hw => vx_ot_at hW0 hvm.symm (hgood w (List.mem_cons_of_mem _ (List.mem_cons_of_mem _ hw))) (hat w hw)
  have hk' : (Cond.classLink own ik cls).before args s' = true := vx_ot_at hW0 hvm.symm (hgood _ List.mem_cons_self) hk
  have hini' : (Cond.initialized cls).before args s' = true := vx_ot_at hW0 hvm.symm (hgood _ (List.mem_cons_of_mem _ List.mem_cons_self)) hini
  have hU' : vx_Zq Bundle.tN "UNASSIGNED_STACK" Bundle.steD A s' s'.heap := by rw [hhp]; exact vx_Zq.moved hW0.alike (hU.kept hS.2.1)
  have hN' : vx_Zq Bundle.tN "SUPPRESSED_SENTINEL" Bundle.listD A s' s'.heap := by rw [hhp]; exact vx_Zq.moved hW0.alike (hN.kept hS.2.1)
  have h : ∀ w ∈ Bundle.ownAtoms0 own ic cls names, w.before args s' = true := vx_own hat' (vx_isRefq hU'.1) (vx_isRefq hN'.1) hU'.2.word hN'.2.word
  have hown' : s'.vm.findClass own = some m.cls := by rw [hvm]; exact hown
  have hins : (Cond.instantiable cls 6).before args s' = true := h _ (by simp [Bundle.ownAtoms0])
  obtain ⟨vm₁, cX, kX, hfX, hkX, -, -, X₁, st1⟩ := Y.newCold hexec (own := own) (C := cls) (index := ik) (n := 6) hown' hk' hins hini'
    (g := F0 m pc ls rest) rfl (by rw [hb]; exact d0) (Nat.le_refl _) (Nat.le_refl _)
  generalize hT1 : (T.setVm vm₁).pushCell { cls := cX, slots := kX.instanceTypes.map defaultValue, vm := .none } = T1 at X₁ st1
  have hcat : (Value.ref T.heap.size).category = 1 := rfl
  have hcellA : T1.heap[T.heap.size]? = some (freshCell cX kX) := by rw [← hT1]; exact State.heap_pushCell_size _ _
  have d3' : decode c.code (pc + 3) = .ok (.dup, 1) := by rw [hb]; exact d3
  obtain ⟨U, hsteps, hrun, hend, hW, hsame, ce, hce, hO⟩ := X₁.ctorThrow0 hexec htr (own := own) (cls := cls) (names := names) (ic := ic) hown' hcls hnames h (fun x hx => nomatch hx) hfX hkX hcellA (by rw [hhp, hT]; exact Nat.le_refl _)
    (g := { method := m, pc := pc + 4, locals := ls, stack := .ref T.heap.size :: .ref T.heap.size :: rest, locked := none }) rfl hsize rfl rfl (rest := rest) rfl
    (by rw [hb]; exact d4) (by rw [hb]; exact d7) hout hRframes (by simp only [List.map_cons, List.sum_cons, hcat]; omega) hlocks
  obtain ⟨f1, f2⟩ := vx_frame hsame
  rw [hhp] at f1 f2
  have hWs : s.WarmedH U.vm := State.WarmedH.trans hW0 hW
  have hcl : s.vm.findClass cls = some ce.cls := by
    have h9 := hO.cls
    rw [hvm] at h9
    exact h9
  have hall : s.sameButNew ({ U with vm := s.vm } : State) locs mc ms := by
    subst hA
    obtain ⟨e1, e2⟩ := hsame
    rw [State.setFrames_setFrames] at e1
    have h2 : (T.setVm s.vm).sameButNew ({ U with vm := s.vm } : State) [] (0 + 1) (0 + 6) := ⟨e1, e2⟩
    have h3 := X.same.trans h2
    rw [List.append_nil] at h3
    exact h3.mono hc hs
  refine ⟨U, ?_, .threw T.heap.size, hrun, hend, Or.inr ⟨T.heap.size, rfl, cls, ce, locs, hx U hWs.alike f1 (fun q hq => f2 q hq (fun z hz => nomatch hz)), hce, hO.vm, hcl, hWs, hall, hf⟩⟩
  refine st1 _ ?_
  show Steps p.tables e below (T1.setTop { method := m, pc := pc + 3, locals := ls, stack := .ref T.heap.size :: rest, locked := none }) _
  jvm_step X₁.here [X₁.here.top, hexec, d3', Value.category]
  exact hsteps
/-- 'throw new E("text")': new; dup; ldc; invokespecial; athrow -/
theorem vx_throwS {cc : ByteArray} {pc : Nat} (hexec : p.tables.exec = Jvm.exec) (hb : c.code = cc) (hl : l.stackTraces = false) {own cls text : String} {names : List String} {ik is ic mc ms sa : Nat} {A : Nat → Prop}
    (hown : s.vm.findClass own = some m.cls) (hcls : Bundle.fit cls = true) (hnames : ∀ n ∈ names, Bundle.fit n = true)
    (hk : (Cond.classLink own ik cls).before args s = true) (hini : (Cond.initialized cls).before args s = true) (hstr : vk_R own is text sa s) (hat : ∀ w ∈ vx_atS own ic cls names, w.before args s = true)
    (hgood : ∀ w ∈ Cond.classLink own ik cls :: Cond.initialized cls :: vx_atS own ic cls names, vx_ot w = true)
    (hU : vx_Zq Bundle.tN "UNASSIGNED_STACK" Bundle.steD A s s.heap) (hN : vx_Zq Bundle.tN "SUPPRESSED_SENTINEL" Bundle.listD A s s.heap) (hS : va_S A s.heap H locs) (hsize : ls.size = c.maxLocals)
    (d0 : decode cc pc = .ok (.new ik, 3)) (d3 : decode cc (pc + 3) = .ok (.dup, 1)) (d4 : decode cc (pc + 4) = .ok (.ldc is, 2)) (d6 : decode cc (pc + 6) = .ok (.invokespecial ic, 3)) (d9 : decode cc (pc + 9) = .ok (.athrow, 1))
    (hout : ∀ x ∈ c.exceptionTable.toList, covers x (pc + 9) = false)
    (hRframes : names.length + 3 < R.frames) (hRlocals : (rest.map fun v => v.category).sum + (13 * (names.length + 1) + 43) ≤ R.locals) (hRcells : cells + 1 ≤ R.cells) (hRslots : slots + 6 ≤ R.slots) (hlocks : meth.locks = false)
    (hx : ∀ t : State, s.vm.Alike t.vm → H.size ≤ t.heap.size → (∀ q : Nat, q < H.size → t.heap[q]? = H[q]?) → XC cls s t)
    (hf : ∀ z ∈ locs, free z.base) (hc : cells + 1 ≤ mc) (hs : slots + 6 ≤ ms) :
    W p l e R s m args below meth c H locs cells slots (vx_MQ below Qc XC args s mc ms free) (F0 m pc ls rest) := by
  intro T hT X
  have htr : e.platform.stackTraces = false := (show e.platform.stackTraces = l.stackTraces by rw [X.admits.platform]).trans hl
  have Y := vx_rebase X (R' := { frames := R.frames, locals := R.locals, cells := 1, slots := 6 }) (Nat.le_refl _) (Nat.le_refl _) hRcells hRslots
  obtain ⟨s', hA⟩ : ∃ z, z = (T.setVm s.vm).setFrames (.invoking m args :: below) := ⟨_, rfl⟩
  rw [← hA] at Y
  have hvm : s'.vm = s.vm := by rw [hA]; rfl
  have hhp : s'.heap = H := by rw [hA]; exact hT
  have hW0 : s.WarmedH s'.vm := by rw [hvm]; exact State.WarmedH.refl s
  have hat' : ∀ w ∈ vx_atS own ic cls names, w.before args s' = true := fun w hw => vx_ot_at hW0 hvm.symm (hgood w (List.mem_cons_of_mem _ (List.mem_cons_of_mem _ hw))) (hat w hw)
  have hk' : (Cond.classLink own ik cls).before args s' = true := vx_ot_at hW0 hvm.symm (hgood _ List.mem_cons_self) hk
  have hini' : (Cond.initialized cls).before args s' = true := vx_ot_at hW0 hvm.symm (hgood _ (List.mem_cons_of_mem _ List.mem_cons_self)) hini
  have hU' : vx_Zq Bundle.tN "UNASSIGNED_STACK" Bundle.steD A s' s'.heap := by rw [hhp]; exact vx_Zq.moved hW0.alike (hU.kept hS.2.1)
  have hN' : vx_Zq Bundle.tN "SUPPRESSED_SENTINEL" Bundle.listD A s' s'.heap := by rw [hhp]; exact vx_Zq.moved hW0.alike (hN.kept hS.2.1)
  have h : ∀ w ∈ Bundle.ownAtoms own ic cls names, w.before args s' = true := vx_own hat' (vx_isRefq hU'.1) (vx_isRefq hN'.1) hU'.2.word hN'.2.word
  have hown' : s'.vm.findClass own = some m.cls := by rw [hvm]; exact hown
  have hins : (Cond.instantiable cls 6).before args s' = true := h _ (by simp [Bundle.ownAtoms])
  obtain ⟨vm₁, cX, kX, hfX, hkX, -, -, X₁, st1⟩ := Y.newCold hexec (own := own) (C := cls) (index := ik) (n := 6) hown' hk' hins hini'
    (g := F0 m pc ls rest) rfl (by rw [hb]; exact d0) (Nat.le_refl _) (Nat.le_refl _)
  generalize hT1 : (T.setVm vm₁).pushCell { cls := cX, slots := kX.instanceTypes.map defaultValue, vm := .none } = T1 at X₁ st1
  have hcat : (Value.ref T.heap.size).category = 1 := rfl
  have hcellA : T1.heap[T.heap.size]? = some (freshCell cX kX) := by rw [← hT1]; exact State.heap_pushCell_size _ _
  have d3' : decode c.code (pc + 3) = .ok (.dup, 1) := by rw [hb]; exact d3
  have d4' : decode c.code (pc + 4) = .ok (.ldc is, 2) := by rw [hb]; exact d4
  have hstr' : vk_R own is text sa s' := vk_R.warm hW0 hstr
  obtain ⟨U, hsteps, hrun, hend, hW, hsame, ce, hce, hO⟩ := X₁.ctorThrowS hexec htr (own := own) (cls := cls) (names := names) (ic := ic) hown' hcls hnames h (fun x hx => nomatch hx) hfX hkX hcellA (by rw [hhp, hT]; exact Nat.le_refl _) (msg := .ref sa) rfl
    (g := { method := m, pc := pc + 6, locals := ls, stack := .ref sa :: .ref T.heap.size :: .ref T.heap.size :: rest, locked := none }) rfl hsize rfl rfl (rest := rest) rfl
    (by rw [hb]; exact d6) (by rw [hb]; exact d9) hout hRframes (by simp only [List.map_cons, List.sum_cons, hcat]; omega) hlocks
  obtain ⟨f1, f2⟩ := vx_frame hsame
  rw [hhp] at f1 f2
  have hWs : s.WarmedH U.vm := State.WarmedH.trans hW0 hW
  have hcl : s.vm.findClass cls = some ce.cls := by
    have h9 := hO.cls
    rw [hvm] at h9
    exact h9
  have hall : s.sameButNew ({ U with vm := s.vm } : State) locs mc ms := by
    subst hA
    obtain ⟨e1, e2⟩ := hsame
    rw [State.setFrames_setFrames] at e1
    have h2 : (T.setVm s.vm).sameButNew ({ U with vm := s.vm } : State) [] (0 + 1) (0 + 6) := ⟨e1, e2⟩
    have h3 := X.same.trans h2
    rw [List.append_nil] at h3
    exact h3.mono hc hs
  refine ⟨U, ?_, .threw T.heap.size, hrun, hend, Or.inr ⟨T.heap.size, rfl, cls, ce, locs, hx U hWs.alike f1 (fun q hq => f2 q hq (fun z hz => nomatch hz)), hce, hO.vm, hcl, hWs, hall, hf⟩⟩
  refine st1 _ ?_
  show Steps p.tables e below (T1.setTop { method := m, pc := pc + 3, locals := ls, stack := .ref T.heap.size :: rest, locked := none }) _
  jvm_step X₁.here [X₁.here.top, hexec, d3', Value.category]
  exact X₁.ldcString hexec (own := own) (text := text) (index := is) (a := sa) hown' hstr'.1 hstr'.2
    (g := { method := m, pc := pc + 4, locals := ls, stack := .ref T.heap.size :: .ref T.heap.size :: rest, locked := none }) rfl d4' _ hsteps
/-- 'throw new E("text")', the text by a wide index -/
theorem vx_throwSW {cc : ByteArray} {pc : Nat} (hexec : p.tables.exec = Jvm.exec) (hb : c.code = cc) (hl : l.stackTraces = false) {own cls text : String} {names : List String} {ik is ic mc ms sa : Nat} {A : Nat → Prop}
    (hown : s.vm.findClass own = some m.cls) (hcls : Bundle.fit cls = true) (hnames : ∀ n ∈ names, Bundle.fit n = true)
    (hk : (Cond.classLink own ik cls).before args s = true) (hini : (Cond.initialized cls).before args s = true) (hstr : vk_R own is text sa s) (hat : ∀ w ∈ vx_atS own ic cls names, w.before args s = true)
    (hgood : ∀ w ∈ Cond.classLink own ik cls :: Cond.initialized cls :: vx_atS own ic cls names, vx_ot w = true)
    (hU : vx_Zq Bundle.tN "UNASSIGNED_STACK" Bundle.steD A s s.heap) (hN : vx_Zq Bundle.tN "SUPPRESSED_SENTINEL" Bundle.listD A s s.heap) (hS : va_S A s.heap H locs) (hsize : ls.size = c.maxLocals)
    (d0 : decode cc pc = .ok (.new ik, 3)) (d3 : decode cc (pc + 3) = .ok (.dup, 1)) (d4 : decode cc (pc + 4) = .ok (.ldc_w is, 3)) (d7 : decode cc (pc + 7) = .ok (.invokespecial ic, 3)) (d10 : decode cc (pc + 10) = .ok (.athrow, 1))
    (hout : ∀ x ∈ c.exceptionTable.toList, covers x (pc + 10) = false)
    (hRframes : names.length + 3 < R.frames) (hRlocals : (rest.map fun v => v.category).sum + (13 * (names.length + 1) + 43) ≤ R.locals) (hRcells : cells + 1 ≤ R.cells) (hRslots : slots + 6 ≤ R.slots) (hlocks : meth.locks = false)
    (hx : ∀ t : State, s.vm.Alike t.vm → H.size ≤ t.heap.size → (∀ q : Nat, q < H.size → t.heap[q]? = H[q]?) → XC cls s t)
    (hf : ∀ z ∈ locs, free z.base) (hc : cells + 1 ≤ mc) (hs : slots + 6 ≤ ms) :
    W p l e R s m args below meth c H locs cells slots (vx_MQ below Qc XC args s mc ms free) (F0 m pc ls rest) := by
  intro T hT X
  have htr : e.platform.stackTraces = false := (show e.platform.stackTraces = l.stackTraces by rw [X.admits.platform]).trans hl
  have Y := vx_rebase X (R' := { frames := R.frames, locals := R.locals, cells := 1, slots := 6 }) (Nat.le_refl _) (Nat.le_refl _) hRcells hRslots
  obtain ⟨s', hA⟩ : ∃ z, z = (T.setVm s.vm).setFrames (.invoking m args :: below) := ⟨_, rfl⟩
  rw [← hA] at Y
  have hvm : s'.vm = s.vm := by rw [hA]; rfl
  have hhp : s'.heap = H := by rw [hA]; exact hT
  have hW0 : s.WarmedH s'.vm := by rw [hvm]; exact State.WarmedH.refl s
  have hat' : ∀ w ∈ vx_atS own ic cls names, w.before args s' = true := fun w hw => vx_ot_at hW0 hvm.symm (hgood w (List.mem_cons_of_mem _ (List.mem_cons_of_mem _ hw))) (hat w hw)
  have hk' : (Cond.classLink own ik cls).before args s' = true := vx_ot_at hW0 hvm.symm (hgood _ List.mem_cons_self) hk
  have hini' : (Cond.initialized cls).before args s' = true := vx_ot_at hW0 hvm.symm (hgood _ (List.mem_cons_of_mem _ List.mem_cons_self)) hini
  have hU' : vx_Zq Bundle.tN "UNASSIGNED_STACK" Bundle.steD A s' s'.heap := by rw [hhp]; exact vx_Zq.moved hW0.alike (hU.kept hS.2.1)
  have hN' : vx_Zq Bundle.tN "SUPPRESSED_SENTINEL" Bundle.listD A s' s'.heap := by rw [hhp]; exact vx_Zq.moved hW0.alike (hN.kept hS.2.1)
  have h : ∀ w ∈ Bundle.ownAtoms own ic cls names, w.before args s' = true := vx_own hat' (vx_isRefq hU'.1) (vx_isRefq hN'.1) hU'.2.word hN'.2.word
  have hown' : s'.vm.findClass own = some m.cls := by rw [hvm]; exact hown
  have hins : (Cond.instantiable cls 6).before args s' = true := h _ (by simp [Bundle.ownAtoms])
  obtain ⟨vm₁, cX, kX, hfX, hkX, -, -, X₁, st1⟩ := Y.newCold hexec (own := own) (C := cls) (index := ik) (n := 6) hown' hk' hins hini'
    (g := F0 m pc ls rest) rfl (by rw [hb]; exact d0) (Nat.le_refl _) (Nat.le_refl _)
  generalize hT1 : (T.setVm vm₁).pushCell { cls := cX, slots := kX.instanceTypes.map defaultValue, vm := .none } = T1 at X₁ st1
  have hcat : (Value.ref T.heap.size).category = 1 := rfl
  have hcellA : T1.heap[T.heap.size]? = some (freshCell cX kX) := by rw [← hT1]; exact State.heap_pushCell_size _ _
  have d3' : decode c.code (pc + 3) = .ok (.dup, 1) := by rw [hb]; exact d3
  have d4' : decode c.code (pc + 4) = .ok (.ldc_w is, 3) := by rw [hb]; exact d4
  have hstr' : vk_R own is text sa s' := vk_R.warm hW0 hstr
  obtain ⟨U, hsteps, hrun, hend, hW, hsame, ce, hce, hO⟩ := X₁.ctorThrowS hexec htr (own := own) (cls := cls) (names := names) (ic := ic) hown' hcls hnames h (fun x hx => nomatch hx) hfX hkX hcellA (by rw [hhp, hT]; exact Nat.le_refl _) (msg := .ref sa) rfl
    (g := { method := m, pc := pc + 7, locals := ls, stack := .ref sa :: .ref T.heap.size :: .ref T.heap.size :: rest, locked := none }) rfl hsize rfl rfl (rest := rest) rfl
    (by rw [hb]; exact d7) (by rw [hb]; exact d10) hout hRframes (by simp only [List.map_cons, List.sum_cons, hcat]; omega) hlocks
  obtain ⟨f1, f2⟩ := vx_frame hsame
  rw [hhp] at f1 f2
  have hWs : s.WarmedH U.vm := State.WarmedH.trans hW0 hW
  have hcl : s.vm.findClass cls = some ce.cls := by
    have h9 := hO.cls
    rw [hvm] at h9
    exact h9
  have hall : s.sameButNew ({ U with vm := s.vm } : State) locs mc ms := by
    subst hA
    obtain ⟨e1, e2⟩ := hsame
    rw [State.setFrames_setFrames] at e1
    have h2 : (T.setVm s.vm).sameButNew ({ U with vm := s.vm } : State) [] (0 + 1) (0 + 6) := ⟨e1, e2⟩
    have h3 := X.same.trans h2
    rw [List.append_nil] at h3
    exact h3.mono hc hs
  refine ⟨U, ?_, .threw T.heap.size, hrun, hend, Or.inr ⟨T.heap.size, rfl, cls, ce, locs, hx U hWs.alike f1 (fun q hq => f2 q hq (fun z hz => nomatch hz)), hce, hO.vm, hcl, hWs, hall, hf⟩⟩
  refine st1 _ ?_
  show Steps p.tables e below (T1.setTop { method := m, pc := pc + 3, locals := ls, stack := .ref T.heap.size :: rest, locked := none }) _
  jvm_step X₁.here [X₁.here.top, hexec, d3', Value.category]
  exact X₁.ldcStringW hexec (own := own) (text := text) (index := is) (a := sa) hown' hstr'.1 hstr'.2
    (g := { method := m, pc := pc + 4, locals := ls, stack := .ref T.heap.size :: .ref T.heap.size :: rest, locked := none }) rfl d4' _ hsteps
end Ends
section Bodies
variable {l : Launch}
theorem vx_ofW {y : MethodName} {ws ws' : List Cond} {rm : Room} {Pc : Array Value → State → Prop} {Qc : Array Value → State → Outcome → State → Prop} {XC : String → State → State → Prop} {mc ms : Nat} {free : Addr → Prop} {cc : ByteArray} {maxL : Nat} {ret : Option FieldType}
    (hy : plainName y.cls = true) (hw : ws = Cond.code y cc maxL ret :: ws')
    (body : ∀ p e s m args below meth c s₁, BodyLoose p l y (headSpec ws rm) cc maxL ret e s m args below meth c s₁ → c.maxLocals = maxL → (∀ x ∈ c.exceptionTable.toList, False) → Pc args s →
      W p l e (headSpec ws rm).room s m args below meth c s.heap [] 0 0 (vx_MQ below Qc XC args s mc ms free) (entryFrame m args maxL)) : vx_Met l y ws rm Pc Qc XC mc ms free := by
  refine MetFree.of_bodyS (code := cc) (maxLocals := maxL) (ret := ret) hy ?_ ?_
  · intro args s m h hn
    obtain ⟨meth, c, h1, h2, h3, h4, h5, h6, -, -⟩ := Cond.code_spec hn (atoms_spec (ws := ws) h _ (by rw [hw]; exact List.mem_cons_self))
    exact ⟨meth, c, h1, h2, h3, h4, h5, h6⟩
  · intro p e s m args below meth c s₁ B hml hP _
    have hh0 : s₁.heap = s.heap := by rw [B.state]; rfl
    have ht : ∀ x ∈ c.exceptionTable.toList, False := by
      obtain ⟨meth9, c9, h1, h2, -, -, -, -, h7, -⟩ := Cond.code_spec B.named (atoms_spec (ws := ws) B.pre _ (by rw [hw]; exact List.mem_cons_self))
      cases Option.some.inj (h1.symm.trans B.method)
      cases Option.some.inj (h2.symm.trans (Stand.of_body B).code)
      intro x hx
      rw [Array.isEmpty_iff.mp h7] at hx
      cases hx
    obtain ⟨t, a1, o, b1, b2, b3⟩ := body p e s m args below meth c s₁ B hml ht hP s₁ hh0 (Stand.of_body B)
    exact ⟨t, o, a1, b1, b2, b3⟩
/-- the table of a body with handlers -/
theorem vx_table {p : Program} {x y : MethodName} {S : Spec} {cc bytes : ByteArray} {maxL maxL' : Nat} {ret ret' : Option FieldType} {e : Env} {s s₁ : State} {m : MethodId} {args : Array Value} {below : List Frame} {meth : Method} {c : Code} {hh : List (Nat × Nat × Nat × Nat)}
    (B : BodyLoose p l y S cc maxL ret e s m args below meth c s₁) (h : (Cond.codeWith y bytes maxL' ret' hh).before args s = true) : c.exceptionTable.toList = tableOf hh := by
  obtain ⟨m9, meth9, c9, hn9, h1, h2, -, -, h6, -⟩ := Cond.codeWith_spec h
  cases Option.some.inj (hn9.symm.trans B.named)
  cases Option.some.inj (h1.symm.trans B.method)
  cases Option.some.inj (h2.symm.trans (Stand.of_body B).code)
  rw [← h6, table_eq]
end Bodies
end VXA
/-! ===== END ===== -/
/-! ===== BEGIN a static call of a method with an exception table ===== -/
section VXS
variable {p : Program} {l : Launch} {e : Env} {R : Room} {s : State} {m : MethodId} {args : Array Value} {below : List Frame} {meth : Method} {c : Code} {T : State} {H : Heap} {locs : List Loc} {cells slots : Nat}
abbrev vx_CSW (R : Room) (s : State) (args : Array Value) (own : String) (index : Nat) (y : MethodName) (bytes : ByteArray) (maxL : Nat) (ret : Option FieldType) (hh : List (Nat × Nat × Nat × Nat)) (ws : List Cond) (rm : Room) (mc ms n : Nat) : Prop :=
  (rm.cells = mc ∧ rm.slots = ms ∧ rm.frames + 1 ≤ R.frames ∧ 8 + (maxL + 11) + rm.locals ≤ R.locals ∧ (∀ w ∈ ws, ∀ (a' : Array Value) (U : State), s.WarmedH U.vm → w.before a' U = true) ∧ Cond.codeWith y bytes maxL ret hh ∈ ws) ∧
  (Cond.codeWith y bytes maxL ret hh).before args s = true ∧ (Cond.initialized y.cls).before args s = true ∧ (y.cls ≠ "java/lang/invoke/MethodHandle" ∧ y.cls ≠ "java/lang/invoke/VarHandle") ∧
  (∀ sig, parseMethodDescriptor y.desc = some sig → n = sig.parameters.length) ∧ (Cond.methodLink own index y).before args s = true ∧ (Cond.static y).before args s = true
theorem vx_cwSW {own : String} {index maxL mc ms : Nat} {y : MethodName} {bytes : ByteArray} {ret : Option FieldType} {hh : List (Nat × Nat × Nat × Nat)} {Ts ws ws' : List Cond} {rm : Room} (n : Nat) (ht : ∀ w ∈ Ts, w.before args s = true) (hT : GoodIn Ts (va_wsS own index y ws)) (hw : ws = Cond.codeWith y bytes maxL ret hh :: ws') (hrc : rm.cells = mc) (hrs : rm.slots = ms)
    (hd : y.cls ≠ "java/lang/invoke/MethodHandle" ∧ y.cls ≠ "java/lang/invoke/VarHandle" ∧ (parseMethodDescriptor y.desc).map (fun d => d.parameters.length) = some n) (hR : rm.frames + 1 ≤ R.frames ∧ 8 + (maxL + 11) + rm.locals ≤ R.locals) :
    vx_CSW R s args own index y bytes maxL ret hh ws rm mc ms n := by
  have ok : ∀ w ∈ va_wsS own index y ws, w.before args s = true := fun w h => ht w (hT w h).1
  have hG : GoodIn Ts ws := fun w h => hT w (by unfold va_wsS; exact List.mem_append_right _ h)
  have hc : Cond.codeWith y bytes maxL ret hh ∈ ws := by rw [hw]; exact List.mem_cons_self
  refine ⟨⟨hrc, hrs, hR.1, hR.2, pay_in ht hG, hc⟩, ht _ (hG _ hc).1, ok _ (by simp [va_wsS]), ⟨hd.1, hd.2.1⟩, fun sig h => ?_, ok _ (by simp [va_wsS]), ok _ (by simp [va_wsS])⟩
  have h2 := hd.2.2
  rw [h] at h2
  exact (Option.some.inj h2).symm
theorem vx_callSW (X : Stand p l e R s m args below meth c T locs cells slots) (hexec : p.tables.exec = Jvm.exec) {own : String} {index : Nat} {y : MethodName} {bytes : ByteArray} {maxL : Nat} {ret : Option FieldType} {hh : List (Nat × Nat × Nat × Nat)}
    (hown : s.vm.findClass own = some m.cls) (hlink : (Cond.methodLink own index y).before args s = true) (hstat : (Cond.static y).before args s = true) (hinit : (Cond.initialized y.cls).before args s = true)
    (hcode : (Cond.codeWith y bytes maxL ret hh).before args s = true) (hy : y.cls ≠ "java/lang/invoke/MethodHandle" ∧ y.cls ≠ "java/lang/invoke/VarHandle")
    {W9 : Nat} {Pre : Pt → Array Value → Prop} {Post : Pt → Array Value → Option Value → Pt → Prop} (hK : Back l R p e below s args y 3 W9 Pre Post)
    {g : JFrame} (hg : g.method = m) (hsize : g.locals.size = c.maxLocals) {argsL rest : List Value} (hlen : ∀ sig, parseMethodDescriptor y.desc = some sig → argsL.length = sig.parameters.length)
    (hstack : g.stack = argsL.reverse ++ rest) (hW : 2 * g.monitorRoom + (rest.map fun v => v.category).sum ≤ W9) (hdg : decode c.code g.pc = .ok (.invokestatic index, 3))
    (hpre : ∀ vm₁, s.WarmedH vm₁ → Pre ⟨T.setVm vm₁, locs, cells, slots⟩ argsL.toArray) :
    ∃ (v : Option Value) (vm₁ : Vm) (B : Pt), s.WarmedH vm₁ ∧ Stand p l e R s m args below meth c B.U B.locs B.cells B.slots ∧ Post ⟨T.setVm vm₁, locs, cells, slots⟩ argsL.toArray v B ∧
      ∀ target, Steps p.tables e below (B.U.setTop { g with pc := g.pc + 3, stack := v.toList ++ rest }) target → Steps p.tables e below (T.setTop g) target := by
  obtain ⟨mk, methM, cM, hnamed, hmethM, -, -, -, -, -, -, hsigM⟩ := Cond.codeWith_spec hcode
  have hstatic : methM.isStatic = true := Cond.static_spec hnamed hmethM hstat
  obtain ⟨kP, hkP, -⟩ := className_of_methodNamed hnamed
  have hinitP : kP.init = .initialized := Cond.initialized_spec (findClass_of_methodNamed hnamed) hkP hinit
  obtain ⟨vm₁, X₁, hstep₁⟩ := X.invokestatic hexec hown hlink hnamed hmethM hstatic hkP hinitP hy (g := g) hg (argsL := argsL) (rest := rest) (hlen _ hsigM) hstack hdg
  obtain ⟨v, B, X', hpost, hsteps⟩ := hK m meth c ⟨T.setVm vm₁, locs, cells, slots⟩ { g with stack := rest } (.invokestatic index) mk argsL.toArray X₁ hg hsize hdg hW (X₁.named hnamed) (hpre vm₁ X₁.warmed)
  exact ⟨v, vm₁, B, X₁.warmed, X', hpost, fun target h => hstep₁ _ fun acts => by rw [doInvoke_state]; exact hsteps.trans h⟩
theorem vx_runSW {y : MethodName} {bytes cc : ByteArray} {maxL nL mc ms n index : Nat} {ret : Option FieldType} {hh : List (Nat × Nat × Nat × Nat)} {ws : List Cond} {rm : Room} {Pc : Array Value → State → Prop} {Qc : Array Value → State → Outcome → State → Prop} {free : Addr → Prop} {Ts : List Cond} {own : String} {As rest : List Value} {g : JFrame}
    (S : CallFix p m c cc nL s args Ts own) (hM : Met l y ws rm Pc Qc mc ms free) (cw : vx_CSW R s args own index y bytes maxL ret hh ws rm mc ms n) (hp : PreS s H Pc As)
    (hg : g.method = m) (hn : As.length = n) (hsize : g.locals.size = nL) (hstack : g.stack = As.reverse ++ rest) (hW : 2 * g.monitorRoom + (rest.map fun v => v.category).sum ≤ 8) (hdg : decode cc g.pc = .ok (.invokestatic index, 3)) (hf : cells + mc ≤ R.cells ∧ slots + ms ≤ R.slots) :
    va_Run p l e R s m args below meth c H locs cells slots mc ms g rest (Qc As.toArray) (free) := by
  obtain ⟨⟨hrc, hrs, hfr, hlo, hws, hcw⟩, hcode, hini, hy, hlen, hl, hstt⟩ := cw
  have hK : Back l R p e below s args y 3 8 (PreOf R mc ms Pc) (PostOf Qc mc ms free) := va_backW (hh := hh) (bytes := bytes) (maxL := maxL) (ret := ret) hM hp.1 hrc hrs hfr hlo hws hcw (fun a' U hW => word_at hW (Or.inl (by first | rfl | simp [Cond.onTables, Cond.keeps, Cond.steady])) hini)
  obtain ⟨hx, hb, hml, ho, -⟩ := S
  intro T hT X
  obtain ⟨v, vm₁, ⟨U', l2, c2, s2⟩, hW₁, X', ⟨g', mk, t, L, e1, e2, hq, h1, hL, h2, h3⟩, st⟩ := vx_callSW X hx (hh := hh) (bytes := bytes) (maxL := maxL) (ret := ret) ho hl hstt hini hcode hy hK hg (hsize.trans hml.symm) (argsL := As) (rest := rest) (fun sig h => hn.trans (hlen sig h)) hstack hW (by rw [hb]; exact hdg)
    (fun vm₁ hW₁ => ⟨hf.1, hf.2, hp.2 (T.setVm vm₁) hT hW₁⟩)
  dsimp only [Pt.U, Pt.locs, Pt.cells, Pt.slots] at X' e1 e2 h1 h2 h3 st
  subst h1; subst h2; subst h3
  exact ⟨v, (T.setVm vm₁).calling g' mk As.toArray, t, U', L, hT, X', hL, e1, e2, hq, st⟩
/-- a thing of a world lies in the heap -/
theorem vx_lt {D : va_G} {cl : List vw_C} {ws : va_W} {H1 : Heap} (h : va_P D cl ws H1) {k : Nat} {q : Nat × va_E} (hk : ws[k]? = some q) : q.1 < H1.size := (h k q hk).lt
end VXS
/-! ===== END ===== -/
/-! ===== BEGIN methods with a table of their own: called by a name, returning or throwing ===== -/
section VXH
/-! vx_backW, vx_callVX, vx_callSX, vx_callVW, vx_runVW, vx_runVX, vx_runSX, vx_ofWH follow the same proofs as their sisters above (Free/Laws.lean, Shelf42/LK1.lean); vx_outP calls Shelf42/NT130.lean (outThrough). -/
section
variable {l : Launch} {R : Room} {p : Program} {e : Env} {below : List Frame} {s : State} {sargs : Array Value} {y : MethodName} {len W9 : Nat}
theorem vx_backW {ws : List Cond} {rm : Room} {Pc : Array Value → State → Prop} {Qc : Array Value → State → Outcome → State → Prop} {XC : String → State → State → Prop} {mc ms : Nat} {free : Addr → Prop} {bytes : ByteArray} {maxL : Nat} {ret : Option FieldType} {hh : List (Nat × Nat × Nat × Nat)}
    (hM : vx_Met l y ws rm Pc Qc XC mc ms free) (hblind : FrameBlind Pc) (hrc : rm.cells = mc) (hrs : rm.slots = ms)
    (hframes : rm.frames + 1 ≤ R.frames) (hlocals : W9 + (maxL + 11) + rm.locals ≤ R.locals)
    (hws : ∀ w ∈ ws, ∀ a' U, s.WarmedH U.vm → w.before a' U = true) (hcode : Cond.codeWith y bytes maxL ret hh ∈ ws) (hinit : ∀ a' U, s.WarmedH U.vm → (Cond.initialized y.cls).before a' U = true) :
    vx_Back l R p e below s sargs y len W9 (PreOf R mc ms Pc) (PostOf Qc mc ms free) (vx_Post XC mc ms free) := by
  intro m meth c A g ig mk a X hg hsize hdg hW hn hp
  have h1 : (headSpec ws rm).pre.before a A.U = true := atoms_intro fun w hw => hws w hw _ _ X.warmed
  have h2 : (Cond.codeWith y bytes maxL ret hh).before a A.U = true := hws _ hcode _ _ X.warmed
  have h3 : (Cond.initialized y.cls).before a A.U = true := hinit _ _ X.warmed
  have h4 : A.cells + (headSpec ws rm).room.cells ≤ R.cells := by rw [show (headSpec ws rm).room.cells = mc from hrc]; exact hp.1
  have h5 : A.slots + (headSpec ws rm).room.slots ≤ R.slots := by rw [show (headSpec ws rm).room.slots = ms from hrs]; exact hp.2.1
  have hPc : Pc a (A.U.calling g mk a) := hblind _ _ _ _ hp.2.2
  obtain ⟨U, Ls, c0, s0⟩ := A
  dsimp only [Pt.U, Pt.locs, Pt.cells, Pt.slots] at h1 h2 h3 h4 h5 X hn hPc ⊢
  obtain ⟨m9, methY, cY, hn9, hmY, hcY, -, hlY, -⟩ := Cond.codeWith_spec h2
  cases Option.some.inj (hn9.symm.trans hn)
  obtain ⟨kY, hkY, -⟩ := className_of_methodNamed hn
  have hinitY : kY.init = .initialized := Cond.initialized_spec (findClass_of_methodNamed hn) hkY h3
  have h : At U g.method c below := by rw [hg]; exact X.here
  have hlocals9 : W9 + (maxL + 11) + (headSpec ws rm).room.locals ≤ R.locals := hlocals
  have happ : (headSpec ws rm).appliesLoose y e.platform (U.calling g mk a) = true :=
    Spec.appliesLoose_calling (g := g) h hdg hn hkY hinitY
      (X.room_calling (g := g) (R' := (headSpec ws rm).room) hsize hmY hcY hframes (by rw [hlY]; omega) h4 h5) h1
  obtain ⟨mid, hmid⟩ := h.above
  have hfr : (U.setTop g).frames = (.java g :: mid) ++ below := by rw [State.frames_setTop' g h.top, hmid]; rfl
  obtain ⟨o, s₂, hsteps, -, hend, hq⟩ := Steps.callFree hM p X.admits X.cas X.clock (acts := []) hfr happ hPc trivial
  have hq' : vx_Q Qc XC mc ms free a (U.calling g mk a) o s₂ := hq
  rw [State.frames_setTop' g h.top] at hend
  obtain ⟨g₀, hg0⟩ := Option.isSome_iff_exists.mp h.top
  obtain ⟨r, hr⟩ := State.topJava?_eq_some.mp hg0
  have hr' : (({ U with heap := s₂.heap, slotsUsed := s₂.slotsUsed } : State).setVm s₂.vm).frames = .java g₀ :: r := hr
  rcases hq' with ⟨hqc, L, hfe, hL⟩ | ⟨q, rfl, E, ce, L, hx, hce, hcv, hcl, hW₂, hsm, hL⟩
  · obtain ⟨⟨v, rfl⟩, hW₂, e2, q2, q3, q4, q5, q6⟩ := id hfe
    have e3 : s₂ = ({ (U.calling g mk a).setFrames s₂.frames with heap := s₂.heap, slotsUsed := s₂.slotsUsed } : State).setVm s₂.vm := by
      have : s₂ = ({ s₂ with vm := (U.calling g mk a).vm } : State).setVm s₂.vm := rfl
      rw [e2] at this
      exact this
    obtain ⟨c₂, i₂, len₂, hc₂, hd₂, hf₂⟩ := hend
    have hW' : U.WarmedH s₂.vm := hW₂
    have hcc : c₂ = c := by
      have h1 : s₂.code? g.method = U.code? g.method := by
        rw [State.code?_eq, State.code?_eq, hW'.alike.method?]
      exact Option.some.inj (hc₂.symm.trans (h1.trans h.code))
    subst hcc
    have hlen : len₂ = len := by rw [hdg] at hd₂; cases hd₂; rfl
    subst hlen
    have hs₂ : s₂ = (({ U with heap := s₂.heap, slotsUsed := s₂.slotsUsed } : State).setVm s₂.vm).setTop { g with pc := g.pc + len₂, stack := v.toList ++ g.stack } := by
      refine e3.trans ?_
      rw [hf₂, State.calling_eq h.top, State.setFrames_setFrames, State.setTop_of_frames _ hr', hr]
      rfl
    have hsame : U.sameButNew ({ U with heap := s₂.heap, slotsUsed := s₂.slotsUsed } : State) L mc ms := by
      refine ⟨?_, q2, q3, q4, q5, q6⟩
      obtain ⟨t, ht, -⟩ := State.frames_cons hr
      show ({ U with heap := s₂.heap, slotsUsed := s₂.slotsUsed } : State) = { U.setFrames U.frames with heap := s₂.heap, slotsUsed := s₂.slotsUsed }
      rw [State.setFrames_self ht]
    subst hg
    refine Or.inl ⟨v, ⟨(({ U with heap := s₂.heap, slotsUsed := s₂.slotsUsed } : State).setVm s₂.vm), Ls ++ L, c0 + mc, s0 + ms⟩,
      ⟨X.admits, X.cas, X.clock, X.frames, X.room, X.hears, X.method, X.code, (X.here.setHeapUsed s₂.heap s₂.slotsUsed).setVm hW'.alike, X.tail, State.WarmedH.trans X.warmed hW', X.limits, X.bytes, X.same.trans (hsame.setVm s.vm)⟩,
      ⟨g, mk, s₂, L, rfl, rfl, hqc, rfl, hL, rfl, rfl⟩, ?_⟩
    show Steps p.tables e below _ ((({ U with heap := s₂.heap, slotsUsed := s₂.slotsUsed } : State).setVm s₂.vm).setTop { g with pc := g.pc + len₂, stack := v.toList ++ g.stack })
    rw [← hs₂]
    exact hsteps
  · obtain ⟨e2, q2, q3, q4, q5, q6⟩ := id hsm
    have e3 : s₂ = ({ (U.calling g mk a).setFrames s₂.frames with heap := s₂.heap, slotsUsed := s₂.slotsUsed } : State).setVm s₂.vm := by
      have : s₂ = ({ s₂ with vm := (U.calling g mk a).vm } : State).setVm s₂.vm := rfl
      rw [e2] at this
      exact this
    have hf₂ : s₂.frames = .throwing q :: .java g :: U.frames.tail := hend
    have hW' : U.WarmedH s₂.vm := hW₂
    have hs₂ : s₂ = ((({ U with heap := s₂.heap, slotsUsed := s₂.slotsUsed } : State).setVm s₂.vm).setTop g).pushFrame (.throwing q) := by
      refine e3.trans ?_
      rw [hf₂, State.calling_eq h.top, State.setFrames_setFrames, State.pushFrame, State.frames_setTop _ hr', State.setTop_of_frames _ hr', State.setFrames_setFrames, hr]
      rfl
    have hsame : U.sameButNew ({ U with heap := s₂.heap, slotsUsed := s₂.slotsUsed } : State) L mc ms := by
      refine ⟨?_, q2, q3, q4, q5, q6⟩
      obtain ⟨t, ht, -⟩ := State.frames_cons hr
      show ({ U with heap := s₂.heap, slotsUsed := s₂.slotsUsed } : State) = { U.setFrames U.frames with heap := s₂.heap, slotsUsed := s₂.slotsUsed }
      rw [State.setFrames_self ht]
    subst hg
    refine Or.inr ⟨q, ⟨(({ U with heap := s₂.heap, slotsUsed := s₂.slotsUsed } : State).setVm s₂.vm), Ls ++ L, c0 + mc, s0 + ms⟩,
      ⟨X.admits, X.cas, X.clock, X.frames, X.room, X.hears, X.method, X.code, (X.here.setHeapUsed s₂.heap s₂.slotsUsed).setVm hW'.alike, X.tail, State.WarmedH.trans X.warmed hW', X.limits, X.bytes, X.same.trans (hsame.setVm s.vm)⟩,
      ⟨g, mk, s₂, L, E, ce, rfl, rfl, hx, hce, hcv, hcl, rfl, hL, rfl, rfl⟩, ?_⟩
    show Steps p.tables e below _ (((({ U with heap := s₂.heap, slotsUsed := s₂.slotsUsed } : State).setVm s₂.vm).setTop g).pushFrame (.throwing q))
    rw [← hs₂]
    exact hsteps
end
variable {p : Program} {l : Launch} {e : Env} {R : Room} {s : State} {m : MethodId} {args : Array Value} {below : List Frame} {meth : Method} {c : Code} {T : State} {H : Heap} {locs : List Loc} {cells slots : Nat}
theorem vx_callVX (X : Stand p l e R s m args below meth c T locs cells slots) (hexec : p.tables.exec = Jvm.exec) {own C : String} {index : Nat} {y : MethodName} {bytes : ByteArray} {maxL : Nat} {ret : Option FieldType} {hh : List (Nat × Nat × Nat × Nat)}
    (hown : s.vm.findClass own = some m.cls) (hlink : (Cond.methodLink own index y).before args s = true) (hinst : (Cond.instanceMethod y).before args s = true) (hsel : (Cond.selects C y y).before args s = true)
    (hcode : (Cond.codeWith y bytes maxL ret hh).before args s = true) (hy : y.cls ≠ "java/lang/invoke/MethodHandle" ∧ y.cls ≠ "java/lang/invoke/VarHandle")
    {W9 : Nat} {Pre : Pt → Array Value → Prop} {Post : Pt → Array Value → Option Value → Pt → Prop} {PostX : Pt → Array Value → Addr → Pt → Prop} (hK : vx_Back l R p e below s args y 3 W9 Pre Post PostX)
    {b : Addr} {cellB : Cell} (hcell : T.heap[b]? = some cellB) (hobj : cellB.vm.isStatics = false) (hcls : s.vm.findClass C = some cellB.cls)
    {g : JFrame} (hg : g.method = m) (hsize : g.locals.size = c.maxLocals) {argsL rest : List Value} (hlen : ∀ sig, parseMethodDescriptor y.desc = some sig → argsL.length = sig.parameters.length)
    (hstack : g.stack = argsL.reverse ++ .ref b :: rest) (hW : 2 * g.monitorRoom + (rest.map fun v => v.category).sum ≤ W9) (hdg : decode c.code g.pc = .ok (.invokevirtual index, 3))
    (hpre : ∀ vm₁, s.WarmedH vm₁ → Pre ⟨T.setVm vm₁, locs, cells, slots⟩ (Value.ref b :: argsL).toArray) :
    (∃ (v : Option Value) (vm₁ : Vm) (B : Pt), s.WarmedH vm₁ ∧ Stand p l e R s m args below meth c B.U B.locs B.cells B.slots ∧ Post ⟨T.setVm vm₁, locs, cells, slots⟩ (Value.ref b :: argsL).toArray v B ∧
      ∀ target, Steps p.tables e below (B.U.setTop { g with pc := g.pc + 3, stack := v.toList ++ rest }) target → Steps p.tables e below (T.setTop g) target) ∨
    (∃ (q : Addr) (vm₁ : Vm) (B : Pt), s.WarmedH vm₁ ∧ Stand p l e R s m args below meth c B.U B.locs B.cells B.slots ∧ PostX ⟨T.setVm vm₁, locs, cells, slots⟩ (Value.ref b :: argsL).toArray q B ∧
      Steps p.tables e below (T.setTop g) ((B.U.setTop { g with stack := rest }).pushFrame (.throwing q))) := by
  obtain ⟨mk, methM, hnamed, hmethM, hstM, habM⟩ := Cond.instanceMethod_spec hinst
  obtain ⟨m8, methM', cM, hn8, hmethM', -, -, -, -, -, -, hsigM⟩ := Cond.codeWith_spec hcode
  cases Option.some.inj (hn8.symm.trans hnamed)
  cases hmethM.symm.trans hmethM'
  obtain ⟨c2, r2, m2, q1, q2, q3, q4, kP, hkP, hkPi⟩ := Cond.selects_spec hsel
  cases hcls.symm.trans q1
  cases (State.methodFound?_of_named hnamed hy).symm.trans q2
  cases hnamed.symm.trans q3
  have hselP : selectMethod e.platform s.vm cellB.cls mk = .method mk := by rw [Launch.admits_selectMethod X.admits]; exact q4
  obtain ⟨vm₁, X₁, hstep₁⟩ := X.invokevirtual hexec hown hlink hnamed hmethM hstM hkP hkPi hy (a := b) (cell := cellB) hcell
    (fun z h => by rw [h] at hobj; cases hobj) hselP hmethM habM hkP hkPi (g := g) hg (argsL := argsL) (rest := rest) (hlen _ hsigM) hstack hdg
  rcases hK m meth c ⟨T.setVm vm₁, locs, cells, slots⟩ { g with stack := rest } (.invokevirtual index) mk (Value.ref b :: argsL).toArray X₁ hg hsize hdg hW (X₁.named hnamed) (hpre vm₁ X₁.warmed) with ⟨v, B, X', hpost, hsteps⟩ | ⟨q, B, X', hpost, hsteps⟩
  · exact Or.inl ⟨v, vm₁, B, X₁.warmed, X', hpost, fun target h => hstep₁ _ fun acts => by rw [doInvoke_state]; exact hsteps.trans h⟩
  · exact Or.inr ⟨q, vm₁, B, X₁.warmed, X', hpost, hstep₁ _ fun acts => by rw [doInvoke_state]; exact hsteps⟩
theorem vx_callSX (X : Stand p l e R s m args below meth c T locs cells slots) (hexec : p.tables.exec = Jvm.exec) {own : String} {index : Nat} {y : MethodName} {bytes : ByteArray} {maxL : Nat} {ret : Option FieldType} {hh : List (Nat × Nat × Nat × Nat)}
    (hown : s.vm.findClass own = some m.cls) (hlink : (Cond.methodLink own index y).before args s = true) (hstat : (Cond.static y).before args s = true) (hinit : (Cond.initialized y.cls).before args s = true)
    (hcode : (Cond.codeWith y bytes maxL ret hh).before args s = true) (hy : y.cls ≠ "java/lang/invoke/MethodHandle" ∧ y.cls ≠ "java/lang/invoke/VarHandle")
    {W9 : Nat} {Pre : Pt → Array Value → Prop} {Post : Pt → Array Value → Option Value → Pt → Prop} {PostX : Pt → Array Value → Addr → Pt → Prop} (hK : vx_Back l R p e below s args y 3 W9 Pre Post PostX)
    {g : JFrame} (hg : g.method = m) (hsize : g.locals.size = c.maxLocals) {argsL rest : List Value} (hlen : ∀ sig, parseMethodDescriptor y.desc = some sig → argsL.length = sig.parameters.length)
    (hstack : g.stack = argsL.reverse ++ rest) (hW : 2 * g.monitorRoom + (rest.map fun v => v.category).sum ≤ W9) (hdg : decode c.code g.pc = .ok (.invokestatic index, 3))
    (hpre : ∀ vm₁, s.WarmedH vm₁ → Pre ⟨T.setVm vm₁, locs, cells, slots⟩ argsL.toArray) :
    (∃ (v : Option Value) (vm₁ : Vm) (B : Pt), s.WarmedH vm₁ ∧ Stand p l e R s m args below meth c B.U B.locs B.cells B.slots ∧ Post ⟨T.setVm vm₁, locs, cells, slots⟩ argsL.toArray v B ∧
      ∀ target, Steps p.tables e below (B.U.setTop { g with pc := g.pc + 3, stack := v.toList ++ rest }) target → Steps p.tables e below (T.setTop g) target) ∨
    (∃ (q : Addr) (vm₁ : Vm) (B : Pt), s.WarmedH vm₁ ∧ Stand p l e R s m args below meth c B.U B.locs B.cells B.slots ∧ PostX ⟨T.setVm vm₁, locs, cells, slots⟩ argsL.toArray q B ∧
      Steps p.tables e below (T.setTop g) ((B.U.setTop { g with stack := rest }).pushFrame (.throwing q))) := by
  obtain ⟨mk, methM, cM, hnamed, hmethM, -, -, -, -, -, -, hsigM⟩ := Cond.codeWith_spec hcode
  have hstatic : methM.isStatic = true := Cond.static_spec hnamed hmethM hstat
  obtain ⟨kP, hkP, -⟩ := className_of_methodNamed hnamed
  have hinitP : kP.init = .initialized := Cond.initialized_spec (findClass_of_methodNamed hnamed) hkP hinit
  obtain ⟨vm₁, X₁, hstep₁⟩ := X.invokestatic hexec hown hlink hnamed hmethM hstatic hkP hinitP hy (g := g) hg (argsL := argsL) (rest := rest) (hlen _ hsigM) hstack hdg
  rcases hK m meth c ⟨T.setVm vm₁, locs, cells, slots⟩ { g with stack := rest } (.invokestatic index) mk argsL.toArray X₁ hg hsize hdg hW (X₁.named hnamed) (hpre vm₁ X₁.warmed) with ⟨v, B, X', hpost, hsteps⟩ | ⟨q, B, X', hpost, hsteps⟩
  · exact Or.inl ⟨v, vm₁, B, X₁.warmed, X', hpost, fun target h => hstep₁ _ fun acts => by rw [doInvoke_state]; exact hsteps.trans h⟩
  · exact Or.inr ⟨q, vm₁, B, X₁.warmed, X', hpost, hstep₁ _ fun acts => by rw [doInvoke_state]; exact hsteps⟩
theorem vx_callVW (X : Stand p l e R s m args below meth c T locs cells slots) (hexec : p.tables.exec = Jvm.exec) {own C : String} {index : Nat} {y : MethodName} {bytes : ByteArray} {maxL : Nat} {ret : Option FieldType} {hh : List (Nat × Nat × Nat × Nat)}
    (hown : s.vm.findClass own = some m.cls) (hlink : (Cond.methodLink own index y).before args s = true) (hinst : (Cond.instanceMethod y).before args s = true) (hsel : (Cond.selects C y y).before args s = true)
    (hcode : (Cond.codeWith y bytes maxL ret hh).before args s = true) (hy : y.cls ≠ "java/lang/invoke/MethodHandle" ∧ y.cls ≠ "java/lang/invoke/VarHandle")
    {W9 : Nat} {Pre : Pt → Array Value → Prop} {Post : Pt → Array Value → Option Value → Pt → Prop} (hK : Back l R p e below s args y 3 W9 Pre Post)
    {b : Addr} {cellB : Cell} (hcell : T.heap[b]? = some cellB) (hobj : cellB.vm.isStatics = false) (hcls : s.vm.findClass C = some cellB.cls)
    {g : JFrame} (hg : g.method = m) (hsize : g.locals.size = c.maxLocals) {argsL rest : List Value} (hlen : ∀ sig, parseMethodDescriptor y.desc = some sig → argsL.length = sig.parameters.length)
    (hstack : g.stack = argsL.reverse ++ .ref b :: rest) (hW : 2 * g.monitorRoom + (rest.map fun v => v.category).sum ≤ W9) (hdg : decode c.code g.pc = .ok (.invokevirtual index, 3))
    (hpre : ∀ vm₁, s.WarmedH vm₁ → Pre ⟨T.setVm vm₁, locs, cells, slots⟩ (Value.ref b :: argsL).toArray) :
    ∃ (v : Option Value) (vm₁ : Vm) (B : Pt), s.WarmedH vm₁ ∧ Stand p l e R s m args below meth c B.U B.locs B.cells B.slots ∧ Post ⟨T.setVm vm₁, locs, cells, slots⟩ (Value.ref b :: argsL).toArray v B ∧
      ∀ target, Steps p.tables e below (B.U.setTop { g with pc := g.pc + 3, stack := v.toList ++ rest }) target → Steps p.tables e below (T.setTop g) target := by
  obtain ⟨mk, methM, hnamed, hmethM, hstM, habM⟩ := Cond.instanceMethod_spec hinst
  obtain ⟨m8, methM', cM, hn8, hmethM', -, -, -, -, -, -, hsigM⟩ := Cond.codeWith_spec hcode
  cases Option.some.inj (hn8.symm.trans hnamed)
  cases hmethM.symm.trans hmethM'
  obtain ⟨c2, r2, m2, q1, q2, q3, q4, kP, hkP, hkPi⟩ := Cond.selects_spec hsel
  cases hcls.symm.trans q1
  cases (State.methodFound?_of_named hnamed hy).symm.trans q2
  cases hnamed.symm.trans q3
  have hselP : selectMethod e.platform s.vm cellB.cls mk = .method mk := by rw [Launch.admits_selectMethod X.admits]; exact q4
  obtain ⟨vm₁, X₁, hstep₁⟩ := X.invokevirtual hexec hown hlink hnamed hmethM hstM hkP hkPi hy (a := b) (cell := cellB) hcell
    (fun z h => by rw [h] at hobj; cases hobj) hselP hmethM habM hkP hkPi (g := g) hg (argsL := argsL) (rest := rest) (hlen _ hsigM) hstack hdg
  obtain ⟨v, B, X', hpost, hsteps⟩ := hK m meth c ⟨T.setVm vm₁, locs, cells, slots⟩ { g with stack := rest } (.invokevirtual index) mk (Value.ref b :: argsL).toArray X₁ hg hsize hdg hW (X₁.named hnamed) (hpre vm₁ X₁.warmed)
  exact ⟨v, vm₁, B, X₁.warmed, X', hpost, fun target h => hstep₁ _ fun acts => by rw [doInvoke_state]; exact hsteps.trans h⟩
abbrev vx_CVW (R : Room) (s : State) (args : Array Value) (own C : String) (index : Nat) (y : MethodName) (bytes : ByteArray) (maxL : Nat) (ret : Option FieldType) (hh : List (Nat × Nat × Nat × Nat)) (ws : List Cond) (rm : Room) (mc ms n : Nat) : Prop :=
  (rm.cells = mc ∧ rm.slots = ms ∧ rm.frames + 1 ≤ R.frames ∧ 8 + (maxL + 11) + rm.locals ≤ R.locals ∧ (∀ w ∈ ws, ∀ (a' : Array Value) (U : State), s.WarmedH U.vm → w.before a' U = true) ∧ Cond.codeWith y bytes maxL ret hh ∈ ws) ∧
  (Cond.codeWith y bytes maxL ret hh).before args s = true ∧ (Cond.initialized y.cls).before args s = true ∧ (y.cls ≠ "java/lang/invoke/MethodHandle" ∧ y.cls ≠ "java/lang/invoke/VarHandle") ∧
  (∀ sig, parseMethodDescriptor y.desc = some sig → n = sig.parameters.length) ∧ (Cond.methodLink own index y).before args s = true ∧ (Cond.instanceMethod y).before args s = true ∧ (Cond.selects C y y).before args s = true
theorem vx_cwVW {own C : String} {index maxL mc ms : Nat} {y : MethodName} {bytes : ByteArray} {ret : Option FieldType} {hh : List (Nat × Nat × Nat × Nat)} {Ts ws ws' : List Cond} {rm : Room} (n : Nat) (ht : ∀ w ∈ Ts, w.before args s = true) (hT : GoodIn Ts (wsV own index C y ws)) (hw : ws = Cond.codeWith y bytes maxL ret hh :: ws') (hrc : rm.cells = mc) (hrs : rm.slots = ms)
    (hd : y.cls = C ∧ y.cls ≠ "java/lang/invoke/MethodHandle" ∧ y.cls ≠ "java/lang/invoke/VarHandle" ∧ (parseMethodDescriptor y.desc).map (fun d => d.parameters.length) = some n) (hR : rm.frames + 1 ≤ R.frames ∧ 8 + (maxL + 11) + rm.locals ≤ R.locals) :
    vx_CVW R s args own C index y bytes maxL ret hh ws rm mc ms n := by
  obtain ⟨hC, hd⟩ := hd
  subst hC
  have ok : ∀ w ∈ wsV own index y.cls y ws, w.before args s = true := fun w h => ht w (hT w h).1
  have hG : GoodIn Ts ws := fun w h => hT w (by unfold wsV; exact List.mem_append_right _ h)
  have hc : Cond.codeWith y bytes maxL ret hh ∈ ws := by rw [hw]; exact List.mem_cons_self
  refine ⟨⟨hrc, hrs, hR.1, hR.2, pay_in ht hG, hc⟩, ht _ (hG _ hc).1, ok _ (by simp [wsV]), ⟨hd.1, hd.2.1⟩, fun sig h => ?_, ok _ (by simp [wsV]), ok _ (by simp [wsV]), ok _ (by simp [wsV])⟩
  have h2 := hd.2.2
  rw [h] at h2
  exact (Option.some.inj h2).symm
theorem vx_runVW {y : MethodName} {bytes cc : ByteArray} {maxL nL mc ms n index : Nat} {ret : Option FieldType} {hh : List (Nat × Nat × Nat × Nat)} {ws : List Cond} {rm : Room} {Pc : Array Value → State → Prop} {Qc : Array Value → State → Outcome → State → Prop} {free : Addr → Prop} {Ts : List Cond} {own C : String} {b : Addr} {As rest : List Value} {g : JFrame}
    (S : CallFix p m c cc nL s args Ts own) (hM : Met l y ws rm Pc Qc mc ms free) (cw : vx_CVW R s args own C index y bytes maxL ret hh ws rm mc ms n) (hp : PreV s H C b Pc As)
    (hg : g.method = m) (hn : As.length = n) (hsize : g.locals.size = nL) (hstack : g.stack = As.reverse ++ .ref b :: rest) (hW : 2 * g.monitorRoom + (rest.map fun v => v.category).sum ≤ 8) (hdg : decode cc g.pc = .ok (.invokevirtual index, 3)) (hf : cells + mc ≤ R.cells ∧ slots + ms ≤ R.slots) :
    va_Run p l e R s m args below meth c H locs cells slots mc ms g rest (Qc (Value.ref b :: As).toArray) free := by
  obtain ⟨⟨hrc, hrs, hfr, hlo, hws, hcw⟩, hcode, hini, hy, hlen, hl, hin, hse⟩ := cw
  have hK : Back l R p e below s args y 3 8 (PreOf R mc ms Pc) (PostOf Qc mc ms free) := va_backW (hh := hh) (bytes := bytes) (maxL := maxL) (ret := ret) hM hp.1 hrc hrs hfr hlo hws hcw (fun a' U hW => word_at hW (Or.inl (by first | rfl | simp [Cond.onTables, Cond.keeps, Cond.steady])) hini)
  obtain ⟨hx, hb, hml, ho, -⟩ := S
  obtain ⟨-, ⟨cellB, hcB, hoB, hclB⟩, hPc⟩ := hp
  intro T hT X
  obtain ⟨v, vm₁, ⟨U', l2, c2, s2⟩, hW₁, X', ⟨g', mk, t, L, e1, e2, hq, h1, hL, h2, h3⟩, st⟩ := vx_callVW X hx (C := C) (hh := hh) (bytes := bytes) (maxL := maxL) (ret := ret) ho hl hin hse hcode hy hK (by rw [hT]; exact hcB) hoB hclB hg (hsize.trans hml.symm) (argsL := As) (rest := rest) (fun sig h => hn.trans (hlen sig h)) hstack hW (by rw [hb]; exact hdg)
    (fun vm₁ hW₁ => ⟨hf.1, hf.2, hPc (T.setVm vm₁) hT hW₁⟩)
  dsimp only [Pt.U, Pt.locs, Pt.cells, Pt.slots] at X' e1 e2 h1 h2 h3 st
  subst h1; subst h2; subst h3
  exact ⟨v, (T.setVm vm₁).calling g' mk (Value.ref b :: As).toArray, t, U', L, hT, X', hL, e1, e2, hq, st⟩
section
variable {y : MethodName} {bytes cc : ByteArray} {maxL nL mc ms n index : Nat} {ret : Option FieldType} {ws : List Cond} {rm : Room} {Pc : Array Value → State → Prop} {Qc : Array Value → State → Outcome → State → Prop} {XC : String → State → State → Prop} {free : Addr → Prop} {Ts : List Cond} {own C : String} {b : Addr} {As rest : List Value} {g : JFrame}
theorem vx_runVX {hh : List (Nat × Nat × Nat × Nat)} (S : CallFix p m c cc nL s args Ts own) (hM : vx_Met l y ws rm Pc Qc XC mc ms free) (cw : vx_CVW R s args own C index y bytes maxL ret hh ws rm mc ms n) (hp : PreV s H C b Pc As)
    (hg : g.method = m) (hn : As.length = n) (hsize : g.locals.size = nL) (hstack : g.stack = As.reverse ++ .ref b :: rest) (hW : 2 * g.monitorRoom + (rest.map fun v => v.category).sum ≤ 8) (hdg : decode cc g.pc = .ok (.invokevirtual index, 3)) (hf : cells + mc ≤ R.cells ∧ slots + ms ≤ R.slots) :
    vx_Run p l e R s m args below meth c H locs cells slots mc ms g rest (Qc (Value.ref b :: As).toArray) XC free := by
  obtain ⟨⟨hrc, hrs, hfr, hlo, hws, hcw⟩, hcode, hini, hy, hlen, hl, hin, hse⟩ := cw
  have hK : vx_Back l R p e below s args y 3 8 (PreOf R mc ms Pc) (PostOf Qc mc ms free) (vx_Post XC mc ms free) := vx_backW (hh := hh) (bytes := bytes) (maxL := maxL) (ret := ret) hM hp.1 hrc hrs hfr hlo hws hcw (fun a' U hW => word_at hW (Or.inl (by first | rfl | simp [Cond.onTables, Cond.keeps, Cond.steady])) hini)
  obtain ⟨hx, hb, hml, ho, -⟩ := S
  obtain ⟨-, ⟨cellB, hcB, hoB, hclB⟩, hPc⟩ := hp
  intro T hT X
  rcases vx_callVX X hx (C := C) (hh := hh) (bytes := bytes) (maxL := maxL) (ret := ret) ho hl hin hse hcode hy hK (by rw [hT]; exact hcB) hoB hclB hg (hsize.trans hml.symm) (argsL := As) (rest := rest) (fun sig h => hn.trans (hlen sig h)) hstack hW (by rw [hb]; exact hdg)
    (fun vm₁ hW₁ => ⟨hf.1, hf.2, hPc (T.setVm vm₁) hT hW₁⟩) with ⟨v, vm₁, ⟨U', l2, c2, s2⟩, hW₁, X', ⟨g', mk, t, L, e1, e2, hq, h1, hL, h2, h3⟩, st⟩ | ⟨q, vm₁, ⟨U', l2, c2, s2⟩, hW₁, X', ⟨g', mk, t, L, E, ce, e1, e2, hq, hce, hcv, hcl, h1, hL, h2, h3⟩, st⟩
  · dsimp only [Pt.U, Pt.locs, Pt.cells, Pt.slots] at X' e1 e2 h1 h2 h3 st
    subst h1; subst h2; subst h3
    exact Or.inl ⟨v, (T.setVm vm₁).calling g' mk (Value.ref b :: As).toArray, t, U', L, hT, X', hL, e1, e2, hq, st⟩
  · dsimp only [Pt.U, Pt.locs, Pt.cells, Pt.slots] at X' e1 e2 h1 h2 h3 st hcl
    subst h1; subst h2; subst h3
    exact Or.inr ⟨q, (T.setVm vm₁).calling g' mk (Value.ref b :: As).toArray, t, U', L, E, ce, hT, X', hL, e1, e2, hq, hce, hcv, vx_cls hW₁ hcl, st⟩
theorem vx_runSX {hh : List (Nat × Nat × Nat × Nat)} (S : CallFix p m c cc nL s args Ts own) (hM : vx_Met l y ws rm Pc Qc XC mc ms free) (cw : vx_CSW R s args own index y bytes maxL ret hh ws rm mc ms n) (hp : PreS s H Pc As)
    (hg : g.method = m) (hn : As.length = n) (hsize : g.locals.size = nL) (hstack : g.stack = As.reverse ++ rest) (hW : 2 * g.monitorRoom + (rest.map fun v => v.category).sum ≤ 8) (hdg : decode cc g.pc = .ok (.invokestatic index, 3)) (hf : cells + mc ≤ R.cells ∧ slots + ms ≤ R.slots) :
    vx_Run p l e R s m args below meth c H locs cells slots mc ms g rest (Qc As.toArray) XC free := by
  obtain ⟨⟨hrc, hrs, hfr, hlo, hws, hcw⟩, hcode, hini, hy, hlen, hl, hstt⟩ := cw
  have hK : vx_Back l R p e below s args y 3 8 (PreOf R mc ms Pc) (PostOf Qc mc ms free) (vx_Post XC mc ms free) := vx_backW (hh := hh) (bytes := bytes) (maxL := maxL) (ret := ret) hM hp.1 hrc hrs hfr hlo hws hcw (fun a' U hW => word_at hW (Or.inl (by first | rfl | simp [Cond.onTables, Cond.keeps, Cond.steady])) hini)
  obtain ⟨hx, hb, hml, ho, -⟩ := S
  intro T hT X
  rcases vx_callSX X hx (hh := hh) (bytes := bytes) (maxL := maxL) (ret := ret) ho hl hstt hini hcode hy hK hg (hsize.trans hml.symm) (argsL := As) (rest := rest) (fun sig h => hn.trans (hlen sig h)) hstack hW (by rw [hb]; exact hdg)
    (fun vm₁ hW₁ => ⟨hf.1, hf.2, hp.2 (T.setVm vm₁) hT hW₁⟩) with ⟨v, vm₁, ⟨U', l2, c2, s2⟩, hW₁, X', ⟨g', mk, t, L, e1, e2, hq, h1, hL, h2, h3⟩, st⟩ | ⟨q, vm₁, ⟨U', l2, c2, s2⟩, hW₁, X', ⟨g', mk, t, L, E, ce, e1, e2, hq, hce, hcv, hcl, h1, hL, h2, h3⟩, st⟩
  · dsimp only [Pt.U, Pt.locs, Pt.cells, Pt.slots] at X' e1 e2 h1 h2 h3 st
    subst h1; subst h2; subst h3
    exact Or.inl ⟨v, (T.setVm vm₁).calling g' mk As.toArray, t, U', L, hT, X', hL, e1, e2, hq, st⟩
  · dsimp only [Pt.U, Pt.locs, Pt.cells, Pt.slots] at X' e1 e2 h1 h2 h3 st hcl
    subst h1; subst h2; subst h3
    exact Or.inr ⟨q, (T.setVm vm₁).calling g' mk As.toArray, t, U', L, E, ce, hT, X', hL, e1, e2, hq, hce, hcv, vx_cls hW₁ hcl, st⟩
end
end VXH
theorem vx_ofWH {l : Launch} {y : MethodName} {ws ws' : List Cond} {rm : Room} {Pc : Array Value → State → Prop} {Qc : Array Value → State → Outcome → State → Prop} {XC : String → State → State → Prop} {mc ms : Nat} {free : Addr → Prop} {cc : ByteArray} {maxL : Nat} {ret : Option FieldType} {hh : List (Nat × Nat × Nat × Nat)}
    (hy : plainName y.cls = true) (hw : ws = Cond.codeWith y cc maxL ret hh :: ws')
    (body : ∀ p e s m args below meth c s₁, BodyLoose p l y (headSpec ws rm) cc maxL ret e s m args below meth c s₁ → c.maxLocals = maxL → Pc args s →
      W p l e (headSpec ws rm).room s m args below meth c s.heap [] 0 0 (vx_MQ below Qc XC args s mc ms free) (entryFrame m args maxL)) : vx_Met l y ws rm Pc Qc XC mc ms free := by
  refine MetFree.of_bodyS (code := cc) (maxLocals := maxL) (ret := ret) hy ?_ ?_
  · intro args s m h hn
    obtain ⟨m9, meth, c, hn9, h1, h2, h3, h4, -, h5, h6, -⟩ := Cond.codeWith_spec (atoms_spec (ws := ws) h _ (by rw [hw]; exact List.mem_cons_self))
    cases hn.symm.trans hn9
    exact ⟨meth, c, h1, h2, h3, h4, h5, h6⟩
  · intro p e s m args below meth c s₁ B hml hP _
    have hh0 : s₁.heap = s.heap := by rw [B.state]; rfl
    obtain ⟨t, a1, o, b1, b2, b3⟩ := body p e s m args below meth c s₁ B hml hP s₁ hh0 (Stand.of_body B)
    exact ⟨t, o, a1, b1, b2, b3⟩
/-! ===== END ===== -/
end
section
def RX0 : String := "PenPage$Checker"
def TX0 : u_T := fun k => match k with
  | 0 => ("PenPage$Checker", "seen", "[I", true)
  | 1 => ("PenPage$Checker", "moved", "[I", true)
  | 2 => ("PenPage$Checker", "bytes", "[I", false)
  | 3 => ("PenPage$Checker", "length", "I", false)
  | 4 => ("PenPage$Checker", "at", "I", false)
  | 5 => ("PenPage$Checker", "writerCount", "I", false)
  | 6 => ("PenPage$Checker", "fault", "I", false)
  | _ => ("PenPage$Checker", "place", "I", false)
def tyX0 : Nat → FieldType := fun k => match k with
  | 0 => .array .int
  | 1 => .array .int
  | 2 => .array .int
  | 3 => .int
  | 4 => .int
  | 5 => .int
  | 6 => .int
  | _ => .int
abbrev wsX00 : List Cond := u_ws RX0 TX0 8
theorem nmX0 : ∀ a, a < 8 → ∀ b, b < 8 → a ≠ b → (TX0 a).2.1 ≠ (TX0 b).2.1 := by decide +kernel
theorem tyX0_ok : ∀ k, k < 8 → parseFieldDescriptor (TX0 k).2.2.1 = some (tyX0 k) := by decide +kernel
abbrev cX0_init : ByteArray := prog_2_method_1_code
def yX0_init : MethodName := ⟨RX0, "<init>", "()V"⟩
abbrev cX0_check : ByteArray := prog_2_method_2_code
def yX0_check : MethodName := ⟨RX0, "check", "([III)I"⟩
abbrev cX0_fail : ByteArray := prog_2_method_3_code
def yX0_fail : MethodName := ⟨RX0, "fail", "(II)V"⟩
abbrev cX0_read : ByteArray := prog_2_method_4_code
def yX0_read : MethodName := ⟨RX0, "read", "()I"⟩
abbrev cX0_take : ByteArray := prog_2_method_5_code
def yX0_take : MethodName := ⟨RX0, "take", "(II)I"⟩
abbrev cX0_takePair : ByteArray := prog_2_method_6_code
def yX0_takePair : MethodName := ⟨RX0, "takePair", "(II)V"⟩
abbrev cX0_takeSeen : ByteArray := prog_2_method_7_code
def yX0_takeSeen : MethodName := ⟨RX0, "takeSeen", "(III)I"⟩
abbrev cX0_takeBody : ByteArray := prog_2_method_8_code
def yX0_takeBody : MethodName := ⟨RX0, "takeBody", "(II)V"⟩
abbrev cX0_takeMoved : ByteArray := prog_2_method_9_code
def yX0_takeMoved : MethodName := ⟨RX0, "takeMoved", "()V"⟩
abbrev cX0_takeMark : ByteArray := prog_2_method_10_code
def yX0_takeMark : MethodName := ⟨RX0, "takeMark", "()I"⟩
abbrev cX0_takeKey : ByteArray := prog_2_method_11_code
def yX0_takeKey : MethodName := ⟨RX0, "takeKey", "()V"⟩
abbrev cX0_takeSum : ByteArray := prog_2_method_12_code
def yX0_takeSum : MethodName := ⟨RX0, "takeSum", "()V"⟩
def RX1 : String := "PenPage$NewKey"
def TX1 : u_T := fun k => match k with
  | 0 => ("PenPage$NewKey", "low", "[I", true)
  | 1 => ("PenPage$NewKey", "high", "[I", true)
  | 2 => ("PenPage$NewKey", "lowLength", "I", false)
  | _ => ("PenPage$NewKey", "highLength", "I", false)
def tyX1 : Nat → FieldType := fun k => match k with
  | 0 => .array .int
  | 1 => .array .int
  | 2 => .int
  | _ => .int
abbrev wsX10 : List Cond := u_ws RX1 TX1 4
theorem nmX1 : ∀ a, a < 4 → ∀ b, b < 4 → a ≠ b → (TX1 a).2.1 ≠ (TX1 b).2.1 := by decide +kernel
theorem tyX1_ok : ∀ k, k < 4 → parseFieldDescriptor (TX1 k).2.2.1 = some (tyX1 k) := by decide +kernel
abbrev cX1_init : ByteArray := prog_3_method_1_code
def yX1_init : MethodName := ⟨RX1, "<init>", "()V"⟩
abbrev cX1_aim : ByteArray := prog_3_method_2_code
def yX1_aim : MethodName := ⟨RX1, "aim", "(LPenPage$View;I)V"⟩
abbrev cX1_grow : ByteArray := prog_3_method_3_code
def yX1_grow : MethodName := ⟨RX1, "grow", "(I)Z"⟩
abbrev cX1_load : ByteArray := prog_3_method_4_code
def yX1_load : MethodName := ⟨RX1, "load", "([ILPenPage$View;I)I"⟩
abbrev cX1_behindLike : ByteArray := prog_3_method_5_code
def yX1_behindLike : MethodName := ⟨RX1, "behindLike", "(LPenPage$View;I)I"⟩
def RX2 : String := "PenPage$Packer"
def TX2 : u_T := fun k => match k with
  | 0 => ("PenPage$Packer", "bytes", "[I", true)
  | _ => ("PenPage$Packer", "length", "I", false)
def tyX2 : Nat → FieldType := fun k => match k with
  | 0 => .array .int
  | _ => .int
abbrev wsX20 : List Cond := u_ws RX2 TX2 2
theorem nmX2 : ∀ a, a < 2 → ∀ b, b < 2 → a ≠ b → (TX2 a).2.1 ≠ (TX2 b).2.1 := by decide +kernel
theorem tyX2_ok : ∀ k, k < 2 → parseFieldDescriptor (TX2 k).2.2.1 = some (tyX2 k) := by decide +kernel
abbrev cX2_init : ByteArray := prog_4_method_1_code
def yX2_init : MethodName := ⟨RX2, "<init>", "()V"⟩
abbrev cX2_begin : ByteArray := prog_4_method_2_code
def yX2_begin : MethodName := ⟨RX2, "begin", "(ILPenPage$Page;)V"⟩
abbrev cX2_put : ByteArray := prog_4_method_3_code
def yX2_put : MethodName := ⟨RX2, "put", "(I)V"⟩
abbrev cX2_putPair : ByteArray := prog_4_method_4_code
def yX2_putPair : MethodName := ⟨RX2, "putPair", "(I)V"⟩
abbrev cX2_putMark : ByteArray := prog_4_method_5_code
def yX2_putMark : MethodName := ⟨RX2, "putMark", "(I)V"⟩
abbrev cX2_putKey : ByteArray := prog_4_method_6_code
def yX2_putKey : MethodName := ⟨RX2, "putKey", "(LPenPage$NewKey;)V"⟩
abbrev cX2_finish : ByteArray := prog_4_method_7_code
def yX2_finish : MethodName := ⟨RX2, "finish", "()LPenPage$Step;"⟩
def RX3 : String := "PenPage$Page"
def TX3 : u_T := fun k => match k with
  | 0 => ("PenPage$Page", "owner", "I", true)
  | 1 => ("PenPage$Page", "steps", "[LPenPage$Step;", true)
  | 2 => ("PenPage$Page", "counts", "[I", true)
  | 3 => ("PenPage$Page", "held", "[LPenPage$Step;", true)
  | 4 => ("PenPage$Page", "heldCount", "I", false)
  | _ => ("PenPage$Page", "greatestAge", "I", false)
def tyX3 : Nat → FieldType := fun k => match k with
  | 0 => .int
  | 1 => .array (.object "PenPage$Step")
  | 2 => .array .int
  | 3 => .array (.object "PenPage$Step")
  | 4 => .int
  | _ => .int
abbrev wsX30 : List Cond := u_ws RX3 TX3 6
theorem nmX3 : ∀ a, a < 6 → ∀ b, b < 6 → a ≠ b → (TX3 a).2.1 ≠ (TX3 b).2.1 := by decide +kernel
theorem tyX3_ok : ∀ k, k < 6 → parseFieldDescriptor (TX3 k).2.2.1 = some (tyX3 k) := by decide +kernel
abbrev cX3_init : ByteArray := prog_5_method_1_code
def yX3_init : MethodName := ⟨RX3, "<init>", "(I)V"⟩
abbrev cX3_empty : ByteArray := prog_5_method_2_code
def yX3_empty : MethodName := ⟨RX3, "empty", "()V"⟩
abbrev cX3_copy : ByteArray := prog_5_method_3_code
def yX3_copy : MethodName := ⟨RX3, "copy", "(LPenPage$Page;)V"⟩
abbrev cX3_stepsOf : ByteArray := prog_5_method_4_code
def yX3_stepsOf : MethodName := ⟨RX3, "stepsOf", "(I)I"⟩
abbrev cX3_stepOf : ByteArray := prog_5_method_5_code
def yX3_stepOf : MethodName := ⟨RX3, "stepOf", "(II)LPenPage$Step;"⟩
abbrev cX3_canStep : ByteArray := prog_5_method_6_code
def yX3_canStep : MethodName := ⟨RX3, "canStep", "()Z"⟩
abbrev cX3_receive : ByteArray := prog_5_method_7_code
def yX3_receive : MethodName := ⟨RX3, "receive", "(LPenPage$Step;)I"⟩
abbrev cX3_have : ByteArray := prog_5_method_8_code
def yX3_have : MethodName := ⟨RX3, "have", "(LPenPage$Step;)V"⟩
abbrev cX3_settle : ByteArray := prog_5_method_9_code
def yX3_settle : MethodName := ⟨RX3, "settle", "()V"⟩
abbrev cX3_heldOf : ByteArray := prog_5_method_10_code
def yX3_heldOf : MethodName := ⟨RX3, "heldOf", "(II)LPenPage$Step;"⟩
abbrev cX3_isReady : ByteArray := prog_5_method_11_code
def yX3_isReady : MethodName := ⟨RX3, "isReady", "(LPenPage$Step;)Z"⟩
abbrev cX3_dropOvertaken : ByteArray := prog_5_method_12_code
def yX3_dropOvertaken : MethodName := ⟨RX3, "dropOvertaken", "()V"⟩
abbrev cX3_leastReady : ByteArray := prog_5_method_13_code
def yX3_leastReady : MethodName := ⟨RX3, "leastReady", "()I"⟩
def RX4 : String := "PenPage$Step"
def TX4 : u_T := fun k => match k with
  | _ => ("PenPage$Step", "bytes", "[I", true)
def tyX4 : Nat → FieldType := fun k => match k with
  | _ => .array .int
abbrev wsX40 : List Cond := u_ws RX4 TX4 1
theorem nmX4 : ∀ a, a < 1 → ∀ b, b < 1 → a ≠ b → (TX4 a).2.1 ≠ (TX4 b).2.1 := by decide +kernel
theorem tyX4_ok : ∀ k, k < 1 → parseFieldDescriptor (TX4 k).2.2.1 = some (tyX4 k) := by decide +kernel
abbrev cX4_init : ByteArray := prog_6_method_1_code
def yX4_init : MethodName := ⟨RX4, "<init>", "([II)V"⟩
abbrev cX4_length : ByteArray := prog_6_method_2_code
def yX4_length : MethodName := ⟨RX4, "length", "()I"⟩
abbrev cX4_byteAt : ByteArray := prog_6_method_3_code
def yX4_byteAt : MethodName := ⟨RX4, "byteAt", "(I)I"⟩
abbrev cX4_pairAt : ByteArray := prog_6_method_4_code
def yX4_pairAt : MethodName := ⟨RX4, "pairAt", "(I)I"⟩
abbrev cX4_kind : ByteArray := prog_6_method_5_code
def yX4_kind : MethodName := ⟨RX4, "kind", "()I"⟩
abbrev cX4_writer : ByteArray := prog_6_method_6_code
def yX4_writer : MethodName := ⟨RX4, "writer", "()I"⟩
abbrev cX4_number : ByteArray := prog_6_method_7_code
def yX4_number : MethodName := ⟨RX4, "number", "()I"⟩
abbrev cX4_seen : ByteArray := prog_6_method_8_code
def yX4_seen : MethodName := ⟨RX4, "seen", "(I)I"⟩
abbrev cX4_age : ByteArray := prog_6_method_9_code
def yX4_age : MethodName := ⟨RX4, "age", "()I"⟩
abbrev cX4_target : ByteArray := prog_6_method_10_code
def yX4_target : MethodName := ⟨RX4, "target", "()I"⟩
abbrev cX4_markedSlot : ByteArray := prog_6_method_11_code
def yX4_markedSlot : MethodName := ⟨RX4, "markedSlot", "(I)I"⟩
abbrev cX4_behindMoved : ByteArray := prog_6_method_12_code
def yX4_behindMoved : MethodName := ⟨RX4, "behindMoved", "(I)I"⟩
abbrev cX4_sameAs : ByteArray := prog_6_method_13_code
def yX4_sameAs : MethodName := ⟨RX4, "sameAs", "(LPenPage$Step;)Z"⟩
def RX5 : String := "PenPage$Story"
def TX5 : u_T := fun k => match k with
  | 0 => ("PenPage$Story", "told", "[I", true)
  | 1 => ("PenPage$Story", "pens", "[I", true)
  | 2 => ("PenPage$Story", "places", "[I", true)
  | 3 => ("PenPage$Story", "signs", "[I", true)
  | 4 => ("PenPage$Story", "path", "[I", true)
  | 5 => ("PenPage$Story", "first", "[I", true)
  | 6 => ("PenPage$Story", "texts", "[[I", true)
  | 7 => ("PenPage$Story", "lengths", "[I", true)
  | 8 => ("PenPage$Story", "toldLength", "I", false)
  | 9 => ("PenPage$Story", "actCount", "I", false)
  | 10 => ("PenPage$Story", "orders", "I", false)
  | 11 => ("PenPage$Story", "most", "I", false)
  | _ => ("PenPage$Story", "solved", "Z", false)
def tyX5 : Nat → FieldType := fun k => match k with
  | 0 => .array .int
  | 1 => .array .int
  | 2 => .array .int
  | 3 => .array .int
  | 4 => .array .int
  | 5 => .array .int
  | 6 => .array (.array .int)
  | 7 => .array .int
  | 8 => .int
  | 9 => .int
  | 10 => .int
  | 11 => .int
  | _ => .boolean
abbrev wsX50 : List Cond := u_ws RX5 TX5 13
theorem nmX5 : ∀ a, a < 13 → ∀ b, b < 13 → a ≠ b → (TX5 a).2.1 ≠ (TX5 b).2.1 := by decide +kernel
theorem tyX5_ok : ∀ k, k < 13 → parseFieldDescriptor (TX5 k).2.2.1 = some (tyX5 k) := by decide +kernel
abbrev cX5_init : ByteArray := prog_7_method_1_code
def yX5_init : MethodName := ⟨RX5, "<init>", "()V"⟩
abbrev cX5_empty : ByteArray := prog_7_method_2_code
def yX5_empty : MethodName := ⟨RX5, "empty", "()V"⟩
abbrev cX5_addSign : ByteArray := prog_7_method_3_code
def yX5_addSign : MethodName := ⟨RX5, "addSign", "(I)Z"⟩
abbrev cX5_addAct : ByteArray := prog_7_method_4_code
def yX5_addAct : MethodName := ⟨RX5, "addAct", "(III)Z"⟩
abbrev cX5_solve : ByteArray := prog_7_method_5_code
def yX5_solve : MethodName := ⟨RX5, "solve", "()V"⟩
abbrev cX5_walk : ByteArray := prog_7_method_6_code
def yX5_walk : MethodName := ⟨RX5, "walk", "(I)V"⟩
abbrev cX5_finishOrder : ByteArray := prog_7_method_7_code
def yX5_finishOrder : MethodName := ⟨RX5, "finishOrder", "(I)V"⟩
abbrev cX5_nextAct : ByteArray := prog_7_method_8_code
def yX5_nextAct : MethodName := ⟨RX5, "nextAct", "(II)I"⟩
abbrev cX5_perform : ByteArray := prog_7_method_9_code
def yX5_perform : MethodName := ⟨RX5, "perform", "(II)Z"⟩
def RX6 : String := "PenPage$View"
def TX6 : u_T := fun k => match k with
  | 0 => ("PenPage$View", "holds", "[Z", true)
  | 1 => ("PenPage$View", "struck", "[Z", true)
  | 2 => ("PenPage$View", "keyStep", "[LPenPage$Step;", true)
  | 3 => ("PenPage$View", "keyAt", "[I", true)
  | 4 => ("PenPage$View", "row", "[I", true)
  | 5 => ("PenPage$View", "shown", "[I", true)
  | 6 => ("PenPage$View", "firstStrike", "[I", true)
  | 7 => ("PenPage$View", "rowLength", "I", false)
  | _ => ("PenPage$View", "textLength", "I", false)
def tyX6 : Nat → FieldType := fun k => match k with
  | 0 => .array .boolean
  | 1 => .array .boolean
  | 2 => .array (.object "PenPage$Step")
  | 3 => .array .int
  | 4 => .array .int
  | 5 => .array .int
  | 6 => .array .int
  | 7 => .int
  | _ => .int
abbrev wsX60 : List Cond := u_ws RX6 TX6 9
theorem nmX6 : ∀ a, a < 9 → ∀ b, b < 9 → a ≠ b → (TX6 a).2.1 ≠ (TX6 b).2.1 := by decide +kernel
theorem tyX6_ok : ∀ k, k < 9 → parseFieldDescriptor (TX6 k).2.2.1 = some (tyX6 k) := by decide +kernel
abbrev cX6_init : ByteArray := prog_8_method_1_code
def yX6_init : MethodName := ⟨RX6, "<init>", "()V"⟩
abbrev cX6_look : ByteArray := prog_8_method_2_code
def yX6_look : MethodName := ⟨RX6, "look", "(LPenPage$Page;)V"⟩
abbrev cX6_markSlot : ByteArray := prog_8_method_3_code
def yX6_markSlot : MethodName := ⟨RX6, "markSlot", "(LPenPage$Step;I)I"⟩
abbrev cX6_slotAt : ByteArray := prog_8_method_4_code
def yX6_slotAt : MethodName := ⟨RX6, "slotAt", "(I)I"⟩
abbrev cX6_keyLengthOf : ByteArray := prog_8_method_5_code
def yX6_keyLengthOf : MethodName := ⟨RX6, "keyLengthOf", "(I)I"⟩
abbrev cX6_keyNumberOf : ByteArray := prog_8_method_6_code
def yX6_keyNumberOf : MethodName := ⟨RX6, "keyNumberOf", "(II)I"⟩
abbrev cX6_countOf : ByteArray := prog_8_method_7_code
def yX6_countOf : MethodName := ⟨RX6, "countOf", "(I)I"⟩
abbrev cX6_countGone : ByteArray := prog_8_method_8_code
def yX6_countGone : MethodName := ⟨RX6, "countGone", "(LPenPage$Page;I)I"⟩
abbrev cX6_isGone : ByteArray := prog_8_method_9_code
def yX6_isGone : MethodName := ⟨RX6, "isGone", "(LPenPage$Page;II)Z"⟩
abbrev cX6_compareKeys : ByteArray := prog_8_method_10_code
def yX6_compareKeys : MethodName := ⟨RX6, "compareKeys", "(II)I"⟩
abbrev cX6_undoSteps : ByteArray := prog_8_method_11_code
def yX6_undoSteps : MethodName := ⟨RX6, "undoSteps", "(LPenPage$Page;)V"⟩
abbrev cX6_undoStep : ByteArray := prog_8_method_12_code
def yX6_undoStep : MethodName := ⟨RX6, "undoStep", "(LPenPage$Page;II)V"⟩
abbrev cX6_applySteps : ByteArray := prog_8_method_13_code
def yX6_applySteps : MethodName := ⟨RX6, "applySteps", "(LPenPage$Page;)V"⟩
abbrev cX6_strikeMark : ByteArray := prog_8_method_14_code
def yX6_strikeMark : MethodName := ⟨RX6, "strikeMark", "(LPenPage$Step;)V"⟩
abbrev cX6_canBeMoved : ByteArray := prog_8_method_15_code
def yX6_canBeMoved : MethodName := ⟨RX6, "canBeMoved", "(LPenPage$Step;)Z"⟩
abbrev cX6_moveMarks : ByteArray := prog_8_method_16_code
def yX6_moveMarks : MethodName := ⟨RX6, "moveMarks", "(LPenPage$Step;)V"⟩
abbrev cX6_outranks : ByteArray := prog_8_method_17_code
def yX6_outranks : MethodName := ⟨RX6, "outranks", "(LPenPage$Step;LPenPage$Step;)Z"⟩
abbrev cX6_makeRow : ByteArray := prog_8_method_18_code
def yX6_makeRow : MethodName := ⟨RX6, "makeRow", "()V"⟩
abbrev cX6_insertMark : ByteArray := prog_8_method_19_code
def yX6_insertMark : MethodName := ⟨RX6, "insertMark", "(I)V"⟩
abbrev cX6_makeText : ByteArray := prog_8_method_20_code
def yX6_makeText : MethodName := ⟨RX6, "makeText", "()V"⟩
abbrev cX6_findStrike : ByteArray := prog_8_method_21_code
def yX6_findStrike : MethodName := ⟨RX6, "findStrike", "(LPenPage$Page;II)I"⟩
abbrev cX6_sawStrikes : ByteArray := prog_8_method_22_code
def yX6_sawStrikes : MethodName := ⟨RX6, "sawStrikes", "(LPenPage$Page;II)Z"⟩
def RX7 : String := "PenPage"
def TX7 : u_T := fun k => match k with
  | 0 => ("PenPage", "pages", "[LPenPage$Page;", true)
  | 1 => ("PenPage", "keptPages", "[LPenPage$Page;", true)
  | 2 => ("PenPage", "status", "[I", true)
  | 3 => ("PenPage", "keptStatus", "[I", true)
  | 4 => ("PenPage", "tape", "[I", true)
  | 5 => ("PenPage", "view", "LPenPage$View;", true)
  | 6 => ("PenPage", "newKey", "LPenPage$NewKey;", true)
  | 7 => ("PenPage", "packer", "LPenPage$Packer;", true)
  | 8 => ("PenPage", "checker", "LPenPage$Checker;", true)
  | 9 => ("PenPage", "tale", "LPenPage$Story;", true)
  | 10 => ("PenPage", "writerCount", "I", false)
  | 11 => ("PenPage", "tapeLength", "I", false)
  | 12 => ("PenPage", "faultPlace", "I", false)
  | 13 => ("PenPage", "viewed", "I", false)
  | _ => ("PenPage", "imageKept", "Z", false)
def tyX7 : Nat → FieldType := fun k => match k with
  | 0 => .array (.object "PenPage$Page")
  | 1 => .array (.object "PenPage$Page")
  | 2 => .array .int
  | 3 => .array .int
  | 4 => .array .int
  | 5 => .object "PenPage$View"
  | 6 => .object "PenPage$NewKey"
  | 7 => .object "PenPage$Packer"
  | 8 => .object "PenPage$Checker"
  | 9 => .object "PenPage$Story"
  | 10 => .int
  | 11 => .int
  | 12 => .int
  | 13 => .int
  | _ => .boolean
abbrev wsX70 : List Cond := u_ws RX7 TX7 15
theorem nmX7 : ∀ a, a < 15 → ∀ b, b < 15 → a ≠ b → (TX7 a).2.1 ≠ (TX7 b).2.1 := by decide +kernel
theorem tyX7_ok : ∀ k, k < 15 → parseFieldDescriptor (TX7 k).2.2.1 = some (tyX7 k) := by decide +kernel
abbrev cX7_init : ByteArray := prog_1_method_1_code
def yX7_init : MethodName := ⟨RX7, "<init>", "()V"⟩
abbrev cX7_writers : ByteArray := prog_1_method_2_code
def yX7_writers : MethodName := ⟨RX7, "writers", "(I)V"⟩
abbrev cX7_count : ByteArray := prog_1_method_3_code
def yX7_count : MethodName := ⟨RX7, "count", "(I)I"⟩
abbrev cX7_page : ByteArray := prog_1_method_4_code
def yX7_page : MethodName := ⟨RX7, "page", "(II)I"⟩
abbrev cX7_text : ByteArray := prog_1_method_5_code
def yX7_text : MethodName := ⟨RX7, "text", "(III)I"⟩
abbrev cX7_step : ByteArray := prog_1_method_6_code
def yX7_step : MethodName := ⟨RX7, "step", "(IIII)I"⟩
abbrev cX7_set : ByteArray := prog_1_method_7_code
def yX7_set : MethodName := ⟨RX7, "set", "(III)I"⟩
abbrev cX7_strike : ByteArray := prog_1_method_8_code
def yX7_strike : MethodName := ⟨RX7, "strike", "(II)I"⟩
abbrev cX7_undo : ByteArray := prog_1_method_9_code
def yX7_undo : MethodName := ⟨RX7, "undo", "(II)I"⟩
abbrev cX7_move : ByteArray := prog_1_method_10_code
def yX7_move : MethodName := ⟨RX7, "move", "(IIII)I"⟩
abbrev cX7_packet : ByteArray := prog_1_method_11_code
def yX7_packet : MethodName := ⟨RX7, "packet", "(IIII)I"⟩
abbrev cX7_feed : ByteArray := prog_1_method_12_code
def yX7_feed : MethodName := ⟨RX7, "feed", "(IIIII)I"⟩
abbrev cX7_hear : ByteArray := prog_1_method_13_code
def yX7_hear : MethodName := ⟨RX7, "hear", "(II)I"⟩
abbrev cX7_fault : ByteArray := prog_1_method_14_code
def yX7_fault : MethodName := ⟨RX7, "fault", "()I"⟩
abbrev cX7_send : ByteArray := prog_1_method_15_code
def yX7_send : MethodName := ⟨RX7, "send", "(IIII)I"⟩
abbrev cX7_lacks : ByteArray := prog_1_method_16_code
def yX7_lacks : MethodName := ⟨RX7, "lacks", "(III)I"⟩
abbrev cX7_fewest : ByteArray := prog_1_method_17_code
def yX7_fewest : MethodName := ⟨RX7, "fewest", "(II)I"⟩
abbrev cX7_alike : ByteArray := prog_1_method_18_code
def yX7_alike : MethodName := ⟨RX7, "alike", "(II)Z"⟩
abbrev cX7_whose : ByteArray := prog_1_method_19_code
def yX7_whose : MethodName := ⟨RX7, "whose", "(II)I"⟩
abbrev cX7_gone : ByteArray := prog_1_method_20_code
def yX7_gone : MethodName := ⟨RX7, "gone", "(II)Z"⟩
abbrev cX7_say : ByteArray := prog_1_method_21_code
def yX7_say : MethodName := ⟨RX7, "say", "(I)I"⟩
abbrev cX7_act : ByteArray := prog_1_method_22_code
def yX7_act : MethodName := ⟨RX7, "act", "(III)I"⟩
abbrev cX7_clear : ByteArray := prog_1_method_23_code
def yX7_clear : MethodName := ⟨RX7, "clear", "()V"⟩
abbrev cX7_story : ByteArray := prog_1_method_24_code
def yX7_story : MethodName := ⟨RX7, "story", "(I)I"⟩
abbrev cX7_image : ByteArray := prog_1_method_25_code
def yX7_image : MethodName := ⟨RX7, "image", "()V"⟩
abbrev cX7_restore : ByteArray := prog_1_method_26_code
def yX7_restore : MethodName := ⟨RX7, "restore", "()Z"⟩
abbrev cX7_pageAt : ByteArray := prog_1_method_27_code
def yX7_pageAt : MethodName := ⟨RX7, "pageAt", "(I)LPenPage$Page;"⟩
abbrev cX7_stepAt : ByteArray := prog_1_method_28_code
def yX7_stepAt : MethodName := ⟨RX7, "stepAt", "(III)LPenPage$Step;"⟩
abbrev cX7_viewOf : ByteArray := prog_1_method_29_code
def yX7_viewOf : MethodName := ⟨RX7, "viewOf", "(I)LPenPage$View;"⟩
abbrev cX7_keyNumber : ByteArray := prog_1_method_30_code
def yX7_keyNumber : MethodName := ⟨RX7, "keyNumber", "(LPenPage$View;II)I"⟩
abbrev cX7_signOf : ByteArray := prog_1_method_31_code
def yX7_signOf : MethodName := ⟨RX7, "signOf", "(LPenPage$Page;I)I"⟩
abbrev cX7_refuse : ByteArray := prog_1_method_32_code
def yX7_refuse : MethodName := ⟨RX7, "refuse", "(I)I"⟩
abbrev cX7_refuseHeard : ByteArray := prog_1_method_33_code
def yX7_refuseHeard : MethodName := ⟨RX7, "refuseHeard", "(II)I"⟩
abbrev cX7_canUndo : ByteArray := prog_1_method_34_code
def yX7_canUndo : MethodName := ⟨RX7, "canUndo", "(LPenPage$View;LPenPage$Page;LPenPage$Step;)Z"⟩
abbrev cX7_canMove : ByteArray := prog_1_method_35_code
def yX7_canMove : MethodName := ⟨RX7, "canMove", "(IIII)Z"⟩
abbrev cX7_perform : ByteArray := prog_1_method_36_code
def yX7_perform : MethodName := ⟨RX7, "perform", "(LPenPage$Page;)I"⟩
abbrev cX7_feedFour : ByteArray := prog_1_method_37_code
def yX7_feedFour : MethodName := ⟨RX7, "feedFour", "(I)V"⟩
abbrev cX7_isSign : ByteArray := prog_1_method_38_code
def yX7_isSign : MethodName := ⟨RX7, "isSign", "(I)Z"⟩
abbrev cX7_slotOf : ByteArray := prog_1_method_39_code
def yX7_slotOf : MethodName := ⟨RX7, "slotOf", "(II)I"⟩
abbrev cX7_markOf : ByteArray := prog_1_method_40_code
def yX7_markOf : MethodName := ⟨RX7, "markOf", "(I)I"⟩
abbrev cX7_countLacks : ByteArray := prog_1_method_41_code
def yX7_countLacks : MethodName := ⟨RX7, "countLacks", "(LPenPage$Page;LPenPage$Page;)I"⟩
abbrev cX7_findLack : ByteArray := prog_1_method_42_code
def yX7_findLack : MethodName := ⟨RX7, "findLack", "(LPenPage$Page;LPenPage$Page;I)I"⟩
abbrev cX7_isLack : ByteArray := prog_1_method_43_code
def yX7_isLack : MethodName := ⟨RX7, "isLack", "(LPenPage$Page;LPenPage$Page;I)Z"⟩
def RX8 : String := "PenPageModel"
def TX8 : u_T := fun k => match k with
  | 0 => ("PenPageModel", "code", "I", false)
  | 1 => ("PenPageModel", "writers", "I", false)
  | 2 => ("PenPageModel", "data", "[I", true)
  | 3 => ("PenPageModel", "had", "[I", true)
  | 4 => ("PenPageModel", "held", "[I", true)
  | 5 => ("PenPageModel", "status", "[I", true)
  | 6 => ("PenPageModel", "isHeld", "[Z", true)
  | 7 => ("PenPageModel", "isStruck", "[Z", true)
  | 8 => ("PenPageModel", "keyAt", "[I", true)
  | 9 => ("PenPageModel", "keyAge", "[I", true)
  | 10 => ("PenPageModel", "row", "[I", true)
  | 11 => ("PenPageModel", "text", "[I", true)
  | 12 => ("PenPageModel", "rowMany", "I", false)
  | 13 => ("PenPageModel", "textMany", "I", false)
  | 14 => ("PenPageModel", "bytes", "[I", true)
  | 15 => ("PenPageModel", "tape", "[I", true)
  | 16 => ("PenPageModel", "byteMany", "I", false)
  | 17 => ("PenPageModel", "taped", "I", false)
  | 18 => ("PenPageModel", "faultPlace", "I", false)
  | 19 => ("PenPageModel", "at", "I", false)
  | 20 => ("PenPageModel", "size", "I", false)
  | 21 => ("PenPageModel", "bad", "I", false)
  | 22 => ("PenPageModel", "badPlace", "I", false)
  | 23 => ("PenPageModel", "signs", "I", false)
  | 24 => ("PenPageModel", "acts", "I", false)
  | 25 => ("PenPageModel", "told", "[I", true)
  | 26 => ("PenPageModel", "actPen", "[I", true)
  | 27 => ("PenPageModel", "actPlace", "[I", true)
  | 28 => ("PenPageModel", "actSign", "[I", true)
  | 29 => ("PenPageModel", "order", "[I", true)
  | 30 => ("PenPageModel", "firstOrder", "[I", true)
  | 31 => ("PenPageModel", "line", "[I", true)
  | 32 => ("PenPageModel", "orders", "I", false)
  | 33 => ("PenPageModel", "mostActs", "I", false)
  | 34 => ("PenPageModel", "hasImage", "Z", false)
  | 35 => ("PenPageModel", "hadThen", "[I", true)
  | 36 => ("PenPageModel", "heldThen", "[I", true)
  | _ => ("PenPageModel", "statusThen", "[I", true)
def tyX8 : Nat → FieldType := fun k => match k with
  | 0 => .int
  | 1 => .int
  | 2 => .array .int
  | 3 => .array .int
  | 4 => .array .int
  | 5 => .array .int
  | 6 => .array .boolean
  | 7 => .array .boolean
  | 8 => .array .int
  | 9 => .array .int
  | 10 => .array .int
  | 11 => .array .int
  | 12 => .int
  | 13 => .int
  | 14 => .array .int
  | 15 => .array .int
  | 16 => .int
  | 17 => .int
  | 18 => .int
  | 19 => .int
  | 20 => .int
  | 21 => .int
  | 22 => .int
  | 23 => .int
  | 24 => .int
  | 25 => .array .int
  | 26 => .array .int
  | 27 => .array .int
  | 28 => .array .int
  | 29 => .array .int
  | 30 => .array .int
  | 31 => .array .int
  | 32 => .int
  | 33 => .int
  | 34 => .boolean
  | 35 => .array .int
  | 36 => .array .int
  | _ => .array .int
abbrev wsX80 : List Cond := u_ws RX8 TX8 38
theorem nmX8 : ∀ a, a < 38 → ∀ b, b < 38 → a ≠ b → (TX8 a).2.1 ≠ (TX8 b).2.1 := by decide +kernel
theorem tyX8_ok : ∀ k, k < 38 → parseFieldDescriptor (TX8 k).2.2.1 = some (tyX8 k) := by decide +kernel
abbrev cX8_init : ByteArray := prog_10_method_1_code
def yX8_init : MethodName := ⟨RX8, "<init>", "()V"⟩
abbrev cX8_thrown : ByteArray := prog_10_method_2_code
def yX8_thrown : MethodName := ⟨RX8, "thrown", "()I"⟩
abbrev cX8_fail : ByteArray := prog_10_method_3_code
def yX8_fail : MethodName := ⟨RX8, "fail", "(I)I"⟩
abbrev cX8_isIn : ByteArray := prog_10_method_4_code
def yX8_isIn : MethodName := ⟨RX8, "isIn", "(III)Z"⟩
abbrev cX8_isWriter : ByteArray := prog_10_method_5_code
def yX8_isWriter : MethodName := ⟨RX8, "isWriter", "(I)Z"⟩
abbrev cX8_rowOf : ByteArray := prog_10_method_6_code
def yX8_rowOf : MethodName := ⟨RX8, "rowOf", "(III)I"⟩
abbrev cX8_of : ByteArray := prog_10_method_7_code
def yX8_of : MethodName := ⟨RX8, "of", "(II)I"⟩
abbrev cX8_put : ByteArray := prog_10_method_8_code
def yX8_put : MethodName := ⟨RX8, "put", "(III)V"⟩
abbrev cX8_copy : ByteArray := prog_10_method_9_code
def yX8_copy : MethodName := ⟨RX8, "copy", "(II)V"⟩
abbrev cX8_isLike : ByteArray := prog_10_method_10_code
def yX8_isLike : MethodName := ⟨RX8, "isLike", "(II)Z"⟩
abbrev cX8_hasStep : ByteArray := prog_10_method_11_code
def yX8_hasStep : MethodName := ⟨RX8, "hasStep", "(III)Z"⟩
abbrev cX8_writers : ByteArray := prog_10_method_12_code
def yX8_writers : MethodName := ⟨RX8, "writers", "(I)V"⟩
abbrev cX8_count : ByteArray := prog_10_method_13_code
def yX8_count : MethodName := ⟨RX8, "count", "(I)I"⟩
abbrev cX8_markOf : ByteArray := prog_10_method_14_code
def yX8_markOf : MethodName := ⟨RX8, "markOf", "(II)I"⟩
abbrev cX8_nameOf : ByteArray := prog_10_method_15_code
def yX8_nameOf : MethodName := ⟨RX8, "nameOf", "(I)I"⟩
abbrev cX8_named : ByteArray := prog_10_method_16_code
def yX8_named : MethodName := ⟨RX8, "named", "(II)I"⟩
abbrev cX8_rowOfMark : ByteArray := prog_10_method_17_code
def yX8_rowOfMark : MethodName := ⟨RX8, "rowOfMark", "(II)I"⟩
abbrev cX8_setNamed : ByteArray := prog_10_method_18_code
def yX8_setNamed : MethodName := ⟨RX8, "setNamed", "(II)I"⟩
abbrev cX8_tellHolds : ByteArray := prog_10_method_19_code
def yX8_tellHolds : MethodName := ⟨RX8, "tellHolds", "(I)V"⟩
abbrev cX8_tellMove : ByteArray := prog_10_method_20_code
def yX8_tellMove : MethodName := ⟨RX8, "tellMove", "(II)V"⟩
abbrev cX8_tellPage : ByteArray := prog_10_method_21_code
def yX8_tellPage : MethodName := ⟨RX8, "tellPage", "(I)V"⟩
abbrev cX8_compare : ByteArray := prog_10_method_22_code
def yX8_compare : MethodName := ⟨RX8, "compare", "(II)I"⟩
abbrev cX8_layMark : ByteArray := prog_10_method_23_code
def yX8_layMark : MethodName := ⟨RX8, "layMark", "(I)V"⟩
abbrev cX8_ageOf : ByteArray := prog_10_method_24_code
def yX8_ageOf : MethodName := ⟨RX8, "ageOf", "(I)I"⟩
abbrev cX8_strikes : ByteArray := prog_10_method_25_code
def yX8_strikes : MethodName := ⟨RX8, "strikes", "(IIII)Z"⟩
abbrev cX8_isGone : ByteArray := prog_10_method_26_code
def yX8_isGone : MethodName := ⟨RX8, "isGone", "(II)Z"⟩
abbrev cX8_goneOf : ByteArray := prog_10_method_27_code
def yX8_goneOf : MethodName := ⟨RX8, "goneOf", "(I)I"⟩
abbrev cX8_page : ByteArray := prog_10_method_28_code
def yX8_page : MethodName := ⟨RX8, "page", "(II)I"⟩
abbrev cX8_text : ByteArray := prog_10_method_29_code
def yX8_text : MethodName := ⟨RX8, "text", "(III)I"⟩
abbrev cX8_step : ByteArray := prog_10_method_30_code
def yX8_step : MethodName := ⟨RX8, "step", "(IIII)I"⟩
abbrev cX8_beginStep : ByteArray := prog_10_method_31_code
def yX8_beginStep : MethodName := ⟨RX8, "beginStep", "(II)Z"⟩
abbrev cX8_refuse : ByteArray := prog_10_method_32_code
def yX8_refuse : MethodName := ⟨RX8, "refuse", "()I"⟩
abbrev cX8_endStep : ByteArray := prog_10_method_33_code
def yX8_endStep : MethodName := ⟨RX8, "endStep", "(I)I"⟩
abbrev cX8_add : ByteArray := prog_10_method_34_code
def yX8_add : MethodName := ⟨RX8, "add", "(II)V"⟩
abbrev cX8_newKey : ByteArray := prog_10_method_35_code
def yX8_newKey : MethodName := ⟨RX8, "newKey", "(IIII)Z"⟩
abbrev cX8_placeInRow : ByteArray := prog_10_method_36_code
def yX8_placeInRow : MethodName := ⟨RX8, "placeInRow", "(I)I"⟩
abbrev cX8_keyAhead : ByteArray := prog_10_method_37_code
def yX8_keyAhead : MethodName := ⟨RX8, "keyAhead", "(I)I"⟩
abbrev cX8_keyBehind : ByteArray := prog_10_method_38_code
def yX8_keyBehind : MethodName := ⟨RX8, "keyBehind", "(I)I"⟩
abbrev cX8_set : ByteArray := prog_10_method_39_code
def yX8_set : MethodName := ⟨RX8, "set", "(III)I"⟩
abbrev cX8_strike : ByteArray := prog_10_method_40_code
def yX8_strike : MethodName := ⟨RX8, "strike", "(II)I"⟩
abbrev cX8_mayUndo : ByteArray := prog_10_method_41_code
def yX8_mayUndo : MethodName := ⟨RX8, "mayUndo", "(II)Z"⟩
abbrev cX8_undo : ByteArray := prog_10_method_42_code
def yX8_undo : MethodName := ⟨RX8, "undo", "(II)I"⟩
abbrev cX8_move : ByteArray := prog_10_method_43_code
def yX8_move : MethodName := ⟨RX8, "move", "(IIII)I"⟩
abbrev cX8_lay : ByteArray := prog_10_method_44_code
def yX8_lay : MethodName := ⟨RX8, "lay", "(I)V"⟩
abbrev cX8_layKey : ByteArray := prog_10_method_45_code
def yX8_layKey : MethodName := ⟨RX8, "layKey", "(I)V"⟩
abbrev cX8_layMarkBytes : ByteArray := prog_10_method_46_code
def yX8_layMarkBytes : MethodName := ⟨RX8, "layMarkBytes", "(I)V"⟩
abbrev cX8_layPacket : ByteArray := prog_10_method_47_code
def yX8_layPacket : MethodName := ⟨RX8, "layPacket", "(I)V"⟩
abbrev cX8_packet : ByteArray := prog_10_method_48_code
def yX8_packet : MethodName := ⟨RX8, "packet", "(IIII)I"⟩
abbrev cX8_feed : ByteArray := prog_10_method_49_code
def yX8_feed : MethodName := ⟨RX8, "feed", "(IIIII)I"⟩
abbrev cX8_wrong : ByteArray := prog_10_method_50_code
def yX8_wrong : MethodName := ⟨RX8, "wrong", "(II)V"⟩
abbrev cX8_readByte : ByteArray := prog_10_method_51_code
def yX8_readByte : MethodName := ⟨RX8, "readByte", "(II)I"⟩
abbrev cX8_readTwo : ByteArray := prog_10_method_52_code
def yX8_readTwo : MethodName := ⟨RX8, "readTwo", "(II)I"⟩
abbrev cX8_readKey : ByteArray := prog_10_method_53_code
def yX8_readKey : MethodName := ⟨RX8, "readKey", "(I)V"⟩
abbrev cX8_readMark : ByteArray := prog_10_method_54_code
def yX8_readMark : MethodName := ⟨RX8, "readMark", "()I"⟩
abbrev cX8_readMoves : ByteArray := prog_10_method_55_code
def yX8_readMoves : MethodName := ⟨RX8, "readMoves", "()V"⟩
abbrev cX8_readPacket : ByteArray := prog_10_method_56_code
def yX8_readPacket : MethodName := ⟨RX8, "readPacket", "()V"⟩
abbrev cX8_hear : ByteArray := prog_10_method_57_code
def yX8_hear : MethodName := ⟨RX8, "hear", "(II)I"⟩
abbrev cX8_fault : ByteArray := prog_10_method_58_code
def yX8_fault : MethodName := ⟨RX8, "fault", "()I"⟩
abbrev cX8_holdOf : ByteArray := prog_10_method_59_code
def yX8_holdOf : MethodName := ⟨RX8, "holdOf", "(II)I"⟩
abbrev cX8_canHave : ByteArray := prog_10_method_60_code
def yX8_canHave : MethodName := ⟨RX8, "canHave", "(II)Z"⟩
abbrev cX8_heard : ByteArray := prog_10_method_61_code
def yX8_heard : MethodName := ⟨RX8, "heard", "(I)I"⟩
abbrev cX8_drop : ByteArray := prog_10_method_62_code
def yX8_drop : MethodName := ⟨RX8, "drop", "(II)V"⟩
abbrev cX8_isAhead : ByteArray := prog_10_method_63_code
def yX8_isAhead : MethodName := ⟨RX8, "isAhead", "(II)Z"⟩
abbrev cX8_release : ByteArray := prog_10_method_64_code
def yX8_release : MethodName := ⟨RX8, "release", "(I)V"⟩
abbrev cX8_send : ByteArray := prog_10_method_65_code
def yX8_send : MethodName := ⟨RX8, "send", "(IIII)I"⟩
abbrev cX8_lacksOne : ByteArray := prog_10_method_66_code
def yX8_lacksOne : MethodName := ⟨RX8, "lacksOne", "(IIII)Z"⟩
abbrev cX8_lackOf : ByteArray := prog_10_method_67_code
def yX8_lackOf : MethodName := ⟨RX8, "lackOf", "(III)I"⟩
abbrev cX8_lacks : ByteArray := prog_10_method_68_code
def yX8_lacks : MethodName := ⟨RX8, "lacks", "(III)I"⟩
abbrev cX8_fewest : ByteArray := prog_10_method_69_code
def yX8_fewest : MethodName := ⟨RX8, "fewest", "(II)I"⟩
abbrev cX8_alike : ByteArray := prog_10_method_70_code
def yX8_alike : MethodName := ⟨RX8, "alike", "(II)Z"⟩
abbrev cX8_whose : ByteArray := prog_10_method_71_code
def yX8_whose : MethodName := ⟨RX8, "whose", "(II)I"⟩
abbrev cX8_gone : ByteArray := prog_10_method_72_code
def yX8_gone : MethodName := ⟨RX8, "gone", "(II)Z"⟩
abbrev cX8_say : ByteArray := prog_10_method_73_code
def yX8_say : MethodName := ⟨RX8, "say", "(I)I"⟩
abbrev cX8_act : ByteArray := prog_10_method_74_code
def yX8_act : MethodName := ⟨RX8, "act", "(III)I"⟩
abbrev cX8_clear : ByteArray := prog_10_method_75_code
def yX8_clear : MethodName := ⟨RX8, "clear", "()V"⟩
abbrev cX8_write : ByteArray := prog_10_method_76_code
def yX8_write : MethodName := ⟨RX8, "write", "(I)I"⟩
abbrev cX8_actsOf : ByteArray := prog_10_method_77_code
def yX8_actsOf : MethodName := ⟨RX8, "actsOf", "(I)I"⟩
abbrev cX8_inOrder : ByteArray := prog_10_method_78_code
def yX8_inOrder : MethodName := ⟨RX8, "inOrder", "(II)I"⟩
abbrev cX8_orderOn : ByteArray := prog_10_method_79_code
def yX8_orderOn : MethodName := ⟨RX8, "orderOn", "(I)V"⟩
abbrev cX8_story : ByteArray := prog_10_method_80_code
def yX8_story : MethodName := ⟨RX8, "story", "(I)I"⟩
abbrev cX8_copyAll : ByteArray := prog_10_method_81_code
def yX8_copyAll : MethodName := ⟨RX8, "copyAll", "(II)V"⟩
abbrev cX8_image : ByteArray := prog_10_method_82_code
def yX8_image : MethodName := ⟨RX8, "image", "()V"⟩
abbrev cX8_restore : ByteArray := prog_10_method_83_code
def yX8_restore : MethodName := ⟨RX8, "restore", "()Z"⟩
def RJx145de : String := "java/io/Serializable"
def TJx145de : u_T := fun k => match k with
  | _ => ("", "", "", false)
def tyJx145de : Nat → FieldType := fun k => match k with
  | _ => .int
abbrev wsJx145de0 : List Cond := u_ws RJx145de TJx145de 0
theorem nmJx145de : ∀ a, a < 0 → ∀ b, b < 0 → a ≠ b → (TJx145de a).2.1 ≠ (TJx145de b).2.1 := by decide +kernel
theorem tyJx145de_ok : ∀ k, k < 0 → parseFieldDescriptor (TJx145de k).2.2.1 = some (tyJx145de k) := by decide +kernel
def RJx8e188 : String := "java/lang/Cloneable"
def TJx8e188 : u_T := fun k => match k with
  | _ => ("", "", "", false)
def tyJx8e188 : Nat → FieldType := fun k => match k with
  | _ => .int
abbrev wsJx8e1880 : List Cond := u_ws RJx8e188 TJx8e188 0
theorem nmJx8e188 : ∀ a, a < 0 → ∀ b, b < 0 → a ≠ b → (TJx8e188 a).2.1 ≠ (TJx8e188 b).2.1 := by decide +kernel
theorem tyJx8e188_ok : ∀ k, k < 0 → parseFieldDescriptor (TJx8e188 k).2.2.1 = some (tyJx8e188 k) := by decide +kernel
def RJ9 : String := "java/lang/Math"
def TJ9 : u_T := fun k => match k with
  | _ => ("", "", "", false)
def tyJ9 : Nat → FieldType := fun k => match k with
  | _ => .int
abbrev wsJ90 : List Cond := u_ws RJ9 TJ9 0
theorem nmJ9 : ∀ a, a < 0 → ∀ b, b < 0 → a ≠ b → (TJ9 a).2.1 ≠ (TJ9 b).2.1 := by decide +kernel
theorem tyJ9_ok : ∀ k, k < 0 → parseFieldDescriptor (TJ9 k).2.2.1 = some (tyJ9 k) := by decide +kernel
abbrev cJ9_max_7cf53 : ByteArray := prog_15_method_65_code
def yJ9_max_7cf53 : MethodName := ⟨RJ9, "max", "(II)I"⟩
abbrev cJ9_min_7cf53 : ByteArray := prog_15_method_69_code
def yJ9_min_7cf53 : MethodName := ⟨RJ9, "min", "(II)I"⟩
def RJ0 : String := "java/lang/String"
def TJ0 : u_T := fun k => match k with
  | _ => ("", "", "", false)
def tyJ0 : Nat → FieldType := fun k => match k with
  | _ => .int
abbrev wsJ00 : List Cond := u_ws RJ0 TJ0 0
theorem nmJ0 : ∀ a, a < 0 → ∀ b, b < 0 → a ≠ b → (TJ0 a).2.1 ≠ (TJ0 b).2.1 := by decide +kernel
theorem tyJ0_ok : ∀ k, k < 0 → parseFieldDescriptor (TJ0 k).2.2.1 = some (tyJ0 k) := by decide +kernel
def RJ10 : String := "java/lang/System"
def TJ10 : u_T := fun k => match k with
  | _ => ("", "", "", false)
def tyJ10 : Nat → FieldType := fun k => match k with
  | _ => .int
abbrev wsJ100 : List Cond := u_ws RJ10 TJ10 0
theorem nmJ10 : ∀ a, a < 0 → ∀ b, b < 0 → a ≠ b → (TJ10 a).2.1 ≠ (TJ10 b).2.1 := by decide +kernel
theorem tyJ10_ok : ∀ k, k < 0 → parseFieldDescriptor (TJ10 k).2.2.1 = some (tyJ10 k) := by decide +kernel
def RJ7 : String := "java/util/Arrays"
def TJ7 : u_T := fun k => match k with
  | _ => ("", "", "", false)
def tyJ7 : Nat → FieldType := fun k => match k with
  | _ => .int
abbrev wsJ70 : List Cond := u_ws RJ7 TJ7 0
theorem nmJ7 : ∀ a, a < 0 → ∀ b, b < 0 → a ≠ b → (TJ7 a).2.1 ≠ (TJ7 b).2.1 := by decide +kernel
theorem tyJ7_ok : ∀ k, k < 0 → parseFieldDescriptor (TJ7 k).2.2.1 = some (tyJ7 k) := by decide +kernel
abbrev cJ7_fill_53178 : ByteArray := prog_20_method_103_code
def yJ7_fill_53178 : MethodName := ⟨RJ7, "fill", "([II)V"⟩
abbrev cJ7_copyOf_59c91 : ByteArray := prog_20_method_123_code
def yJ7_copyOf_59c91 : MethodName := ⟨RJ7, "copyOf", "([II)[I"⟩
def RL : String := "PenPageLaw"
abbrev cL_writers : ByteArray := method_3_code
def yL_writers : MethodName := ⟨RL, "writers", "(LPenPage;I)I"⟩
abbrev cL_count : ByteArray := method_4_code
def yL_count : MethodName := ⟨RL, "count", "(LPenPage;I[J)I"⟩
abbrev cL_page : ByteArray := method_5_code
def yL_page : MethodName := ⟨RL, "page", "(LPenPage;II[J)I"⟩
abbrev cL_text : ByteArray := method_6_code
def yL_text : MethodName := ⟨RL, "text", "(LPenPage;III[J)I"⟩
abbrev cL_step : ByteArray := method_7_code
def yL_step : MethodName := ⟨RL, "step", "(LPenPage;IIII[J)I"⟩
abbrev cL_set : ByteArray := method_8_code
def yL_set : MethodName := ⟨RL, "set", "(LPenPage;III[J)I"⟩
abbrev cL_strike : ByteArray := method_9_code
def yL_strike : MethodName := ⟨RL, "strike", "(LPenPage;II[J)I"⟩
abbrev cL_undo : ByteArray := method_10_code
def yL_undo : MethodName := ⟨RL, "undo", "(LPenPage;II[J)I"⟩
abbrev cL_move : ByteArray := method_11_code
def yL_move : MethodName := ⟨RL, "move", "(LPenPage;IIII[J)I"⟩
abbrev cL_packet : ByteArray := method_12_code
def yL_packet : MethodName := ⟨RL, "packet", "(LPenPage;IIII[J)I"⟩
abbrev cL_hear : ByteArray := method_13_code
def yL_hear : MethodName := ⟨RL, "hear", "(LPenPage;II[J)I"⟩
abbrev cL_send : ByteArray := method_14_code
def yL_send : MethodName := ⟨RL, "send", "(LPenPage;IIII[J)I"⟩
abbrev cL_lacks : ByteArray := method_15_code
def yL_lacks : MethodName := ⟨RL, "lacks", "(LPenPage;III[J)I"⟩
abbrev cL_fewest : ByteArray := method_16_code
def yL_fewest : MethodName := ⟨RL, "fewest", "(LPenPage;II[J)I"⟩
abbrev cL_alike : ByteArray := method_17_code
def yL_alike : MethodName := ⟨RL, "alike", "(LPenPage;II[J)I"⟩
abbrev cL_whose : ByteArray := method_18_code
def yL_whose : MethodName := ⟨RL, "whose", "(LPenPage;II[J)I"⟩
abbrev cL_gone : ByteArray := method_19_code
def yL_gone : MethodName := ⟨RL, "gone", "(LPenPage;II[J)I"⟩
abbrev cL_story : ByteArray := method_20_code
def yL_story : MethodName := ⟨RL, "story", "(LPenPage;I[J)I"⟩
abbrev cL_law : ByteArray := code
def yL_law : MethodName := ⟨RL, "law", "([I)Z"⟩
abbrev vwCl : List vw_C := [(RX0, TX0, 8), (RX1, TX1, 4), (RX2, TX2, 2), (RX3, TX3, 6), (RX4, TX4, 1), (RX5, TX5, 13), (RX6, TX6, 9), (RX7, TX7, 15), (RX8, TX8, 38)]
end
section
/-! ===== an abstract interpreter of the methods: values are intervals, script variables with an offset, null, references by place ===== -/
abbrev ai_V : Type := Nat × Int × Int
abbrev ai_C : Type := Nat × Nat × List ai_V × List (Nat × ai_V)
def ai_T (α : Type) : Nat → Type := fun d => Nat.rec α (fun _ t => t × t) d
abbrev ai_H : Type := ai_T ai_C 7
abbrev ai_E : Type := List (Int × Int)
abbrev ai_G : Type := ai_H × Nat × Nat × Nat × ai_E
abbrev ai_O : Type := Nat × ai_V × ai_G
abbrev ai_R : Type := List ai_O × Nat × Nat
abbrev ai_I : Type := Instr × Nat × Nat × Nat × Nat × List Nat
-- trees
noncomputable def ai_get {α : Type} (d : Nat) : ai_T α d → Nat → α :=
  Nat.rec (motive := fun d => ai_T α d → Nat → α) (fun t _ => t) (fun d ih t i => cond (Nat.ble (Nat.pow (nat_lit 2) d) i) (ih (Prod.snd t) (Nat.sub i (Nat.pow (nat_lit 2) d))) (ih (Prod.fst t) i)) d
noncomputable def ai_set {α : Type} (d : Nat) : ai_T α d → Nat → α → ai_T α d :=
  Nat.rec (motive := fun d => ai_T α d → Nat → α → ai_T α d) (fun _ _ c => c) (fun d ih t i c => cond (Nat.ble (Nat.pow (nat_lit 2) d) i) (Prod.mk (Prod.fst t) (ih (Prod.snd t) (Nat.sub i (Nat.pow (nat_lit 2) d)) c)) (Prod.mk (ih (Prod.fst t) i c) (Prod.snd t))) d
noncomputable def ai_rep {α : Type} (d : Nat) (c : α) : ai_T α d := Nat.rec (motive := ai_T α) c (fun _ t => (t, t)) d
-- lists
noncomputable def ai_nth {α : Type} (a0 : α) (l : List α) : Nat → α :=
  List.rec (motive := fun _ => Nat → α) (fun _ => a0) (fun a _ ih n => Nat.casesOn n a ih) l
noncomputable def ai_upd {α : Type} (l : List α) : Nat → α → List α :=
  List.rec (motive := fun _ => Nat → α → List α) (fun _ _ => []) (fun a t ih n v => Nat.casesOn n (v :: t) (fun n => a :: ih n v)) l
noncomputable def ai_lk (l : List (Nat × ai_V)) (dv : ai_V) (j : Nat) : ai_V :=
  List.rec (motive := fun _ => ai_V) dv (fun q _ ih => cond (Nat.beq q.1 j) q.2 ih) l
-- numbers
def ai_ile (a b : Int) : Bool := match a, b with
  | .ofNat a, .ofNat b => Nat.ble a b
  | .negSucc a, .negSucc b => Nat.ble b a
  | .ofNat _, .negSucc _ => false
  | .negSucc _, .ofNat _ => true
def ai_ieq (a b : Int) : Bool := match a, b with
  | .ofNat a, .ofNat b => Nat.beq a b
  | .negSucc a, .negSucc b => Nat.beq a b
  | _, _ => false
def ai_ilt (a b : Int) : Bool := !(ai_ile b a)
def ai_lo : Int := .negSucc (nat_lit 2147483647)
def ai_hi : Int := .ofNat (nat_lit 2147483647)
def ai_un : ai_V := (9, 0, 0)
def ai_i (c : Int) : ai_V := (0, c, c)
def ai_full : ai_V := (0, ai_lo, ai_hi)
def ai_nul : ai_V := (2, 0, 0)
noncomputable def ai_env (x : ai_E) (k : Nat) : Int × Int := ai_nth (ai_lo, ai_hi) x k
def ai_ok (lo hi : Int) : Bool := ai_ile ai_lo lo && ai_ile hi ai_hi
noncomputable def ai_rng (x : ai_E) (v : ai_V) : Option (Int × Int) :=
  match v with
  | (0, a, b) => some (a, b)
  | (1, a, b) => some (cond (ai_ok ((ai_env x a.toNat).1 + b) ((ai_env x a.toNat).2 + b)) ((ai_env x a.toNat).1 + b, (ai_env x a.toNat).2 + b) (ai_lo, ai_hi))
  | _ => none
/-- what is known of v besides: it lies in [lo, hi] -/
noncomputable def ai_ref (x : ai_E) (v : ai_V) (lo hi : Int) : ai_E :=
  match v with
  | (1, a, b) => cond (ai_ok ((ai_env x a.toNat).1 + b) ((ai_env x a.toNat).2 + b)) (ai_upd x a.toNat (max (ai_env x a.toNat).1 (lo - b), min (ai_env x a.toNat).2 (hi - b))) x
  | _ => x
def ai_norm (lo hi : Int) : ai_V := cond (ai_ok lo hi) (0, lo, hi) ai_full
noncomputable def ai_add (u v : ai_V) : Option ai_V :=
  match u, v with
  | (0, a, b), (0, c, d) => some (ai_norm (a + c) (b + d))
  | (1, k, o), (0, c, d) => some (cond (ai_ieq c d) (1, k, o + c) ai_full)
  | (0, c, d), (1, k, o) => some (cond (ai_ieq c d) (1, k, o + c) ai_full)
  | (1, _, _), (1, _, _) => some ai_full
  | _, _ => none
noncomputable def ai_sub (u v : ai_V) : Option ai_V :=
  match u, v with
  | (0, a, b), (0, c, d) => some (ai_norm (a - d) (b - c))
  | (1, k, o), (0, c, d) => some (cond (ai_ieq c d) (1, k, o - c) ai_full)
  | (0, _, _), (1, _, _) => some ai_full
  | (1, _, _), (1, _, _) => some ai_full
  | _, _ => none
/-- a number's one value -/
noncomputable def ai_one (x : ai_E) (v : ai_V) : Option Int :=
  match ai_rng x v with
  | some (a, b) => cond (ai_ieq a b) (some a) none
  | none => none
noncomputable def ai_isn (v : ai_V) : Bool := Nat.ble v.1 1
/-- an operation that is done on known numbers alone -/
noncomputable def ai_con (f : Int32 → Int32 → Int32) (x : ai_E) (u v : ai_V) : Option ai_V :=
  match ai_one x u, ai_one x v with
  | some a, some b => some (ai_i (f (Int32.ofInt a) (Int32.ofInt b)).toInt)
  | _, _ => cond (ai_isn u && ai_isn v) (some ai_full) none
noncomputable def ai_mul (x : ai_E) (u v : ai_V) : Option ai_V :=
  match ai_one x u, ai_one x v with
  | some a, some b => some (ai_norm (a * b) (a * b))
  | _, _ => cond (ai_isn u && ai_isn v) (some ai_full) none
/-- the script's first number -/
def ai_v0 (u : ai_V) : Bool := Nat.beq u.1 (nat_lit 1) && ai_ieq u.2.1 0 && ai_ieq u.2.2 0
noncomputable def ai_and (x : ai_E) (u v : ai_V) : Option ai_V :=
  match ai_one x u, ai_one x v with
  | some a, some b => some (ai_i (Int32.ofInt a &&& Int32.ofInt b).toInt)
  | none, some b => cond (ai_v0 u && ai_ieq b 31) (some (1, 8, 0)) (cond (ai_isn u && ai_ile (0) (b)) (some (0, 0, b)) (cond (ai_isn u) (some ai_full) none))
  | _, _ => cond (ai_isn u && ai_isn v) (some ai_full) none
noncomputable def ai_div (x : ai_E) (u v : ai_V) : Option ai_V :=
  match ai_one x v with
  | some b => cond (ai_ieq b 0) none (match u with
    | (1, 2, 0) => cond (ai_ieq b 100) (some (1, 6, 0)) (some ai_full)
    | _ => match ai_one x u with
      | some a => some (ai_i (Int32.ofInt a / Int32.ofInt b).toInt)
      | none => cond (ai_isn u) (some ai_full) none)
  | none => none
noncomputable def ai_rem (x : ai_E) (u v : ai_V) : Option ai_V :=
  match ai_one x v with
  | some b => cond (ai_ieq b 0) none (match u with
    | (1, 2, 0) => cond (ai_ieq b 100) (some (1, 7, 0)) (some ai_full)
    | _ => match ai_one x u with
      | some a => some (ai_i (Int32.ofInt a - Int32.ofInt a / Int32.ofInt b * Int32.ofInt b).toInt)
      | none => cond (ai_isn u) (some ai_full) none)
  | none => none
-- comparisons: the ways that they may go, each with what is known then
abbrev ai_B : Type := List (Bool × ai_E)
noncomputable def ai_lt (x : ai_E) (u v : ai_V) : Option ai_B :=
  match ai_rng x u, ai_rng x v with
  | some (a, b), some (c, d) => some ((cond (ai_ilt (a) (d)) [(true, ai_ref (ai_ref x u ai_lo (d - 1)) v (a + 1) ai_hi)] []) ++ (cond (ai_ile (c) (b)) [(false, ai_ref (ai_ref x u c ai_hi) v ai_lo b)] []))
  | _, _ => none
noncomputable def ai_le (x : ai_E) (u v : ai_V) : Option ai_B :=
  match ai_rng x u, ai_rng x v with
  | some (a, b), some (c, d) => some ((cond (ai_ile (a) (d)) [(true, ai_ref (ai_ref x u ai_lo d) v a ai_hi)] []) ++ (cond (ai_ilt (c) (b)) [(false, ai_ref (ai_ref x u (c + 1) ai_hi) v ai_lo (b - 1))] []))
  | _, _ => none
noncomputable def ai_eq (x : ai_E) (u v : ai_V) : Option ai_B :=
  match ai_rng x u, ai_rng x v with
  | some (a, b), some (c, d) => some ((cond (ai_ile (a) (d) && ai_ile (c) (b)) [(true, ai_ref (ai_ref x u c d) v a b)] []) ++
      (cond (Nat.beq u.1 1 && Nat.beq v.1 1 && ai_ieq u.2.1 v.2.1 && ai_ieq u.2.2 v.2.2) [] (cond (ai_ieq c d) ((cond (ai_ilt (a) (c)) [(false, ai_ref x u ai_lo (c - 1))] []) ++ (cond (ai_ilt (c) (b)) [(false, ai_ref x u (c + 1) ai_hi)] [])) [(false, x)])))
  | _, _ => none
def ai_neg (l : Option ai_B) : Option ai_B := match l with
  | some l => some (l.map (fun q => (!q.1, q.2)))
  | none => none
noncomputable def ai_cmp (k : ClassFile.Cond) (x : ai_E) (u v : ai_V) : Option ai_B :=
  match k with
  | .eq => ai_eq x u v
  | .ne => ai_neg (ai_eq x u v)
  | .lt => ai_lt x u v
  | .ge => ai_neg (ai_lt x u v)
  | .gt => ai_neg (ai_le x u v)
  | .le => ai_le x u v
/-- a number's values, one by one -/
noncomputable def ai_vals (x : ai_E) (v : ai_V) : Option (List (Nat × ai_E)) :=
  match ai_rng x v with
  | some (a, b) => cond (ai_ile (0) (a) && ai_ile (b) (a + 12)) (some ((List.range (b + 1 - a).toNat).map (fun i => (a.toNat + i, ai_ref x v (a + i) (a + i))))) none
  | none => none
-- what goes on behind an instruction: K pc locals stack state
abbrev ai_K4 : Type := Nat → List ai_V → List ai_V → ai_G → Option ai_R
abbrev ai_K : Type := Nat → List ai_V → ai_G → Option ai_R
abbrev ai_Op : Type := ai_K → ai_K4 → List ai_V → List ai_V → ai_G → Option ai_R
def ai_x (g : ai_G) : ai_E := Prod.snd (Prod.snd (Prod.snd (Prod.snd g)))
def ai_nx (g : ai_G) : Nat := Prod.fst (Prod.snd g)
def ai_kc (g : ai_G) : Nat := Prod.fst (Prod.snd (Prod.snd g))
def ai_ks (g : ai_G) : Nat := Prod.fst (Prod.snd (Prod.snd (Prod.snd g)))
def ai_ge (g : ai_G) (x : ai_E) : ai_G := (Prod.fst g, ai_nx g, ai_kc g, ai_ks g, x)
def ai_gh (g : ai_G) (h : ai_H) : ai_G := (h, Prod.snd g)
def ai_gk (g : ai_G) (a b : Nat) : ai_G := (Prod.fst g, ai_nx g, a, b, ai_x g)
def ai_join (r q : Option ai_R) : Option ai_R := match r with
  | none => none
  | some (o1, a1, b1) => match q with
    | none => none
    | some (o2, a2, b2) => some (o1 ++ o2, max a1 a2, max b1 b2)
/-- all of some ways on -/
def ai_all {α : Type} (k : α → Option ai_R) : List α → Option ai_R
  | [] => none
  | [q] => k q
  | q :: l => ai_join (k q) (ai_all k l)
def ai_br (pf pt : Nat) (K : ai_K4) (loc st : List ai_V) (g : ai_G) (b : Option ai_B) : Option ai_R := match b with
  | some l => ai_all (fun q => K (cond (Prod.fst q) pt pf) loc st (ai_ge g (Prod.snd q))) l
  | none => none
def ai_o_const (n : Int) (pc : Nat) : ai_Op := fun _ K loc st g => K pc loc (ai_i n :: st) g
def ai_o_lconst (n : Int) (pc : Nat) : ai_Op := fun _ K loc st g => K pc loc ((nat_lit 4, n, n) :: st) g
def ai_o_null (pc : Nat) : ai_Op := fun _ K loc st g => K pc loc (ai_nul :: st) g
/-- null or a reference -/
def ai_isr (t : Nat) : Bool := cond (Nat.ble t (nat_lit 3)) (Nat.ble (nat_lit 2) t) (Nat.beq t (nat_lit 6) || Nat.beq t (nat_lit 7))
noncomputable def ai_o_iload (k pc : Nat) : ai_Op := fun _ K loc st g => cond (Nat.ble (Prod.fst (ai_nth ai_un loc k)) (nat_lit 1)) (K pc loc (ai_nth ai_un loc k :: st) g) none
noncomputable def ai_o_aload (k pc : Nat) : ai_Op := fun _ K loc st g => cond (ai_isr (Prod.fst (ai_nth ai_un loc k))) (K pc loc (ai_nth ai_un loc k :: st) g) none
noncomputable def ai_o_istore (k pc : Nat) : ai_Op := fun _ K loc st g => match st with
  | v :: r => cond (Nat.ble (Prod.fst v) (nat_lit 1)) (K pc (ai_upd loc k v) r g) none
  | [] => none
noncomputable def ai_o_astore (k pc : Nat) : ai_Op := fun _ K loc st g => match st with
  | v :: r => cond (ai_isr (Prod.fst v)) (K pc (ai_upd loc k v) r g) none
  | [] => none
noncomputable def ai_o_inc (k : Nat) (n : Int) (pc : Nat) : ai_Op := fun _ K loc st g => match ai_add (ai_nth ai_un loc k) (ai_i n) with
  | some v => K pc (ai_upd loc k v) st g
  | none => none
noncomputable def ai_o_bin (f : ai_E → ai_V → ai_V → Option ai_V) (pc : Nat) : ai_Op := fun _ K loc st g => match st with
  | v :: t => match t with
    | u :: r => match f (ai_x g) u v with
      | some w => K pc loc (w :: r) g
      | none => none
    | [] => none
  | [] => none
noncomputable def ai_or : ai_E → ai_V → ai_V → Option ai_V := ai_con (fun a b => a ||| b)
noncomputable def ai_shl : ai_E → ai_V → ai_V → Option ai_V := ai_con (fun a b => a <<< (b &&& 31))
noncomputable def ai_shr : ai_E → ai_V → ai_V → Option ai_V := ai_con (fun a b => a >>> (b &&& 31))
noncomputable def ai_ushr : ai_E → ai_V → ai_V → Option ai_V := ai_con (fun a b => (a.toUInt32 >>> (b.toUInt32 &&& Int32.toUInt32 31)).toInt32)
noncomputable def ai_o_i2l (pc : Nat) : ai_Op := fun _ K loc st g => match st with
  | v :: r => cond (ai_isn v) (K pc loc ((Nat.add (Prod.fst v) (nat_lit 4), Prod.snd v) :: r) g) none
  | [] => none
noncomputable def ai_o_lcmp (pc : Nat) : ai_Op := fun _ K loc st g => match st with
  | v :: u :: r => cond (Nat.ble (nat_lit 4) (Prod.fst u) && Nat.ble (nat_lit 4) (Prod.fst v)) (match ai_eq (ai_x g) (Nat.sub (Prod.fst u) (nat_lit 4), Prod.snd u) (Nat.sub (Prod.fst v) (nat_lit 4), Prod.snd v) with
    | some l => ai_all (fun q => K pc loc ((cond (Prod.fst q) (ai_i 0) (0, -1, 1)) :: r) (ai_ge g (Prod.snd q))) l
    | none => none) none
  | _ => none
def ai_o_dup (pc : Nat) : ai_Op := fun _ K loc st g => match st with
  | v :: r => cond (Nat.ble (Prod.fst v) (nat_lit 3)) (K pc loc (v :: v :: r) g) none
  | [] => none
def ai_o_dup2 (pc : Nat) : ai_Op := fun _ K loc st g => match st with
  | v :: u :: r => cond (Nat.ble (Prod.fst v) (nat_lit 3) && Nat.ble (Prod.fst u) (nat_lit 3)) (K pc loc (v :: u :: v :: u :: r) g) none
  | _ => none
def ai_o_pop (pc : Nat) : ai_Op := fun _ K loc st g => match st with
  | v :: r => cond (Nat.ble (Prod.fst v) (nat_lit 3)) (K pc loc r g) none
  | [] => none
def ai_o_goto (pt : Nat) : ai_Op := fun _ K loc st g => K pt loc st g
noncomputable def ai_o_if (c : ClassFile.Cond) (pf pt : Nat) : ai_Op := fun _ K loc st g => match st with
  | u :: r => ai_br pf pt K loc r g (ai_cmp c (ai_x g) u (ai_i (.ofNat (nat_lit 0))))
  | [] => none
noncomputable def ai_o_icmp (c : ClassFile.Cond) (pf pt : Nat) : ai_Op := fun _ K loc st g => match st with
  | v :: t => match t with
    | u :: r => ai_br pf pt K loc r g (ai_cmp c (ai_x g) u v)
    | [] => none
  | [] => none
/-- pt: where null goes -/
def ai_o_isnull (pt pf : Nat) : ai_Op := fun _ K loc st g => match st with
  | v :: r => cond (Nat.beq (Prod.fst v) (nat_lit 2)) (K pt loc r g) (cond (Nat.beq (Prod.fst v) (nat_lit 3)) (K pf loc r g) none)
  | [] => none
noncomputable def ai_o_sw (lo hi : Int) (df : Nat) (ts : List Nat) : ai_Op := fun _ K loc st g => match st with
  | v :: st => match ai_rng (ai_x g) v with
    | some (a, b) => ai_all (fun (q : Nat × ai_E) => K (Prod.fst q) loc st (ai_ge g (Prod.snd q))) ((cond (ai_ilt a lo) [(df, ai_ref (ai_x g) v ai_lo (lo - 1))] []) ++ (cond (ai_ilt hi b) [(df, ai_ref (ai_x g) v (hi + 1) ai_hi)] []) ++
        ((List.range ts.length).filter (fun (i : Nat) => ai_ile a (lo + (i : Int)) && ai_ile (lo + (i : Int)) b)).map (fun (i : Nat) => (ai_nth df ts i, ai_ref (ai_x g) v (lo + (i : Int)) (lo + (i : Int)))))
    | none => none
  | [] => none
/-- the cell that a reference names, with its place -/
noncomputable def ai_cell (g : ai_G) (v : ai_V) : Option (Nat × ai_C) := cond (Nat.beq (Prod.fst v) (nat_lit 3) && Nat.blt (Prod.fst (Prod.snd v)).toNat (ai_nx g)) (some ((Prod.fst (Prod.snd v)).toNat, ai_get (nat_lit 7) (Prod.fst g) (Prod.fst (Prod.snd v)).toNat)) none
noncomputable def ai_o_getf (ci k pc : Nat) : ai_Op := fun _ K loc st g => match st with
  | v :: r => match ai_cell g v with
    | some (_, t, c, fs, _) => cond (Nat.beq t (nat_lit 0) && Nat.beq c ci && Nat.blt k fs.length) (K pc loc (ai_nth ai_un fs k :: r) g) none
    | none => none
  | [] => none
/-- may v stand in a field or an array of this type: 0 a number, 1 a truth value, 2 a reference -/
noncomputable def ai_fits (t : Nat) (x : ai_E) (v : ai_V) : Bool := match t with
  | 0 => ai_isn v
  | 1 => match ai_rng x v with
    | some (a, b) => ai_ile 0 a && ai_ile b 1
    | none => false
  | 2 => Nat.beq (Prod.fst v) (nat_lit 2) || Nat.beq (Prod.fst v) (nat_lit 3)
  | _ => false
noncomputable def ai_o_putf (ci k t pc : Nat) : ai_Op := fun _ K loc st g => match st with
  | v :: u :: r => match ai_cell g u with
    | some (i, tg, c, fs, z) => cond (Nat.beq tg (nat_lit 0) && Nat.beq c ci && Nat.blt k fs.length && ai_fits t (ai_x g) v) (K pc loc r (ai_gh g (ai_set (nat_lit 7) (Prod.fst g) i (tg, c, ai_upd fs k v, z)))) none
    | none => none
  | _ => none
noncomputable def ai_o_len (sl : Int × Int) (pc : Nat) : ai_Op := fun _ K loc st g => match st with
  | v :: r => cond (Nat.beq (Prod.fst v) (nat_lit 6)) (K pc loc ((nat_lit 0, sl) :: r) g) (match ai_cell g v with
    | some (_, t, n, _, _) => cond (Nat.ble (nat_lit 1) t) (K pc loc (ai_i (.ofNat n) :: r) g) none
    | none => none)
  | [] => none
/-- p: which kinds of array the instruction takes (1 int, 2 boolean, 3 long, 4 and on: references) -/
noncomputable def ai_o_ald (sl : Int × Int) (p : Nat → Bool) (pc : Nat) : ai_Op := fun _ K loc st g => match st with
  | i :: u :: r => match ai_vals (ai_x g) i with
    | some l => cond (Nat.beq (Prod.fst u) (nat_lit 6)) (cond (p 1 && l.all (fun q => ai_ilt (.ofNat (Prod.fst q)) (Prod.fst sl))) (ai_all (fun q => K pc loc ((nat_lit 1, .ofNat (Prod.fst q), 0) :: r) (ai_ge g (Prod.snd q))) l) none)
      (match ai_cell g u with
      | some (_, t, n, d, us) => cond (p t && l.all (fun q => Nat.blt (Prod.fst q) n)) (ai_all (fun q => K pc loc (ai_lk us (ai_nth ai_un d (nat_lit 0)) (Prod.fst q) :: r) (ai_ge g (Prod.snd q))) l) none
      | none => none)
    | none => none
  | _ => none
def ai_is1 : Nat → Bool := fun t => Nat.beq t (nat_lit 1)
def ai_is2 : Nat → Bool := fun t => Nat.beq t (nat_lit 2)
def ai_is3 : Nat → Bool := fun t => Nat.beq t (nat_lit 3)
def ai_is4 : Nat → Bool := fun t => Nat.beq t (nat_lit 4) || Nat.beq t (nat_lit 5)
/-- may v stand in an array of kind t: 1 a number, 2 a truth value, 3 a long, 4 and on references -/
noncomputable def ai_afit (t : Nat) (x : ai_E) (v : ai_V) : Bool := match t with
  | 1 => ai_isn v
  | 2 => ai_fits 1 x v
  | 3 => Nat.beq (Prod.fst v) (nat_lit 4) || Nat.beq (Prod.fst v) (nat_lit 5)
  | _ => false
noncomputable def ai_o_ast (k pc : Nat) : ai_Op := fun _ K loc st g => match st with
  | v :: i :: u :: r => match ai_cell g u with
    | some (a, t, n, d, us) => match ai_vals (ai_x g) i with
      | some l => cond (Nat.beq t k && l.all (fun q => Nat.blt (Prod.fst q) n) && ai_afit k (ai_x g) v) (ai_all (fun q => K pc loc r (ai_ge (ai_gh g (ai_set (nat_lit 7) (Prod.fst g) a (t, n, d, (Prod.fst q, v) :: us))) (Prod.snd q))) l) none
      | none => none
    | none => none
  | _ => none
/-- the class whose objects an array of kind t holds -/
def ai_ofk (t : Nat) : Nat := cond (Nat.beq t (nat_lit 4)) (nat_lit 3) (nat_lit 4)
noncomputable def ai_rfit (t : Nat) (g : ai_G) (v : ai_V) : Bool := cond (Nat.beq (Prod.fst v) (nat_lit 2)) true (match ai_cell g v with
  | some (_, tg, c, _, _) => Nat.beq tg (nat_lit 0) && Nat.beq c (ai_ofk t)
  | none => false)
noncomputable def ai_o_aast (pc : Nat) : ai_Op := fun _ K loc st g => match st with
  | v :: i :: u :: r => match ai_cell g u with
    | some (a, t, n, d, us) => match ai_vals (ai_x g) i with
      | some l => cond ((Nat.beq t (nat_lit 4) || Nat.beq t (nat_lit 5)) && l.all (fun q => Nat.blt (Prod.fst q) n) && ai_rfit t g v) (ai_all (fun q => K pc loc r (ai_ge (ai_gh g (ai_set (nat_lit 7) (Prod.fst g) a (t, n, d, (Prod.fst q, v) :: us))) (Prod.snd q))) l) none
      | none => none
    | none => none
  | _ => none
/-- a new cell c of s slots -/
noncomputable def ai_mk (c : ai_C) (s pc : Nat) (K : ai_K4) (loc st : List ai_V) (g : ai_G) : Option ai_R :=
  cond (Nat.blt (ai_nx g) (nat_lit 128)) (K pc loc ((nat_lit 3, .ofNat (ai_nx g), 0) :: st) (ai_set (nat_lit 7) (Prod.fst g) (ai_nx g) c, Nat.succ (ai_nx g), Nat.succ (ai_kc g), Nat.add (ai_ks g) s, ai_x g)) none
/-- t: the array's kind; dv: what stands in it at first -/
noncomputable def ai_o_newa (t : Nat) (dv : ai_V) (pc : Nat) : ai_Op := fun _ K loc st g => match st with
  | n :: r => match ai_one (ai_x g) n with
    | some a => cond (ai_ile 0 a && ai_ile a 1000000) (ai_mk (t, a.toNat, [dv], []) a.toNat pc K loc r g) none
    | none => none
  | [] => none
noncomputable def ai_rows (n k : Nat) (h : ai_H) (b : Nat) : ai_H :=
  Nat.rec (motive := fun _ => ai_H) h (fun i h => ai_set (nat_lit 7) h (Nat.add b i) (nat_lit 1, k, [ai_i 0], [])) n
noncomputable def ai_o_mna (pc : Nat) : ai_Op := fun _ K loc st g => match st with
  | k :: n :: r => match ai_one (ai_x g) n with
    | some a => match ai_one (ai_x g) k with
      | some b => cond (ai_ile 0 a && ai_ile a 100 && ai_ile 0 b && ai_ile b 100 && Nat.ble (Nat.add (Nat.succ (ai_nx g)) a.toNat) (nat_lit 128))
        (K pc loc ((nat_lit 3, .ofNat (ai_nx g), 0) :: r) (ai_rows a.toNat b.toNat (ai_set (nat_lit 7) (Prod.fst g) (ai_nx g) (nat_lit 6, a.toNat, [ai_nul], (List.range a.toNat).map (fun i => (i, (nat_lit 3, .ofNat (Nat.add (Nat.succ (ai_nx g)) i), 0))))) (Nat.succ (ai_nx g)),
          Nat.add (Nat.succ (ai_nx g)) a.toNat, Nat.add (Nat.succ (ai_kc g)) a.toNat, Nat.add (Nat.add (ai_ks g) a.toNat) (Nat.mul a.toNat b.toNat), ai_x g)) none
      | none => none
    | none => none
  | _ => none
noncomputable def ai_o_new (ci : Nat) (fs : List ai_V) (pc : Nat) : ai_Op := fun _ K loc st g => ai_mk (nat_lit 0, ci, fs, []) fs.length pc K loc st g
/-- a throw of kind k (2, 3) -/
def ai_o_throw (k : Nat) : ai_Op := fun _ _ _ st g => match st with
  | [] => some ([(k, ai_nul, ai_gk g (Nat.succ (ai_kc g)) (Nat.add (ai_ks g) (nat_lit 6)))], Nat.succ (ai_kc g), Nat.add (ai_ks g) (nat_lit 6))
  | _ => none
/-- what comes behind a call's outcome: h2, h3: the handlers' places (0: it leaves the method) -/
def ai_cont (pc : Nat) (K : ai_K4) (loc st : List ai_V) (h2 h3 x1 x2 : Nat) (q : ai_O) : Option ai_R :=
  cond (Nat.beq (Prod.fst q) (nat_lit 0)) (K pc loc st (ai_gk (Prod.snd (Prod.snd q)) x1 x2))
  (cond (Nat.beq (Prod.fst q) (nat_lit 1)) (K pc loc (Prod.fst (Prod.snd q) :: st) (ai_gk (Prod.snd (Prod.snd q)) x1 x2))
  (cond (Nat.beq (Prod.fst q) (nat_lit 2)) (cond (Nat.beq h2 (nat_lit 0)) (some ([(nat_lit 2, Prod.fst (Prod.snd q), ai_gk (Prod.snd (Prod.snd q)) x1 x2)], x1, x2)) (K h2 loc [(nat_lit 7, 0, 0)] (ai_gk (Prod.snd (Prod.snd q)) x1 x2)))
  (cond (Nat.beq (Prod.fst q) (nat_lit 3)) (cond (Nat.beq h3 (nat_lit 0)) (some ([(nat_lit 3, Prod.fst (Prod.snd q), ai_gk (Prod.snd (Prod.snd q)) x1 x2)], x1, x2)) (K h3 loc [(nat_lit 7, 0, 0)] (ai_gk (Prod.snd (Prod.snd q)) x1 x2))) none)))
/-- vk: a callee that may throw -/
noncomputable def ai_o_call (vk : Bool) (j n h2 h3 pc : Nat) : ai_Op := fun call K loc st g =>
  cond (Nat.ble n st.length && Nat.ble (st.drop n).length (nat_lit 4)) (match call j (st.take n).reverse g with
  | some (os, x1, x2) => cond ((vk || os.all (fun q => Nat.ble (Prod.fst q) (nat_lit 1))) && (Nat.ble (ai_kc g) x1 && Nat.ble (ai_ks g) x2)) (ai_all (ai_cont pc K loc (st.drop n) h2 h3 x1 x2) os) none
  | none => none) none
/-- the receiver is an object -/
noncomputable def ai_o_virt (vk : Bool) (ci j n h2 h3 pc : Nat) : ai_Op := fun call K loc st g =>
  match ai_cell g (ai_nth ai_un st (Nat.pred n)) with
  | some (_, t, c, _, _) => cond (Nat.beq t (nat_lit 0) && Nat.beq c ci) (ai_o_call vk j n h2 h3 pc call K loc st g) none
  | none => none
/-- Math.max, Math.min -/
noncomputable def ai_o_mm (mx : Bool) (pc : Nat) : ai_Op := fun _ K loc st g => match st with
  | v :: t => match t with
    | u :: r => cond (Nat.ble r.length (nat_lit 4)) (match cond mx (ai_lt (ai_x g) u v) (ai_lt (ai_x g) v u) with
      | some l => ai_all (fun q => K pc loc ((cond (Prod.fst q) v u) :: r) (ai_ge g (Prod.snd q))) l
      | none => none) none
    | [] => none
  | [] => none
def ai_o_oinit (pc : Nat) : ai_Op := fun _ K loc st g => match st with
  | [v] => cond (Nat.beq (Prod.fst v) (nat_lit 3)) (K pc loc [] g) none
  | _ => none
noncomputable def ai_cp (us vs : List (Nat × ai_V)) (d0 : ai_V) (sp dp n : Nat) : List (Nat × ai_V) := (List.range n).map (fun i => (Nat.add dp i, ai_lk us d0 (Nat.add sp i))) ++ vs
noncomputable def ai_o_copy (pc : Nat) : ai_Op := fun _ K loc st g => match st with
  | [n, dp, d, sp, s] => match ai_cell g s with
    | some (i, t1, ns, ds, us) => match ai_cell g d with
      | some (j, t2, nd, dd, vs) => match ai_one (ai_x g) n with
        | some n => match ai_one (ai_x g) dp with
          | some dp => match ai_one (ai_x g) sp with
            | some sp => cond (Nat.beq t1 (nat_lit 1) && Nat.beq t2 (nat_lit 1) && ai_ile 0 n && ai_ile 0 dp && ai_ile 0 sp && Nat.ble (Nat.add sp.toNat n.toNat) ns && Nat.ble (Nat.add dp.toNat n.toNat) nd && !(Nat.beq i j))
                (K pc loc [] (ai_gh g (ai_set (nat_lit 7) (Prod.fst g) j (t2, nd, dd, ai_cp us vs (ai_nth ai_un ds (nat_lit 0)) sp.toNat dp.toNat n.toNat)))) none
            | none => none
          | none => none
        | none => none
      | none => none
    | none => none
  | _ => none
def ai_end (k : Nat) (v : ai_V) (g : ai_G) : Option ai_R := some ([(k, v, g)], ai_kc g, ai_ks g)
noncomputable def ai_o_iret : ai_Op := fun _ _ _ st g => match st with
  | [v] => cond (ai_isn v) (ai_end (nat_lit 1) v g) none
  | _ => none
/-- a truth value is answered -/
noncomputable def ai_o_zret : ai_Op := fun _ _ _ st g => match st with
  | [v] => cond (ai_fits 1 (ai_x g) v) (ai_end (nat_lit 1) v g) none
  | _ => none
def ai_o_aret : ai_Op := fun _ _ _ st g => match st with
  | [v] => cond (Nat.beq (Prod.fst v) (nat_lit 2) || Nat.beq (Prod.fst v) (nat_lit 3)) (ai_end (nat_lit 1) v g) none
  | _ => none
def ai_o_vret : ai_Op := fun _ _ _ st g => match st with
  | [] => ai_end (nat_lit 0) ai_nul g
  | _ => none
def ai_fld (c : Nat) : List ai_V := cond (Nat.ble c 3) (cond (Nat.ble c 1) (cond (Nat.ble c 0) (cond (Nat.beq c 0) ([ai_nul, ai_nul, ai_nul, ai_i 0, ai_i 0, ai_i 0, ai_i 0, ai_i 0]) ([])) (cond (Nat.beq c 1) ([ai_nul, ai_nul, ai_i 0, ai_i 0]) ([]))) (cond (Nat.ble c 2) (cond (Nat.beq c 2) ([ai_nul, ai_i 0]) ([])) (cond (Nat.beq c 3) ([ai_i 0, ai_nul, ai_nul, ai_nul, ai_i 0, ai_i 0]) ([])))) (cond (Nat.ble c 5) (cond (Nat.ble c 4) (cond (Nat.beq c 4) ([ai_nul]) ([])) (cond (Nat.beq c 5) ([ai_nul, ai_nul, ai_nul, ai_nul, ai_nul, ai_nul, ai_nul, ai_nul, ai_i 0, ai_i 0, ai_i 0, ai_i 0, ai_i 0]) ([]))) (cond (Nat.ble c 6) (cond (Nat.beq c 6) ([ai_nul, ai_nul, ai_nul, ai_nul, ai_nul, ai_nul, ai_nul, ai_i 0, ai_i 0]) ([])) (cond (Nat.ble c 7) (cond (Nat.beq c 7) ([ai_nul, ai_nul, ai_nul, ai_nul, ai_nul, ai_nul, ai_nul, ai_nul, ai_nul, ai_nul, ai_i 0, ai_i 0, ai_i 0, ai_i 0, ai_i 0]) ([])) (cond (Nat.beq c 8) ([ai_i 0, ai_i 0, ai_nul, ai_nul, ai_nul, ai_nul, ai_nul, ai_nul, ai_nul, ai_nul, ai_nul, ai_nul, ai_i 0, ai_i 0, ai_nul, ai_nul, ai_i 0, ai_i 0, ai_i 0, ai_i 0, ai_i 0, ai_i 0, ai_i 0, ai_i 0, ai_i 0, ai_nul, ai_nul, ai_nul, ai_nul, ai_nul, ai_nul, ai_nul, ai_i 0, ai_i 0, ai_i 0, ai_nul, ai_nul, ai_nul]) ([])))))
/-- the operation of an instruction: npc, k0, k1, k2, ks as the table has them -/
noncomputable def ai_sem (sl : Int × Int) (e : ai_I) : Option ai_Op := match e with
  | (i, pc, k0, k1, k2, ks) => match i with
    | .iconst n => some (ai_o_const n pc)
    | .bipush n => some (ai_o_const n pc)
    | .sipush n => some (ai_o_const n pc)
    | .ldc _ => some (ai_o_const (.ofNat k0) pc)
    | .ldc_w _ => some (ai_o_const (.ofNat k0) pc)
    | .lconst _ => some (ai_o_lconst (.ofNat k0) pc)
    | .aconst_null => some (ai_o_null pc)
    | .iload _ => some (ai_o_iload k0 pc)
    | .iload_n _ => some (ai_o_iload k0 pc)
    | .aload _ => some (ai_o_aload k0 pc)
    | .aload_n _ => some (ai_o_aload k0 pc)
    | .istore _ => some (ai_o_istore k0 pc)
    | .istore_n _ => some (ai_o_istore k0 pc)
    | .astore _ => some (ai_o_astore k0 pc)
    | .astore_n _ => some (ai_o_astore k0 pc)
    | .iinc _ n => some (ai_o_inc k0 n pc)
    | .iadd => some (ai_o_bin (fun _ => ai_add) pc)
    | .isub => some (ai_o_bin (fun _ => ai_sub) pc)
    | .imul => some (ai_o_bin ai_mul pc)
    | .idiv => some (ai_o_bin ai_div pc)
    | .irem => some (ai_o_bin ai_rem pc)
    | .iand => some (ai_o_bin ai_and pc)
    | .ior => some (ai_o_bin ai_or pc)
    | .ishl => some (ai_o_bin ai_shl pc)
    | .ishr => some (ai_o_bin ai_shr pc)
    | .iushr => some (ai_o_bin ai_ushr pc)
    | .i2l => some (ai_o_i2l pc)
    | .lcmp => some (ai_o_lcmp pc)
    | .dup => some (ai_o_dup pc)
    | .dup2 => some (ai_o_dup2 pc)
    | .pop => some (ai_o_pop pc)
    | .goto _ => some (ai_o_goto k0)
    | .ifCond c _ => some (ai_o_if c pc k0)
    | .if_icmp c _ => some (ai_o_icmp c pc k0)
    | .ifnull _ => some (ai_o_isnull k0 pc)
    | .ifnonnull _ => some (ai_o_isnull pc k0)
    | .tableswitch _ lo hi _ => some (ai_o_sw lo hi k0 ks)
    | .getfield _ => some (ai_o_getf k0 k1 pc)
    | .putfield _ => some (ai_o_putf k0 k1 k2 pc)
    | .arraylength => some (ai_o_len sl pc)
    | .iaload => some (ai_o_ald sl ai_is1 pc)
    | .baload => some (ai_o_ald sl ai_is2 pc)
    | .laload => some (ai_o_ald sl ai_is3 pc)
    | .aaload => some (ai_o_ald sl ai_is4 pc)
    | .iastore => some (ai_o_ast 1 pc)
    | .bastore => some (ai_o_ast 2 pc)
    | .lastore => some (ai_o_ast 3 pc)
    | .aastore => some (ai_o_aast pc)
    | .newarray _ => some (ai_o_newa k0 (k1, 0, 0) pc)
    | .anewarray _ => some (ai_o_newa k0 ai_nul pc)
    | .multianewarray _ _ => some (ai_o_mna pc)
    | .new _ => match k2 with
      | 0 => some (ai_o_new k0 (ai_fld k0) pc)
      | _ => some (ai_o_throw k0)
    | .invokevirtual _ => some (ai_o_virt true (ai_nth 0 ks 0) k0 k1 (ai_nth 0 ks 1) (ai_nth 0 ks 2) pc)
    | .invokespecial _ => match k2 with
      | 5 => some (ai_o_oinit pc)
      | _ => some (ai_o_virt false (ai_nth 0 ks 0) k0 k1 0 0 pc)
    | .invokestatic _ => match k2 with
      | 6 => some (ai_o_copy pc)
      | 8 => some (ai_o_mm true pc)
      | 9 => some (ai_o_mm false pc)
      | _ => some (ai_o_call false k0 k1 0 0 pc)
    | .ireturn => match k0 with
      | 0 => some ai_o_iret
      | _ => some ai_o_zret
    | .areturn => some ai_o_aret
    | .return_ => some ai_o_vret
    | _ => none
/-- the operation at a place of a method's list -/
noncomputable def ai_find (l : List (Nat × ai_I)) (sl : Int × Int) (pc : Nat) : Option ai_Op :=
  List.rec (motive := fun _ => Option ai_Op) none (fun q _ ih => cond (Nat.beq (Prod.fst q) pc) (ai_sem sl (Prod.snd q)) ih) l
/-- a run: from a frame to the method's outcomes, with the most cells and slots on the way -/
noncomputable def ai_run (code : Nat → Option ai_Op) (call : ai_K) (n : Nat) : ai_K4 :=
  Nat.rec (motive := fun _ => ai_K4) (fun _ _ _ _ => none) (fun _ ih pc loc st g => match code pc with
    | none => none
    | some o => o call ih loc st g) n
end
section
abbrev ai_M : Type := MethodName × ByteArray × Nat × Option FieldType × Nat × List (Nat × Nat × Nat × Nat) × List (Nat × ai_I)
-- PenPageLaw.law([I)Z
def ai_c0_0 : List (Nat × ai_I) := [(0, .new 8, 3, 7, 0, 0, []), (3, .dup, 4, 0, 0, 0, []), (4, .invokespecial 73, 7, 1, 1, 0, [7, 0, 0]), (7, .astore_n 1, 8, 1, 0, 0, []), (8, .new 74, 11, 8, 0, 0, []), (11, .dup, 12, 0, 0, 0, []), (12, .invokespecial 76, 15, 108, 1, 0, [8, 0, 0]), (15, .astore_n 2, 16, 2, 0, 0, []), (16, .iconst 1, 17, 0, 0, 0, []), (17, .newarray .long, 19, 3, 4, 0, []), (19, .astore_n 3, 20, 3, 0, 0, []), (20, .iconst 0, 21, 0, 0, 0, []), (21, .istore 4, 23, 4, 0, 0, []), (23, .iload 4, 25, 4, 0, 0, []), (25, .aload_n 0, 26, 0, 0, 0, []), (26, .arraylength, 27, 0, 0, 0, []), (27, .bipush 6, 29, 0, 0, 0, []), (29, .isub, 30, 0, 0, 0, []), (30, .if_icmp .gt 1641, 33, 1671, 0, 0, []), (33, .aload_n 0, 34, 0, 0, 0, []), (34, .iload 4, 36, 4, 0, 0, []), (36, .iaload, 37, 0, 0, 0, []), (37, .bipush 31, 39, 0, 0, 0, []), (39, .iand, 40, 0, 0, 0, []), (40, .tableswitch 1625 0 24 #[116, 152, 208, 276, 356, 448, 528, 596, 664, 756, 848, 921, 989, 1002, 1094, 1174, 1242, 1317, 1385, 1460, 1485, 1534, 1545, 1601, 1612], 156, 1665, 0, 0, [156, 192, 248, 316, 396, 488, 568, 636, 704, 796, 888, 961, 1029, 1042, 1134, 1214, 1282, 1357, 1425, 1500, 1525, 1574, 1585, 1641, 1652]), (156, .aload_n 1, 157, 1, 0, 0, []), (157, .aload_n 0, 158, 0, 0, 0, []), (158, .iload 4, 160, 4, 0, 0, []), (160, .iconst 1, 161, 0, 0, 0, []), (161, .iadd, 162, 0, 0, 0, []), (162, .iaload, 163, 0, 0, 0, []), (163, .invokestatic 77, 166, 107, 2, 2, []), (166, .istore 5, 168, 5, 0, 0, []), (168, .aload_n 2, 169, 2, 0, 0, []), (169, .aload_n 0, 170, 0, 0, 0, []), (170, .iload 4, 172, 4, 0, 0, []), (172, .iconst 1, 173, 0, 0, 0, []), (173, .iadd, 174, 0, 0, 0, []), (174, .iaload, 175, 0, 0, 0, []), (175, .invokevirtual 82, 178, 163, 2, 0, [8, 0, 0])]
def ai_c0_1 : List (Nat × ai_I) := [(178, .aload_n 2, 179, 2, 0, 0, []), (179, .invokevirtual 83, 182, 159, 1, 0, [8, 0, 0]), (182, .iload 5, 184, 5, 0, 0, []), (184, .if_icmp .eq 5, 187, 189, 0, 0, []), (189, .goto 1476, 192, 1665, 0, 0, []), (192, .aload_n 1, 193, 1, 0, 0, []), (193, .aload_n 0, 194, 0, 0, 0, []), (194, .iload 4, 196, 4, 0, 0, []), (196, .iconst 1, 197, 0, 0, 0, []), (197, .iadd, 198, 0, 0, 0, []), (198, .iaload, 199, 0, 0, 0, []), (199, .aload_n 3, 200, 3, 0, 0, []), (200, .invokestatic 87, 203, 91, 3, 2, []), (203, .istore 5, 205, 5, 0, 0, []), (205, .aload_n 2, 206, 2, 0, 0, []), (206, .aload_n 0, 207, 0, 0, 0, []), (207, .iload 4, 209, 4, 0, 0, []), (209, .iconst 1, 210, 0, 0, 0, []), (210, .iadd, 211, 0, 0, 0, []), (211, .iaload, 212, 0, 0, 0, []), (212, .invokevirtual 90, 215, 116, 2, 0, [8, 0, 0]), (215, .istore 6, 217, 6, 0, 0, []), (217, .aload_n 2, 218, 2, 0, 0, []), (218, .invokevirtual 83, 221, 159, 1, 0, [8, 0, 0]), (221, .iload 5, 223, 5, 0, 0, []), (223, .if_icmp .eq 5, 226, 228, 0, 0, []), (228, .iload 5, 230, 5, 0, 0, []), (230, .ifCond .ne 15, 233, 245, 0, 0, []), (233, .aload_n 3, 234, 3, 0, 0, []), (234, .iconst 0, 235, 0, 0, 0, []), (235, .laload, 236, 0, 0, 0, []), (236, .iload 6, 238, 6, 0, 0, []), (238, .i2l, 239, 0, 0, 0, []), (239, .lcmp, 240, 0, 0, 0, []), (240, .ifCond .eq 5, 243, 245, 0, 0, []), (245, .goto 1420, 248, 1665, 0, 0, []), (248, .aload_n 1, 249, 1, 0, 0, []), (249, .aload_n 0, 250, 0, 0, 0, []), (250, .iload 4, 252, 4, 0, 0, []), (252, .iconst 1, 253, 0, 0, 0, [])]
def ai_c0_2 : List (Nat × ai_I) := [(253, .iadd, 254, 0, 0, 0, []), (254, .iaload, 255, 0, 0, 0, []), (255, .aload_n 0, 256, 0, 0, 0, []), (256, .iload 4, 258, 4, 0, 0, []), (258, .iconst 2, 259, 0, 0, 0, []), (259, .iadd, 260, 0, 0, 0, []), (260, .iaload, 261, 0, 0, 0, []), (261, .aload_n 3, 262, 3, 0, 0, []), (262, .invokestatic 91, 265, 98, 4, 2, []), (265, .istore 5, 267, 5, 0, 0, []), (267, .aload_n 2, 268, 2, 0, 0, []), (268, .aload_n 0, 269, 0, 0, 0, []), (269, .iload 4, 271, 4, 0, 0, []), (271, .iconst 1, 272, 0, 0, 0, []), (272, .iadd, 273, 0, 0, 0, []), (273, .iaload, 274, 0, 0, 0, []), (274, .aload_n 0, 275, 0, 0, 0, []), (275, .iload 4, 277, 4, 0, 0, []), (277, .iconst 2, 278, 0, 0, 0, []), (278, .iadd, 279, 0, 0, 0, []), (279, .iaload, 280, 0, 0, 0, []), (280, .invokevirtual 94, 283, 140, 3, 0, [8, 0, 0]), (283, .istore 6, 285, 6, 0, 0, []), (285, .aload_n 2, 286, 2, 0, 0, []), (286, .invokevirtual 83, 289, 159, 1, 0, [8, 0, 0]), (289, .iload 5, 291, 5, 0, 0, []), (291, .if_icmp .eq 5, 294, 296, 0, 0, []), (296, .iload 5, 298, 5, 0, 0, []), (298, .ifCond .ne 15, 301, 313, 0, 0, []), (301, .aload_n 3, 302, 3, 0, 0, []), (302, .iconst 0, 303, 0, 0, 0, []), (303, .laload, 304, 0, 0, 0, []), (304, .iload 6, 306, 6, 0, 0, []), (306, .i2l, 307, 0, 0, 0, []), (307, .lcmp, 308, 0, 0, 0, []), (308, .ifCond .eq 5, 311, 313, 0, 0, []), (313, .goto 1352, 316, 1665, 0, 0, []), (316, .aload_n 1, 317, 1, 0, 0, []), (317, .aload_n 0, 318, 0, 0, 0, []), (318, .iload 4, 320, 4, 0, 0, [])]
def ai_c0_3 : List (Nat × ai_I) := [(320, .iconst 1, 321, 0, 0, 0, []), (321, .iadd, 322, 0, 0, 0, []), (322, .iaload, 323, 0, 0, 0, []), (323, .aload_n 0, 324, 0, 0, 0, []), (324, .iload 4, 326, 4, 0, 0, []), (326, .iconst 2, 327, 0, 0, 0, []), (327, .iadd, 328, 0, 0, 0, []), (328, .iaload, 329, 0, 0, 0, []), (329, .aload_n 0, 330, 0, 0, 0, []), (330, .iload 4, 332, 4, 0, 0, []), (332, .iconst 3, 333, 0, 0, 0, []), (333, .iadd, 334, 0, 0, 0, []), (334, .iaload, 335, 0, 0, 0, []), (335, .aload_n 3, 336, 3, 0, 0, []), (336, .invokestatic 95, 339, 104, 5, 2, []), (339, .istore 5, 341, 5, 0, 0, []), (341, .aload_n 2, 342, 2, 0, 0, []), (342, .aload_n 0, 343, 0, 0, 0, []), (343, .iload 4, 345, 4, 0, 0, []), (345, .iconst 1, 346, 0, 0, 0, []), (346, .iadd, 347, 0, 0, 0, []), (347, .iaload, 348, 0, 0, 0, []), (348, .aload_n 0, 349, 0, 0, 0, []), (349, .iload 4, 351, 4, 0, 0, []), (351, .iconst 2, 352, 0, 0, 0, []), (352, .iadd, 353, 0, 0, 0, []), (353, .iaload, 354, 0, 0, 0, []), (354, .aload_n 0, 355, 0, 0, 0, []), (355, .iload 4, 357, 4, 0, 0, []), (357, .iconst 3, 358, 0, 0, 0, []), (358, .iadd, 359, 0, 0, 0, []), (359, .iaload, 360, 0, 0, 0, []), (360, .invokevirtual 98, 363, 158, 4, 0, [8, 0, 0]), (363, .istore 6, 365, 6, 0, 0, []), (365, .aload_n 2, 366, 2, 0, 0, []), (366, .invokevirtual 83, 369, 159, 1, 0, [8, 0, 0]), (369, .iload 5, 371, 5, 0, 0, []), (371, .if_icmp .eq 5, 374, 376, 0, 0, []), (376, .iload 5, 378, 5, 0, 0, []), (378, .ifCond .ne 15, 381, 393, 0, 0, [])]
def ai_c0_4 : List (Nat × ai_I) := [(393, .goto 1272, 396, 1665, 0, 0, []), (396, .aload_n 1, 397, 1, 0, 0, []), (397, .aload_n 0, 398, 0, 0, 0, []), (398, .iload 4, 400, 4, 0, 0, []), (400, .iconst 1, 401, 0, 0, 0, []), (401, .iadd, 402, 0, 0, 0, []), (402, .iaload, 403, 0, 0, 0, []), (403, .aload_n 0, 404, 0, 0, 0, []), (404, .iload 4, 406, 4, 0, 0, []), (406, .iconst 2, 407, 0, 0, 0, []), (407, .iadd, 408, 0, 0, 0, []), (408, .iaload, 409, 0, 0, 0, []), (409, .aload_n 0, 410, 0, 0, 0, []), (410, .iload 4, 412, 4, 0, 0, []), (412, .iconst 3, 413, 0, 0, 0, []), (413, .iadd, 414, 0, 0, 0, []), (414, .iaload, 415, 0, 0, 0, []), (415, .aload_n 0, 416, 0, 0, 0, []), (416, .iload 4, 418, 4, 0, 0, []), (418, .iconst 4, 419, 0, 0, 0, []), (419, .iadd, 420, 0, 0, 0, []), (420, .iaload, 421, 0, 0, 0, []), (421, .aload_n 3, 422, 3, 0, 0, []), (422, .invokestatic 99, 425, 101, 6, 2, []), (425, .istore 5, 427, 5, 0, 0, []), (427, .aload_n 2, 428, 2, 0, 0, []), (428, .aload_n 0, 429, 0, 0, 0, []), (429, .iload 4, 431, 4, 0, 0, []), (431, .iconst 1, 432, 0, 0, 0, []), (432, .iadd, 433, 0, 0, 0, []), (433, .iaload, 434, 0, 0, 0, []), (434, .aload_n 0, 435, 0, 0, 0, []), (435, .iload 4, 437, 4, 0, 0, []), (437, .iconst 2, 438, 0, 0, 0, []), (438, .iadd, 439, 0, 0, 0, []), (439, .iaload, 440, 0, 0, 0, []), (440, .aload_n 0, 441, 0, 0, 0, []), (441, .iload 4, 443, 4, 0, 0, []), (443, .iconst 3, 444, 0, 0, 0, []), (444, .iadd, 445, 0, 0, 0, [])]
def ai_c0_5 : List (Nat × ai_I) := [(445, .iaload, 446, 0, 0, 0, []), (446, .aload_n 0, 447, 0, 0, 0, []), (447, .iload 4, 449, 4, 0, 0, []), (449, .iconst 4, 450, 0, 0, 0, []), (450, .iadd, 451, 0, 0, 0, []), (451, .iaload, 452, 0, 0, 0, []), (452, .invokevirtual 102, 455, 153, 5, 0, [8, 0, 0]), (455, .istore 6, 457, 6, 0, 0, []), (457, .aload_n 2, 458, 2, 0, 0, []), (458, .invokevirtual 83, 461, 159, 1, 0, [8, 0, 0]), (461, .iload 5, 463, 5, 0, 0, []), (463, .if_icmp .eq 5, 466, 468, 0, 0, []), (468, .iload 5, 470, 5, 0, 0, []), (470, .ifCond .ne 15, 473, 485, 0, 0, []), (485, .goto 1180, 488, 1665, 0, 0, []), (488, .aload_n 1, 489, 1, 0, 0, []), (489, .aload_n 0, 490, 0, 0, 0, []), (490, .iload 4, 492, 4, 0, 0, []), (492, .iconst 1, 493, 0, 0, 0, []), (493, .iadd, 494, 0, 0, 0, []), (494, .iaload, 495, 0, 0, 0, []), (495, .aload_n 0, 496, 0, 0, 0, []), (496, .iload 4, 498, 4, 0, 0, []), (498, .iconst 2, 499, 0, 0, 0, []), (499, .iadd, 500, 0, 0, 0, []), (500, .iaload, 501, 0, 0, 0, []), (501, .aload_n 0, 502, 0, 0, 0, []), (502, .iload 4, 504, 4, 0, 0, []), (504, .iconst 3, 505, 0, 0, 0, []), (505, .iadd, 506, 0, 0, 0, []), (506, .iaload, 507, 0, 0, 0, []), (507, .aload_n 3, 508, 3, 0, 0, []), (508, .invokestatic 103, 511, 100, 5, 2, []), (511, .istore 5, 513, 5, 0, 0, []), (513, .aload_n 2, 514, 2, 0, 0, []), (514, .aload_n 0, 515, 0, 0, 0, []), (515, .iload 4, 517, 4, 0, 0, []), (517, .iconst 1, 518, 0, 0, 0, []), (518, .iadd, 519, 0, 0, 0, []), (519, .iaload, 520, 0, 0, 0, [])]
def ai_c0_6 : List (Nat × ai_I) := [(520, .aload_n 0, 521, 0, 0, 0, []), (521, .iload 4, 523, 4, 0, 0, []), (523, .iconst 2, 524, 0, 0, 0, []), (524, .iadd, 525, 0, 0, 0, []), (525, .iaload, 526, 0, 0, 0, []), (526, .aload_n 0, 527, 0, 0, 0, []), (527, .iload 4, 529, 4, 0, 0, []), (529, .iconst 3, 530, 0, 0, 0, []), (530, .iadd, 531, 0, 0, 0, []), (531, .iaload, 532, 0, 0, 0, []), (532, .invokevirtual 105, 535, 151, 4, 0, [8, 0, 0]), (535, .istore 6, 537, 6, 0, 0, []), (537, .aload_n 2, 538, 2, 0, 0, []), (538, .invokevirtual 83, 541, 159, 1, 0, [8, 0, 0]), (541, .iload 5, 543, 5, 0, 0, []), (543, .if_icmp .eq 5, 546, 548, 0, 0, []), (548, .iload 5, 550, 5, 0, 0, []), (550, .ifCond .ne 15, 553, 565, 0, 0, []), (553, .aload_n 3, 554, 3, 0, 0, []), (554, .iconst 0, 555, 0, 0, 0, []), (555, .laload, 556, 0, 0, 0, []), (556, .iload 6, 558, 6, 0, 0, []), (558, .i2l, 559, 0, 0, 0, []), (559, .lcmp, 560, 0, 0, 0, []), (560, .ifCond .eq 5, 563, 565, 0, 0, []), (565, .goto 1100, 568, 1665, 0, 0, []), (568, .aload_n 1, 569, 1, 0, 0, []), (569, .aload_n 0, 570, 0, 0, 0, []), (570, .iload 4, 572, 4, 0, 0, []), (572, .iconst 1, 573, 0, 0, 0, []), (573, .iadd, 574, 0, 0, 0, []), (574, .iaload, 575, 0, 0, 0, []), (575, .aload_n 0, 576, 0, 0, 0, []), (576, .iload 4, 578, 4, 0, 0, []), (578, .iconst 2, 579, 0, 0, 0, []), (579, .iadd, 580, 0, 0, 0, []), (580, .iaload, 581, 0, 0, 0, []), (581, .aload_n 3, 582, 3, 0, 0, []), (582, .invokestatic 106, 585, 103, 4, 2, []), (585, .istore 5, 587, 5, 0, 0, [])]
def ai_c0_7 : List (Nat × ai_I) := [(587, .aload_n 2, 588, 2, 0, 0, []), (588, .aload_n 0, 589, 0, 0, 0, []), (589, .iload 4, 591, 4, 0, 0, []), (591, .iconst 1, 592, 0, 0, 0, []), (592, .iadd, 593, 0, 0, 0, []), (593, .iaload, 594, 0, 0, 0, []), (594, .aload_n 0, 595, 0, 0, 0, []), (595, .iload 4, 597, 4, 0, 0, []), (597, .iconst 2, 598, 0, 0, 0, []), (598, .iadd, 599, 0, 0, 0, []), (599, .iaload, 600, 0, 0, 0, []), (600, .invokevirtual 108, 603, 155, 3, 0, [8, 0, 0]), (603, .istore 6, 605, 6, 0, 0, []), (605, .aload_n 2, 606, 2, 0, 0, []), (606, .invokevirtual 83, 609, 159, 1, 0, [8, 0, 0]), (609, .iload 5, 611, 5, 0, 0, []), (611, .if_icmp .eq 5, 614, 616, 0, 0, []), (616, .iload 5, 618, 5, 0, 0, []), (618, .ifCond .ne 15, 621, 633, 0, 0, []), (621, .aload_n 3, 622, 3, 0, 0, []), (622, .iconst 0, 623, 0, 0, 0, []), (623, .laload, 624, 0, 0, 0, []), (624, .iload 6, 626, 6, 0, 0, []), (626, .i2l, 627, 0, 0, 0, []), (627, .lcmp, 628, 0, 0, 0, []), (628, .ifCond .eq 5, 631, 633, 0, 0, []), (633, .goto 1032, 636, 1665, 0, 0, []), (636, .aload_n 1, 637, 1, 0, 0, []), (637, .aload_n 0, 638, 0, 0, 0, []), (638, .iload 4, 640, 4, 0, 0, []), (640, .iconst 1, 641, 0, 0, 0, []), (641, .iadd, 642, 0, 0, 0, []), (642, .iaload, 643, 0, 0, 0, []), (643, .aload_n 0, 644, 0, 0, 0, []), (644, .iload 4, 646, 4, 0, 0, []), (646, .iconst 2, 647, 0, 0, 0, []), (647, .iadd, 648, 0, 0, 0, []), (648, .iaload, 649, 0, 0, 0, []), (649, .aload_n 3, 650, 3, 0, 0, []), (650, .invokestatic 109, 653, 105, 4, 2, [])]
def ai_c0_8 : List (Nat × ai_I) := [(653, .istore 5, 655, 5, 0, 0, []), (655, .aload_n 2, 656, 2, 0, 0, []), (656, .aload_n 0, 657, 0, 0, 0, []), (657, .iload 4, 659, 4, 0, 0, []), (659, .iconst 1, 660, 0, 0, 0, []), (660, .iadd, 661, 0, 0, 0, []), (661, .iaload, 662, 0, 0, 0, []), (662, .aload_n 0, 663, 0, 0, 0, []), (663, .iload 4, 665, 4, 0, 0, []), (665, .iconst 2, 666, 0, 0, 0, []), (666, .iadd, 667, 0, 0, 0, []), (667, .iaload, 668, 0, 0, 0, []), (668, .invokevirtual 111, 671, 160, 3, 0, [8, 0, 0]), (671, .istore 6, 673, 6, 0, 0, []), (673, .aload_n 2, 674, 2, 0, 0, []), (674, .invokevirtual 83, 677, 159, 1, 0, [8, 0, 0]), (677, .iload 5, 679, 5, 0, 0, []), (679, .if_icmp .eq 5, 682, 684, 0, 0, []), (684, .iload 5, 686, 5, 0, 0, []), (686, .ifCond .ne 15, 689, 701, 0, 0, []), (689, .aload_n 3, 690, 3, 0, 0, []), (690, .iconst 0, 691, 0, 0, 0, []), (691, .laload, 692, 0, 0, 0, []), (692, .iload 6, 694, 6, 0, 0, []), (694, .i2l, 695, 0, 0, 0, []), (695, .lcmp, 696, 0, 0, 0, []), (696, .ifCond .eq 5, 699, 701, 0, 0, []), (701, .goto 964, 704, 1665, 0, 0, []), (704, .aload_n 1, 705, 1, 0, 0, []), (705, .aload_n 0, 706, 0, 0, 0, []), (706, .iload 4, 708, 4, 0, 0, []), (708, .iconst 1, 709, 0, 0, 0, []), (709, .iadd, 710, 0, 0, 0, []), (710, .iaload, 711, 0, 0, 0, []), (711, .aload_n 0, 712, 0, 0, 0, []), (712, .iload 4, 714, 4, 0, 0, []), (714, .iconst 2, 715, 0, 0, 0, []), (715, .iadd, 716, 0, 0, 0, []), (716, .iaload, 717, 0, 0, 0, []), (717, .aload_n 0, 718, 0, 0, 0, [])]
def ai_c0_9 : List (Nat × ai_I) := [(718, .iload 4, 720, 4, 0, 0, []), (720, .iconst 3, 721, 0, 0, 0, []), (721, .iadd, 722, 0, 0, 0, []), (722, .iaload, 723, 0, 0, 0, []), (723, .aload_n 0, 724, 0, 0, 0, []), (724, .iload 4, 726, 4, 0, 0, []), (726, .iconst 4, 727, 0, 0, 0, []), (727, .iadd, 728, 0, 0, 0, []), (728, .iaload, 729, 0, 0, 0, []), (729, .aload_n 3, 730, 3, 0, 0, []), (730, .invokestatic 112, 733, 96, 6, 2, []), (733, .istore 5, 735, 5, 0, 0, []), (735, .aload_n 2, 736, 2, 0, 0, []), (736, .aload_n 0, 737, 0, 0, 0, []), (737, .iload 4, 739, 4, 0, 0, []), (739, .iconst 1, 740, 0, 0, 0, []), (740, .iadd, 741, 0, 0, 0, []), (741, .iaload, 742, 0, 0, 0, []), (742, .aload_n 0, 743, 0, 0, 0, []), (743, .iload 4, 745, 4, 0, 0, []), (745, .iconst 2, 746, 0, 0, 0, []), (746, .iadd, 747, 0, 0, 0, []), (747, .iaload, 748, 0, 0, 0, []), (748, .aload_n 0, 749, 0, 0, 0, []), (749, .iload 4, 751, 4, 0, 0, []), (751, .iconst 3, 752, 0, 0, 0, []), (752, .iadd, 753, 0, 0, 0, []), (753, .iaload, 754, 0, 0, 0, []), (754, .aload_n 0, 755, 0, 0, 0, []), (755, .iload 4, 757, 4, 0, 0, []), (757, .iconst 4, 758, 0, 0, 0, []), (758, .iadd, 759, 0, 0, 0, []), (759, .iaload, 760, 0, 0, 0, []), (760, .invokevirtual 114, 763, 134, 5, 0, [8, 0, 0]), (763, .istore 6, 765, 6, 0, 0, []), (765, .aload_n 2, 766, 2, 0, 0, []), (766, .invokevirtual 83, 769, 159, 1, 0, [8, 0, 0]), (769, .iload 5, 771, 5, 0, 0, []), (771, .if_icmp .eq 5, 774, 776, 0, 0, []), (776, .iload 5, 778, 5, 0, 0, [])]
def ai_c0_10 : List (Nat × ai_I) := [(778, .ifCond .ne 15, 781, 793, 0, 0, []), (781, .aload_n 3, 782, 3, 0, 0, []), (782, .iconst 0, 783, 0, 0, 0, []), (783, .laload, 784, 0, 0, 0, []), (784, .iload 6, 786, 6, 0, 0, []), (786, .i2l, 787, 0, 0, 0, []), (787, .lcmp, 788, 0, 0, 0, []), (788, .ifCond .eq 5, 791, 793, 0, 0, []), (793, .goto 872, 796, 1665, 0, 0, []), (796, .aload_n 1, 797, 1, 0, 0, []), (797, .aload_n 0, 798, 0, 0, 0, []), (798, .iload 4, 800, 4, 0, 0, []), (800, .iconst 1, 801, 0, 0, 0, []), (801, .iadd, 802, 0, 0, 0, []), (802, .iaload, 803, 0, 0, 0, []), (803, .aload_n 0, 804, 0, 0, 0, []), (804, .iload 4, 806, 4, 0, 0, []), (806, .iconst 2, 807, 0, 0, 0, []), (807, .iadd, 808, 0, 0, 0, []), (808, .iaload, 809, 0, 0, 0, []), (809, .aload_n 0, 810, 0, 0, 0, []), (810, .iload 4, 812, 4, 0, 0, []), (812, .iconst 3, 813, 0, 0, 0, []), (813, .iadd, 814, 0, 0, 0, []), (814, .iaload, 815, 0, 0, 0, []), (815, .aload_n 0, 816, 0, 0, 0, []), (816, .iload 4, 818, 4, 0, 0, []), (818, .iconst 4, 819, 0, 0, 0, []), (819, .iadd, 820, 0, 0, 0, []), (820, .iaload, 821, 0, 0, 0, []), (821, .aload_n 3, 822, 3, 0, 0, []), (822, .invokestatic 115, 825, 97, 6, 2, []), (825, .istore 5, 827, 5, 0, 0, []), (827, .aload_n 2, 828, 2, 0, 0, []), (828, .aload_n 0, 829, 0, 0, 0, []), (829, .iload 4, 831, 4, 0, 0, []), (831, .iconst 1, 832, 0, 0, 0, []), (832, .iadd, 833, 0, 0, 0, []), (833, .iaload, 834, 0, 0, 0, []), (834, .aload_n 0, 835, 0, 0, 0, [])]
def ai_c0_11 : List (Nat × ai_I) := [(835, .iload 4, 837, 4, 0, 0, []), (837, .iconst 2, 838, 0, 0, 0, []), (838, .iadd, 839, 0, 0, 0, []), (839, .iaload, 840, 0, 0, 0, []), (840, .aload_n 0, 841, 0, 0, 0, []), (841, .iload 4, 843, 4, 0, 0, []), (843, .iconst 3, 844, 0, 0, 0, []), (844, .iadd, 845, 0, 0, 0, []), (845, .iaload, 846, 0, 0, 0, []), (846, .aload_n 0, 847, 0, 0, 0, []), (847, .iload 4, 849, 4, 0, 0, []), (849, .iconst 4, 850, 0, 0, 0, []), (850, .iadd, 851, 0, 0, 0, []), (851, .iaload, 852, 0, 0, 0, []), (852, .invokevirtual 117, 855, 139, 5, 0, [8, 0, 0]), (855, .istore 6, 857, 6, 0, 0, []), (857, .aload_n 2, 858, 2, 0, 0, []), (858, .invokevirtual 83, 861, 159, 1, 0, [8, 0, 0]), (861, .iload 5, 863, 5, 0, 0, []), (863, .if_icmp .eq 5, 866, 868, 0, 0, []), (868, .iload 5, 870, 5, 0, 0, []), (870, .ifCond .ne 15, 873, 885, 0, 0, []), (885, .goto 780, 888, 1665, 0, 0, []), (888, .aload_n 1, 889, 1, 0, 0, []), (889, .aload_n 0, 890, 0, 0, 0, []), (890, .iload 4, 892, 4, 0, 0, []), (892, .iconst 1, 893, 0, 0, 0, []), (893, .iadd, 894, 0, 0, 0, []), (894, .iaload, 895, 0, 0, 0, []), (895, .aload_n 0, 896, 0, 0, 0, []), (896, .iload 4, 898, 4, 0, 0, []), (898, .iconst 2, 899, 0, 0, 0, []), (899, .iadd, 900, 0, 0, 0, []), (900, .iaload, 901, 0, 0, 0, []), (901, .aload_n 0, 902, 0, 0, 0, []), (902, .iload 4, 904, 4, 0, 0, []), (904, .iconst 3, 905, 0, 0, 0, []), (905, .iadd, 906, 0, 0, 0, []), (906, .iaload, 907, 0, 0, 0, []), (907, .aload_n 0, 908, 0, 0, 0, [])]
def ai_c0_12 : List (Nat × ai_I) := [(908, .iload 4, 910, 4, 0, 0, []), (910, .iconst 4, 911, 0, 0, 0, []), (911, .iadd, 912, 0, 0, 0, []), (912, .iaload, 913, 0, 0, 0, []), (913, .aload_n 0, 914, 0, 0, 0, []), (914, .iload 4, 916, 4, 0, 0, []), (916, .iconst 5, 917, 0, 0, 0, []), (917, .iadd, 918, 0, 0, 0, []), (918, .iaload, 919, 0, 0, 0, []), (919, .invokevirtual 118, 922, 9, 6, 0, [7, 0, 0]), (922, .aload_n 2, 923, 2, 0, 0, []), (923, .aload_n 0, 924, 0, 0, 0, []), (924, .iload 4, 926, 4, 0, 0, []), (926, .iconst 1, 927, 0, 0, 0, []), (927, .iadd, 928, 0, 0, 0, []), (928, .iaload, 929, 0, 0, 0, []), (929, .aload_n 0, 930, 0, 0, 0, []), (930, .iload 4, 932, 4, 0, 0, []), (932, .iconst 2, 933, 0, 0, 0, []), (933, .iadd, 934, 0, 0, 0, []), (934, .iaload, 935, 0, 0, 0, []), (935, .aload_n 0, 936, 0, 0, 0, []), (936, .iload 4, 938, 4, 0, 0, []), (938, .iconst 3, 939, 0, 0, 0, []), (939, .iadd, 940, 0, 0, 0, []), (940, .iaload, 941, 0, 0, 0, []), (941, .aload_n 0, 942, 0, 0, 0, []), (942, .iload 4, 944, 4, 0, 0, []), (944, .iconst 4, 945, 0, 0, 0, []), (945, .iadd, 946, 0, 0, 0, []), (946, .iaload, 947, 0, 0, 0, []), (947, .aload_n 0, 948, 0, 0, 0, []), (948, .iload 4, 950, 4, 0, 0, []), (950, .iconst 5, 951, 0, 0, 0, []), (951, .iadd, 952, 0, 0, 0, []), (952, .iaload, 953, 0, 0, 0, []), (953, .invokevirtual 122, 956, 120, 6, 0, [8, 0, 0]), (956, .if_icmp .eq 709, 959, 1665, 0, 0, []), (961, .aload_n 1, 962, 1, 0, 0, []), (962, .aload_n 0, 963, 0, 0, 0, [])]
def ai_c0_13 : List (Nat × ai_I) := [(963, .iload 4, 965, 4, 0, 0, []), (965, .iconst 1, 966, 0, 0, 0, []), (966, .iadd, 967, 0, 0, 0, []), (967, .iaload, 968, 0, 0, 0, []), (968, .aload_n 0, 969, 0, 0, 0, []), (969, .iload 4, 971, 4, 0, 0, []), (971, .iconst 2, 972, 0, 0, 0, []), (972, .iadd, 973, 0, 0, 0, []), (973, .iaload, 974, 0, 0, 0, []), (974, .aload_n 3, 975, 3, 0, 0, []), (975, .invokestatic 123, 978, 94, 4, 2, []), (978, .istore 5, 980, 5, 0, 0, []), (980, .aload_n 2, 981, 2, 0, 0, []), (981, .aload_n 0, 982, 0, 0, 0, []), (982, .iload 4, 984, 4, 0, 0, []), (984, .iconst 1, 985, 0, 0, 0, []), (985, .iadd, 986, 0, 0, 0, []), (986, .iaload, 987, 0, 0, 0, []), (987, .aload_n 0, 988, 0, 0, 0, []), (988, .iload 4, 990, 4, 0, 0, []), (990, .iconst 2, 991, 0, 0, 0, []), (991, .iadd, 992, 0, 0, 0, []), (992, .iaload, 993, 0, 0, 0, []), (993, .invokevirtual 125, 996, 125, 3, 0, [8, 0, 0]), (996, .istore 6, 998, 6, 0, 0, []), (998, .aload_n 2, 999, 2, 0, 0, []), (999, .invokevirtual 83, 1002, 159, 1, 0, [8, 0, 0]), (1002, .iload 5, 1004, 5, 0, 0, []), (1004, .if_icmp .eq 5, 1007, 1009, 0, 0, []), (1009, .iload 5, 1011, 5, 0, 0, []), (1011, .ifCond .ne 15, 1014, 1026, 0, 0, []), (1014, .aload_n 3, 1015, 3, 0, 0, []), (1015, .iconst 0, 1016, 0, 0, 0, []), (1016, .laload, 1017, 0, 0, 0, []), (1017, .iload 6, 1019, 6, 0, 0, []), (1019, .i2l, 1020, 0, 0, 0, []), (1020, .lcmp, 1021, 0, 0, 0, []), (1021, .ifCond .eq 5, 1024, 1026, 0, 0, []), (1026, .goto 639, 1029, 1665, 0, 0, []), (1029, .aload_n 1, 1030, 1, 0, 0, [])]
def ai_c0_14 : List (Nat × ai_I) := [(1030, .invokevirtual 126, 1033, 8, 1, 0, [7, 0, 0]), (1033, .aload_n 2, 1034, 2, 0, 0, []), (1034, .invokevirtual 129, 1037, 119, 1, 0, [8, 0, 0]), (1037, .if_icmp .eq 628, 1040, 1665, 0, 0, []), (1042, .aload_n 1, 1043, 1, 0, 0, []), (1043, .aload_n 0, 1044, 0, 0, 0, []), (1044, .iload 4, 1046, 4, 0, 0, []), (1046, .iconst 1, 1047, 0, 0, 0, []), (1047, .iadd, 1048, 0, 0, 0, []), (1048, .iaload, 1049, 0, 0, 0, []), (1049, .aload_n 0, 1050, 0, 0, 0, []), (1050, .iload 4, 1052, 4, 0, 0, []), (1052, .iconst 2, 1053, 0, 0, 0, []), (1053, .iadd, 1054, 0, 0, 0, []), (1054, .iaload, 1055, 0, 0, 0, []), (1055, .aload_n 0, 1056, 0, 0, 0, []), (1056, .iload 4, 1058, 4, 0, 0, []), (1058, .iconst 3, 1059, 0, 0, 0, []), (1059, .iadd, 1060, 0, 0, 0, []), (1060, .iaload, 1061, 0, 0, 0, []), (1061, .aload_n 0, 1062, 0, 0, 0, []), (1062, .iload 4, 1064, 4, 0, 0, []), (1064, .iconst 4, 1065, 0, 0, 0, []), (1065, .iadd, 1066, 0, 0, 0, []), (1066, .iaload, 1067, 0, 0, 0, []), (1067, .aload_n 3, 1068, 3, 0, 0, []), (1068, .invokestatic 130, 1071, 99, 6, 2, []), (1071, .istore 5, 1073, 5, 0, 0, []), (1073, .aload_n 2, 1074, 2, 0, 0, []), (1074, .aload_n 0, 1075, 0, 0, 0, []), (1075, .iload 4, 1077, 4, 0, 0, []), (1077, .iconst 1, 1078, 0, 0, 0, []), (1078, .iadd, 1079, 0, 0, 0, []), (1079, .iaload, 1080, 0, 0, 0, []), (1080, .aload_n 0, 1081, 0, 0, 0, []), (1081, .iload 4, 1083, 4, 0, 0, []), (1083, .iconst 2, 1084, 0, 0, 0, []), (1084, .iadd, 1085, 0, 0, 0, []), (1085, .iaload, 1086, 0, 0, 0, []), (1086, .aload_n 0, 1087, 0, 0, 0, [])]
def ai_c0_15 : List (Nat × ai_I) := [(1087, .iload 4, 1089, 4, 0, 0, []), (1089, .iconst 3, 1090, 0, 0, 0, []), (1090, .iadd, 1091, 0, 0, 0, []), (1091, .iaload, 1092, 0, 0, 0, []), (1092, .aload_n 0, 1093, 0, 0, 0, []), (1093, .iload 4, 1095, 4, 0, 0, []), (1095, .iconst 4, 1096, 0, 0, 0, []), (1096, .iadd, 1097, 0, 0, 0, []), (1097, .iaload, 1098, 0, 0, 0, []), (1098, .invokevirtual 132, 1101, 150, 5, 0, [8, 0, 0]), (1101, .istore 6, 1103, 6, 0, 0, []), (1103, .aload_n 2, 1104, 2, 0, 0, []), (1104, .invokevirtual 83, 1107, 159, 1, 0, [8, 0, 0]), (1107, .iload 5, 1109, 5, 0, 0, []), (1109, .if_icmp .eq 5, 1112, 1114, 0, 0, []), (1114, .iload 5, 1116, 5, 0, 0, []), (1116, .ifCond .ne 15, 1119, 1131, 0, 0, []), (1131, .goto 534, 1134, 1665, 0, 0, []), (1134, .aload_n 1, 1135, 1, 0, 0, []), (1135, .aload_n 0, 1136, 0, 0, 0, []), (1136, .iload 4, 1138, 4, 0, 0, []), (1138, .iconst 1, 1139, 0, 0, 0, []), (1139, .iadd, 1140, 0, 0, 0, []), (1140, .iaload, 1141, 0, 0, 0, []), (1141, .aload_n 0, 1142, 0, 0, 0, []), (1142, .iload 4, 1144, 4, 0, 0, []), (1144, .iconst 2, 1145, 0, 0, 0, []), (1145, .iadd, 1146, 0, 0, 0, []), (1146, .iaload, 1147, 0, 0, 0, []), (1147, .aload_n 0, 1148, 0, 0, 0, []), (1148, .iload 4, 1150, 4, 0, 0, []), (1150, .iconst 3, 1151, 0, 0, 0, []), (1151, .iadd, 1152, 0, 0, 0, []), (1152, .iaload, 1153, 0, 0, 0, []), (1153, .aload_n 3, 1154, 3, 0, 0, []), (1154, .invokestatic 133, 1157, 95, 5, 2, []), (1157, .istore 5, 1159, 5, 0, 0, []), (1159, .aload_n 2, 1160, 2, 0, 0, []), (1160, .aload_n 0, 1161, 0, 0, 0, []), (1161, .iload 4, 1163, 4, 0, 0, [])]
def ai_c0_16 : List (Nat × ai_I) := [(1163, .iconst 1, 1164, 0, 0, 0, []), (1164, .iadd, 1165, 0, 0, 0, []), (1165, .iaload, 1166, 0, 0, 0, []), (1166, .aload_n 0, 1167, 0, 0, 0, []), (1167, .iload 4, 1169, 4, 0, 0, []), (1169, .iconst 2, 1170, 0, 0, 0, []), (1170, .iadd, 1171, 0, 0, 0, []), (1171, .iaload, 1172, 0, 0, 0, []), (1172, .aload_n 0, 1173, 0, 0, 0, []), (1173, .iload 4, 1175, 4, 0, 0, []), (1175, .iconst 3, 1176, 0, 0, 0, []), (1176, .iadd, 1177, 0, 0, 0, []), (1177, .iaload, 1178, 0, 0, 0, []), (1178, .invokevirtual 135, 1181, 132, 4, 0, [8, 0, 0]), (1181, .istore 6, 1183, 6, 0, 0, []), (1183, .aload_n 2, 1184, 2, 0, 0, []), (1184, .invokevirtual 83, 1187, 159, 1, 0, [8, 0, 0]), (1187, .iload 5, 1189, 5, 0, 0, []), (1189, .if_icmp .eq 5, 1192, 1194, 0, 0, []), (1194, .iload 5, 1196, 5, 0, 0, []), (1196, .ifCond .ne 15, 1199, 1211, 0, 0, []), (1199, .aload_n 3, 1200, 3, 0, 0, []), (1200, .iconst 0, 1201, 0, 0, 0, []), (1201, .laload, 1202, 0, 0, 0, []), (1202, .iload 6, 1204, 6, 0, 0, []), (1204, .i2l, 1205, 0, 0, 0, []), (1205, .lcmp, 1206, 0, 0, 0, []), (1206, .ifCond .eq 5, 1209, 1211, 0, 0, []), (1211, .goto 454, 1214, 1665, 0, 0, []), (1214, .aload_n 1, 1215, 1, 0, 0, []), (1215, .aload_n 0, 1216, 0, 0, 0, []), (1216, .iload 4, 1218, 4, 0, 0, []), (1218, .iconst 1, 1219, 0, 0, 0, []), (1219, .iadd, 1220, 0, 0, 0, []), (1220, .iaload, 1221, 0, 0, 0, []), (1221, .aload_n 0, 1222, 0, 0, 0, []), (1222, .iload 4, 1224, 4, 0, 0, []), (1224, .iconst 2, 1225, 0, 0, 0, []), (1225, .iadd, 1226, 0, 0, 0, []), (1226, .iaload, 1227, 0, 0, 0, [])]
def ai_c0_17 : List (Nat × ai_I) := [(1227, .aload_n 3, 1228, 3, 0, 0, []), (1228, .invokestatic 136, 1231, 92, 4, 2, []), (1231, .istore 5, 1233, 5, 0, 0, []), (1233, .aload_n 2, 1234, 2, 0, 0, []), (1234, .aload_n 0, 1235, 0, 0, 0, []), (1235, .iload 4, 1237, 4, 0, 0, []), (1237, .iconst 1, 1238, 0, 0, 0, []), (1238, .iadd, 1239, 0, 0, 0, []), (1239, .iaload, 1240, 0, 0, 0, []), (1240, .aload_n 0, 1241, 0, 0, 0, []), (1241, .iload 4, 1243, 4, 0, 0, []), (1243, .iconst 2, 1244, 0, 0, 0, []), (1244, .iadd, 1245, 0, 0, 0, []), (1245, .iaload, 1246, 0, 0, 0, []), (1246, .invokevirtual 138, 1249, 121, 3, 0, [8, 0, 0]), (1249, .istore 6, 1251, 6, 0, 0, []), (1251, .aload_n 2, 1252, 2, 0, 0, []), (1252, .invokevirtual 83, 1255, 159, 1, 0, [8, 0, 0]), (1255, .iload 5, 1257, 5, 0, 0, []), (1257, .if_icmp .eq 5, 1260, 1262, 0, 0, []), (1262, .iload 5, 1264, 5, 0, 0, []), (1264, .ifCond .ne 15, 1267, 1279, 0, 0, []), (1267, .aload_n 3, 1268, 3, 0, 0, []), (1268, .iconst 0, 1269, 0, 0, 0, []), (1269, .laload, 1270, 0, 0, 0, []), (1270, .iload 6, 1272, 6, 0, 0, []), (1272, .i2l, 1273, 0, 0, 0, []), (1273, .lcmp, 1274, 0, 0, 0, []), (1274, .ifCond .eq 5, 1277, 1279, 0, 0, []), (1279, .goto 386, 1282, 1665, 0, 0, []), (1282, .aload_n 1, 1283, 1, 0, 0, []), (1283, .aload_n 0, 1284, 0, 0, 0, []), (1284, .iload 4, 1286, 4, 0, 0, []), (1286, .iconst 1, 1287, 0, 0, 0, []), (1287, .iadd, 1288, 0, 0, 0, []), (1288, .iaload, 1289, 0, 0, 0, []), (1289, .aload_n 0, 1290, 0, 0, 0, []), (1290, .iload 4, 1292, 4, 0, 0, []), (1292, .iconst 2, 1293, 0, 0, 0, []), (1293, .iadd, 1294, 0, 0, 0, [])]
def ai_c0_18 : List (Nat × ai_I) := [(1294, .iaload, 1295, 0, 0, 0, []), (1295, .aload_n 3, 1296, 3, 0, 0, []), (1296, .invokestatic 139, 1299, 90, 4, 2, []), (1299, .istore 5, 1301, 5, 0, 0, []), (1301, .aload_n 2, 1302, 2, 0, 0, []), (1302, .aload_n 0, 1303, 0, 0, 0, []), (1303, .iload 4, 1305, 4, 0, 0, []), (1305, .iconst 1, 1306, 0, 0, 0, []), (1306, .iadd, 1307, 0, 0, 0, []), (1307, .iaload, 1308, 0, 0, 0, []), (1308, .aload_n 0, 1309, 0, 0, 0, []), (1309, .iload 4, 1311, 4, 0, 0, []), (1311, .iconst 2, 1312, 0, 0, 0, []), (1312, .iadd, 1313, 0, 0, 0, []), (1313, .iaload, 1314, 0, 0, 0, []), (1314, .invokevirtual 141, 1317, 112, 3, 0, [8, 0, 0]), (1317, .istore 6, 1319, 6, 0, 0, []), (1319, .aload_n 2, 1320, 2, 0, 0, []), (1320, .invokevirtual 83, 1323, 159, 1, 0, [8, 0, 0]), (1323, .iload 5, 1325, 5, 0, 0, []), (1325, .if_icmp .eq 5, 1328, 1330, 0, 0, []), (1330, .iload 5, 1332, 5, 0, 0, []), (1332, .ifCond .ne 22, 1335, 1354, 0, 0, []), (1335, .aload_n 3, 1336, 3, 0, 0, []), (1336, .iconst 0, 1337, 0, 0, 0, []), (1337, .laload, 1338, 0, 0, 0, []), (1338, .iload 6, 1340, 6, 0, 0, []), (1340, .ifCond .eq 7, 1343, 1347, 0, 0, []), (1343, .lconst 1, 1344, 1, 0, 0, []), (1344, .goto 4, 1347, 1348, 0, 0, []), (1348, .lcmp, 1349, 0, 0, 0, []), (1349, .ifCond .eq 5, 1352, 1354, 0, 0, []), (1354, .goto 311, 1357, 1665, 0, 0, []), (1357, .aload_n 1, 1358, 1, 0, 0, []), (1358, .aload_n 0, 1359, 0, 0, 0, []), (1359, .iload 4, 1361, 4, 0, 0, []), (1361, .iconst 1, 1362, 0, 0, 0, []), (1362, .iadd, 1363, 0, 0, 0, []), (1363, .iaload, 1364, 0, 0, 0, []), (1364, .aload_n 0, 1365, 0, 0, 0, [])]
def ai_c0_19 : List (Nat × ai_I) := [(1365, .iload 4, 1367, 4, 0, 0, []), (1367, .iconst 2, 1368, 0, 0, 0, []), (1368, .iadd, 1369, 0, 0, 0, []), (1369, .iaload, 1370, 0, 0, 0, []), (1370, .aload_n 3, 1371, 3, 0, 0, []), (1371, .invokestatic 142, 1374, 106, 4, 2, []), (1374, .istore 5, 1376, 5, 0, 0, []), (1376, .aload_n 2, 1377, 2, 0, 0, []), (1377, .aload_n 0, 1378, 0, 0, 0, []), (1378, .iload 4, 1380, 4, 0, 0, []), (1380, .iconst 1, 1381, 0, 0, 0, []), (1381, .iadd, 1382, 0, 0, 0, []), (1382, .iaload, 1383, 0, 0, 0, []), (1383, .aload_n 0, 1384, 0, 0, 0, []), (1384, .iload 4, 1386, 4, 0, 0, []), (1386, .iconst 2, 1387, 0, 0, 0, []), (1387, .iadd, 1388, 0, 0, 0, []), (1388, .iaload, 1389, 0, 0, 0, []), (1389, .invokevirtual 144, 1392, 161, 3, 0, [8, 0, 0]), (1392, .istore 6, 1394, 6, 0, 0, []), (1394, .aload_n 2, 1395, 2, 0, 0, []), (1395, .invokevirtual 83, 1398, 159, 1, 0, [8, 0, 0]), (1398, .iload 5, 1400, 5, 0, 0, []), (1400, .if_icmp .eq 5, 1403, 1405, 0, 0, []), (1405, .iload 5, 1407, 5, 0, 0, []), (1407, .ifCond .ne 15, 1410, 1422, 0, 0, []), (1410, .aload_n 3, 1411, 3, 0, 0, []), (1411, .iconst 0, 1412, 0, 0, 0, []), (1412, .laload, 1413, 0, 0, 0, []), (1413, .iload 6, 1415, 6, 0, 0, []), (1415, .i2l, 1416, 0, 0, 0, []), (1416, .lcmp, 1417, 0, 0, 0, []), (1417, .ifCond .eq 5, 1420, 1422, 0, 0, []), (1422, .goto 243, 1425, 1665, 0, 0, []), (1425, .aload_n 1, 1426, 1, 0, 0, []), (1426, .aload_n 0, 1427, 0, 0, 0, []), (1427, .iload 4, 1429, 4, 0, 0, []), (1429, .iconst 1, 1430, 0, 0, 0, []), (1430, .iadd, 1431, 0, 0, 0, []), (1431, .iaload, 1432, 0, 0, 0, [])]
def ai_c0_20 : List (Nat × ai_I) := [(1432, .aload_n 0, 1433, 0, 0, 0, []), (1433, .iload 4, 1435, 4, 0, 0, []), (1435, .iconst 2, 1436, 0, 0, 0, []), (1436, .iadd, 1437, 0, 0, 0, []), (1437, .iaload, 1438, 0, 0, 0, []), (1438, .aload_n 3, 1439, 3, 0, 0, []), (1439, .invokestatic 145, 1442, 93, 4, 2, []), (1442, .istore 5, 1444, 5, 0, 0, []), (1444, .aload_n 2, 1445, 2, 0, 0, []), (1445, .aload_n 0, 1446, 0, 0, 0, []), (1446, .iload 4, 1448, 4, 0, 0, []), (1448, .iconst 1, 1449, 0, 0, 0, []), (1449, .iadd, 1450, 0, 0, 0, []), (1450, .iaload, 1451, 0, 0, 0, []), (1451, .aload_n 0, 1452, 0, 0, 0, []), (1452, .iload 4, 1454, 4, 0, 0, []), (1454, .iconst 2, 1455, 0, 0, 0, []), (1455, .iadd, 1456, 0, 0, 0, []), (1456, .iaload, 1457, 0, 0, 0, []), (1457, .invokevirtual 147, 1460, 122, 3, 0, [8, 0, 0]), (1460, .istore 6, 1462, 6, 0, 0, []), (1462, .aload_n 2, 1463, 2, 0, 0, []), (1463, .invokevirtual 83, 1466, 159, 1, 0, [8, 0, 0]), (1466, .iload 5, 1468, 5, 0, 0, []), (1468, .if_icmp .eq 5, 1471, 1473, 0, 0, []), (1473, .iload 5, 1475, 5, 0, 0, []), (1475, .ifCond .ne 22, 1478, 1497, 0, 0, []), (1497, .goto 168, 1500, 1665, 0, 0, []), (1500, .aload_n 1, 1501, 1, 0, 0, []), (1501, .aload_n 0, 1502, 0, 0, 0, []), (1502, .iload 4, 1504, 4, 0, 0, []), (1504, .iconst 1, 1505, 0, 0, 0, []), (1505, .iadd, 1506, 0, 0, 0, []), (1506, .iaload, 1507, 0, 0, 0, []), (1507, .invokevirtual 148, 1510, 27, 2, 0, [7, 0, 0]), (1510, .aload_n 2, 1511, 2, 0, 0, []), (1511, .aload_n 0, 1512, 0, 0, 0, []), (1512, .iload 4, 1514, 4, 0, 0, []), (1514, .iconst 1, 1515, 0, 0, 0, []), (1515, .iadd, 1516, 0, 0, 0, [])]
def ai_c0_21 : List (Nat × ai_I) := [(1516, .iaload, 1517, 0, 0, 0, []), (1517, .invokevirtual 151, 1520, 149, 2, 0, [8, 0, 0]), (1520, .if_icmp .eq 145, 1523, 1665, 0, 0, []), (1525, .aload_n 1, 1526, 1, 0, 0, []), (1526, .aload_n 0, 1527, 0, 0, 0, []), (1527, .iload 4, 1529, 4, 0, 0, []), (1529, .iconst 1, 1530, 0, 0, 0, []), (1530, .iadd, 1531, 0, 0, 0, []), (1531, .iaload, 1532, 0, 0, 0, []), (1532, .aload_n 0, 1533, 0, 0, 0, []), (1533, .iload 4, 1535, 4, 0, 0, []), (1535, .iconst 2, 1536, 0, 0, 0, []), (1536, .iadd, 1537, 0, 0, 0, []), (1537, .iaload, 1538, 0, 0, 0, []), (1538, .aload_n 0, 1539, 0, 0, 0, []), (1539, .iload 4, 1541, 4, 0, 0, []), (1541, .iconst 3, 1542, 0, 0, 0, []), (1542, .iadd, 1543, 0, 0, 0, []), (1543, .iaload, 1544, 0, 0, 0, []), (1544, .invokevirtual 152, 1547, 2, 4, 0, [7, 0, 0]), (1547, .aload_n 2, 1548, 2, 0, 0, []), (1548, .aload_n 0, 1549, 0, 0, 0, []), (1549, .iload 4, 1551, 4, 0, 0, []), (1551, .iconst 1, 1552, 0, 0, 0, []), (1552, .iadd, 1553, 0, 0, 0, []), (1553, .iaload, 1554, 0, 0, 0, []), (1554, .aload_n 0, 1555, 0, 0, 0, []), (1555, .iload 4, 1557, 4, 0, 0, []), (1557, .iconst 2, 1558, 0, 0, 0, []), (1558, .iadd, 1559, 0, 0, 0, []), (1559, .iaload, 1560, 0, 0, 0, []), (1560, .aload_n 0, 1561, 0, 0, 0, []), (1561, .iload 4, 1563, 4, 0, 0, []), (1563, .iconst 3, 1564, 0, 0, 0, []), (1564, .iadd, 1565, 0, 0, 0, []), (1565, .iaload, 1566, 0, 0, 0, []), (1566, .invokevirtual 155, 1569, 109, 4, 0, [8, 0, 0]), (1569, .if_icmp .eq 96, 1572, 1665, 0, 0, []), (1574, .aload_n 1, 1575, 1, 0, 0, []), (1575, .invokevirtual 156, 1578, 5, 1, 0, [7, 0, 0])]
def ai_c0_22 : List (Nat × ai_I) := [(1578, .aload_n 2, 1579, 2, 0, 0, []), (1579, .invokevirtual 159, 1582, 114, 1, 0, [8, 0, 0]), (1582, .goto 83, 1585, 1665, 0, 0, []), (1585, .aload_n 1, 1586, 1, 0, 0, []), (1586, .aload_n 0, 1587, 0, 0, 0, []), (1587, .iload 4, 1589, 4, 0, 0, []), (1589, .iconst 1, 1590, 0, 0, 0, []), (1590, .iadd, 1591, 0, 0, 0, []), (1591, .iaload, 1592, 0, 0, 0, []), (1592, .aload_n 3, 1593, 3, 0, 0, []), (1593, .invokestatic 160, 1596, 102, 3, 2, []), (1596, .istore 5, 1598, 5, 0, 0, []), (1598, .aload_n 2, 1599, 2, 0, 0, []), (1599, .aload_n 0, 1600, 0, 0, 0, []), (1600, .iload 4, 1602, 4, 0, 0, []), (1602, .iconst 1, 1603, 0, 0, 0, []), (1603, .iadd, 1604, 0, 0, 0, []), (1604, .iaload, 1605, 0, 0, 0, []), (1605, .invokevirtual 162, 1608, 154, 2, 0, [8, 0, 0]), (1608, .istore 6, 1610, 6, 0, 0, []), (1610, .aload_n 2, 1611, 2, 0, 0, []), (1611, .invokevirtual 83, 1614, 159, 1, 0, [8, 0, 0]), (1614, .iload 5, 1616, 5, 0, 0, []), (1616, .if_icmp .eq 5, 1619, 1621, 0, 0, []), (1621, .iload 5, 1623, 5, 0, 0, []), (1623, .ifCond .ne 15, 1626, 1638, 0, 0, []), (1626, .aload_n 3, 1627, 3, 0, 0, []), (1627, .iconst 0, 1628, 0, 0, 0, []), (1628, .laload, 1629, 0, 0, 0, []), (1629, .iload 6, 1631, 6, 0, 0, []), (1631, .i2l, 1632, 0, 0, 0, []), (1632, .lcmp, 1633, 0, 0, 0, []), (1633, .ifCond .eq 5, 1636, 1638, 0, 0, []), (1638, .goto 27, 1641, 1665, 0, 0, []), (1641, .aload_n 1, 1642, 1, 0, 0, []), (1642, .invokevirtual 163, 1645, 15, 1, 0, [7, 0, 0]), (1645, .aload_n 2, 1646, 2, 0, 0, []), (1646, .invokevirtual 166, 1649, 126, 1, 0, [8, 0, 0]), (1649, .goto 16, 1652, 1665, 0, 0, []), (1652, .aload_n 1, 1653, 1, 0, 0, [])]
def ai_c0_23 : List (Nat × ai_I) := [(1653, .invokevirtual 167, 1656, 26, 1, 0, [7, 0, 0]), (1656, .aload_n 2, 1657, 2, 0, 0, []), (1657, .invokevirtual 171, 1660, 147, 1, 0, [8, 0, 0]), (1660, .if_icmp .eq 5, 1663, 1665, 0, 0, []), (1665, .iinc 4 6, 1668, 4, 0, 0, []), (1668, .goto (-1645), 1671, 23, 0, 0, []), (1671, .iconst 1, 1672, 0, 0, 0, []), (1672, .ireturn, 1673, 1, 0, 0, [])]
def ai_c0 : List (Nat × ai_I) := ai_c0_0 ++ ai_c0_1 ++ ai_c0_2 ++ ai_c0_3 ++ ai_c0_4 ++ ai_c0_5 ++ ai_c0_6 ++ ai_c0_7 ++ ai_c0_8 ++ ai_c0_9 ++ ai_c0_10 ++ ai_c0_11 ++ ai_c0_12 ++ ai_c0_13 ++ ai_c0_14 ++ ai_c0_15 ++ ai_c0_16 ++ ai_c0_17 ++ ai_c0_18 ++ ai_c0_19 ++ ai_c0_20 ++ ai_c0_21 ++ ai_c0_22 ++ ai_c0_23
-- PenPage.<init>()V
def ai_c1_0 : List (Nat × ai_I) := [(0, .aload_n 0, 1, 0, 0, 0, []), (1, .invokespecial 3, 4, 0, 1, 5, []), (4, .aload_n 0, 5, 0, 0, 0, []), (5, .iconst 5, 6, 0, 0, 0, []), (6, .anewarray 9, 9, 4, 0, 0, []), (9, .putfield 11, 12, 7, 0, 2, []), (12, .aload_n 0, 13, 0, 0, 0, []), (13, .iconst 5, 14, 0, 0, 0, []), (14, .anewarray 9, 17, 4, 0, 0, []), (17, .putfield 15, 20, 7, 1, 2, []), (20, .aload_n 0, 21, 0, 0, 0, []), (21, .iconst 3, 22, 0, 0, 0, []), (22, .newarray .int, 24, 1, 0, 0, []), (24, .putfield 18, 27, 7, 2, 2, []), (27, .aload_n 0, 28, 0, 0, 0, []), (28, .iconst 3, 29, 0, 0, 0, []), (29, .newarray .int, 31, 1, 0, 0, []), (31, .putfield 22, 34, 7, 3, 2, []), (34, .aload_n 0, 35, 0, 0, 0, []), (35, .sipush 400, 38, 0, 0, 0, []), (38, .newarray .int, 40, 1, 0, 0, []), (40, .putfield 25, 43, 7, 4, 2, []), (43, .aload_n 0, 44, 0, 0, 0, []), (44, .new 28, 47, 6, 0, 0, []), (47, .dup, 48, 0, 0, 0, []), (48, .invokespecial 30, 51, 81, 1, 1, [6, 0, 0]), (51, .putfield 31, 54, 7, 5, 2, []), (54, .aload_n 0, 55, 0, 0, 0, []), (55, .new 35, 58, 1, 0, 0, []), (58, .dup, 59, 0, 0, 0, []), (59, .invokespecial 37, 62, 49, 1, 1, [1, 0, 0]), (62, .putfield 38, 65, 7, 6, 2, []), (65, .aload_n 0, 66, 0, 0, 0, []), (66, .new 42, 69, 2, 0, 0, []), (69, .dup, 70, 0, 0, 0, []), (70, .invokespecial 44, 73, 52, 1, 1, [2, 0, 0]), (73, .putfield 45, 76, 7, 7, 2, []), (76, .aload_n 0, 77, 0, 0, 0, []), (77, .new 49, 80, 0, 0, 0, []), (80, .dup, 81, 0, 0, 0, [])]
def ai_c1_1 : List (Nat × ai_I) := [(81, .invokespecial 51, 84, 40, 1, 1, [0, 0, 0]), (84, .putfield 52, 87, 7, 8, 2, []), (87, .aload_n 0, 88, 0, 0, 0, []), (88, .new 56, 91, 5, 0, 0, []), (91, .dup, 92, 0, 0, 0, []), (92, .invokespecial 58, 95, 74, 1, 1, [5, 0, 0]), (95, .putfield 59, 98, 7, 9, 2, []), (98, .aload_n 0, 99, 0, 0, 0, []), (99, .iconst 2, 100, 0, 0, 0, []), (100, .putfield 63, 103, 7, 10, 0, []), (103, .aload_n 0, 104, 0, 0, 0, []), (104, .iconst 0, 105, 0, 0, 0, []), (105, .putfield 67, 108, 7, 11, 0, []), (108, .aload_n 0, 109, 0, 0, 0, []), (109, .iconst (-1), 110, 0, 0, 0, []), (110, .putfield 70, 113, 7, 12, 0, []), (113, .aload_n 0, 114, 0, 0, 0, []), (114, .iconst (-1), 115, 0, 0, 0, []), (115, .putfield 73, 118, 7, 13, 0, []), (118, .aload_n 0, 119, 0, 0, 0, []), (119, .iconst 0, 120, 0, 0, 0, []), (120, .putfield 76, 123, 7, 14, 1, []), (123, .iconst 0, 124, 0, 0, 0, []), (124, .istore_n 1, 125, 1, 0, 0, []), (125, .iload_n 1, 126, 1, 0, 0, []), (126, .iconst 5, 127, 0, 0, 0, []), (127, .if_icmp .ge 37, 130, 164, 0, 0, []), (130, .aload_n 0, 131, 0, 0, 0, []), (131, .getfield 11, 134, 7, 0, 2, []), (134, .iload_n 1, 135, 1, 0, 0, []), (135, .new 9, 138, 3, 0, 0, []), (138, .dup, 139, 0, 0, 0, []), (139, .iload_n 1, 140, 1, 0, 0, []), (140, .invokespecial 80, 143, 58, 2, 0, [3, 0, 0]), (143, .aastore, 144, 4, 2, 0, []), (144, .aload_n 0, 145, 0, 0, 0, []), (145, .getfield 15, 148, 7, 1, 2, []), (148, .iload_n 1, 149, 1, 0, 0, []), (149, .new 9, 152, 3, 0, 0, []), (152, .dup, 153, 0, 0, 0, [])]
def ai_c1_2 : List (Nat × ai_I) := [(153, .iload_n 1, 154, 1, 0, 0, []), (154, .invokespecial 80, 157, 58, 2, 0, [3, 0, 0]), (157, .aastore, 158, 4, 2, 0, []), (158, .iinc 1 1, 161, 1, 0, 0, []), (161, .goto (-36), 164, 125, 0, 0, []), (164, .return_, 165, 0, 0, 0, [])]
def ai_c1 : List (Nat × ai_I) := ai_c1_0 ++ ai_c1_1 ++ ai_c1_2
-- PenPage.act(III)I
def ai_c2_0 : List (Nat × ai_I) := [(0, .iload_n 1, 1, 1, 0, 0, []), (1, .ifCond .lt 34, 4, 35, 0, 0, []), (4, .iload_n 1, 5, 1, 0, 0, []), (5, .iconst 3, 6, 0, 0, 0, []), (6, .if_icmp .ge 29, 9, 35, 0, 0, []), (9, .iload_n 2, 10, 2, 0, 0, []), (10, .ifCond .lt 25, 13, 35, 0, 0, []), (13, .iload_n 2, 14, 2, 0, 0, []), (14, .bipush 8, 16, 0, 0, 0, []), (16, .if_icmp .ge 19, 19, 35, 0, 0, []), (19, .iload_n 3, 20, 3, 0, 0, []), (20, .iconst (-1), 21, 0, 0, 0, []), (21, .if_icmp .eq 10, 24, 31, 0, 0, []), (24, .iload_n 3, 25, 3, 0, 0, []), (25, .invokestatic 182, 28, 17, 1, 0, []), (28, .ifCond .eq 7, 31, 35, 0, 0, []), (31, .iconst 1, 32, 0, 0, 0, []), (32, .goto 4, 35, 36, 0, 0, []), (35, .iconst 0, 36, 0, 0, 0, []), (36, .istore 4, 38, 4, 0, 0, []), (38, .iload 4, 40, 4, 0, 0, []), (40, .ifCond .eq 26, 43, 66, 0, 0, []), (43, .aload_n 0, 44, 0, 0, 0, []), (44, .getfield 59, 47, 7, 9, 2, []), (47, .iload_n 1, 48, 1, 0, 0, []), (48, .iload_n 2, 49, 2, 0, 0, []), (49, .iload_n 3, 50, 3, 0, 0, []), (50, .invokevirtual 286, 53, 75, 4, 0, [5, 0, 0]), (53, .ifCond .eq 13, 56, 66, 0, 0, []), (56, .aload_n 0, 57, 0, 0, 0, []), (57, .getfield 59, 60, 7, 9, 2, []), (60, .getfield 93, 63, 5, 9, 0, []), (63, .goto 8, 66, 71, 0, 0, []), (66, .aload_n 0, 67, 0, 0, 0, []), (67, .iconst 2, 68, 0, 0, 0, []), (68, .invokevirtual 186, 71, 24, 2, 0, [7, 0, 0]), (71, .ireturn, 72, 0, 0, 0, [])]
def ai_c2 : List (Nat × ai_I) := ai_c2_0
-- PenPage.alike(II)Z
def ai_c3_0 : List (Nat × ai_I) := [(0, .aload_n 0, 1, 0, 0, 0, []), (1, .iload_n 1, 2, 1, 0, 0, []), (2, .invokevirtual 104, 5, 22, 2, 0, [7, 0, 0]), (5, .astore_n 3, 6, 3, 0, 0, []), (6, .aload_n 0, 7, 0, 0, 0, []), (7, .iload_n 2, 8, 2, 0, 0, []), (8, .invokevirtual 104, 11, 22, 2, 0, [7, 0, 0]), (11, .astore 4, 13, 4, 0, 0, []), (13, .aload_n 3, 14, 3, 0, 0, []), (14, .aload 4, 16, 4, 0, 0, []), (16, .invokestatic 256, 19, 7, 2, 0, []), (19, .ifCond .ne 16, 22, 35, 0, 0, []), (22, .aload 4, 24, 4, 0, 0, []), (24, .aload_n 3, 25, 3, 0, 0, []), (25, .invokestatic 256, 28, 7, 2, 0, []), (28, .ifCond .ne 7, 31, 35, 0, 0, []), (31, .iconst 1, 32, 0, 0, 0, []), (32, .goto 4, 35, 36, 0, 0, []), (36, .ireturn, 37, 1, 0, 0, [])]
def ai_c3 : List (Nat × ai_I) := ai_c3_0
-- PenPage.canMove(IIII)Z
def ai_c4_0 : List (Nat × ai_I) := [(0, .iload_n 1, 1, 1, 0, 0, []), (1, .ifCond .lt 44, 4, 45, 0, 0, []), (4, .iload_n 1, 5, 1, 0, 0, []), (5, .iload_n 2, 6, 2, 0, 0, []), (6, .if_icmp .gt 39, 9, 45, 0, 0, []), (9, .iload_n 2, 10, 2, 0, 0, []), (10, .iload_n 0, 11, 0, 0, 0, []), (11, .if_icmp .ge 34, 14, 45, 0, 0, []), (45, .iconst 0, 46, 0, 0, 0, []), (46, .ireturn, 47, 1, 0, 0, [])]
def ai_c4 : List (Nat × ai_I) := ai_c4_0
-- PenPage.clear()V
def ai_c5_0 : List (Nat × ai_I) := [(0, .aload_n 0, 1, 0, 0, 0, []), (1, .getfield 59, 4, 7, 9, 2, []), (4, .invokevirtual 290, 7, 77, 1, 0, [5, 0, 0]), (7, .return_, 8, 0, 0, 0, [])]
def ai_c5 : List (Nat × ai_I) := ai_c5_0
-- PenPage.count(I)I
def ai_c6_0 : List (Nat × ai_I) := [(0, .iload_n 1, 1, 1, 0, 0, []), (1, .tableswitch 90 0 6 #[43, 48, 53, 60, 67, 74, 82], 44, 91, 0, 0, [44, 49, 54, 61, 68, 75, 83]), (44, .aload_n 0, 45, 0, 0, 0, []), (45, .getfield 63, 48, 7, 10, 0, []), (48, .ireturn, 49, 0, 0, 0, []), (49, .aload_n 0, 50, 0, 0, 0, []), (50, .getfield 67, 53, 7, 11, 0, []), (53, .ireturn, 54, 0, 0, 0, []), (54, .aload_n 0, 55, 0, 0, 0, []), (55, .getfield 18, 58, 7, 2, 2, []), (58, .iconst 0, 59, 0, 0, 0, []), (59, .iaload, 60, 0, 0, 0, []), (60, .ireturn, 61, 0, 0, 0, []), (61, .aload_n 0, 62, 0, 0, 0, []), (62, .getfield 18, 65, 7, 2, 2, []), (65, .iconst 1, 66, 0, 0, 0, []), (66, .iaload, 67, 0, 0, 0, []), (67, .ireturn, 68, 0, 0, 0, []), (68, .aload_n 0, 69, 0, 0, 0, []), (69, .getfield 18, 72, 7, 2, 2, []), (72, .iconst 2, 73, 0, 0, 0, []), (73, .iaload, 74, 0, 0, 0, []), (74, .ireturn, 75, 0, 0, 0, []), (75, .aload_n 0, 76, 0, 0, 0, []), (76, .getfield 59, 79, 7, 9, 2, []), (79, .getfield 93, 82, 5, 9, 0, []), (82, .ireturn, 83, 0, 0, 0, []), (83, .aload_n 0, 84, 0, 0, 0, []), (84, .getfield 59, 87, 7, 9, 2, []), (87, .getfield 96, 90, 5, 8, 0, []), (90, .ireturn, 91, 0, 0, 0, []), (91, .new 99, 94, 2, 1, 1, [101, 103, 0])]
def ai_c6 : List (Nat × ai_I) := ai_c6_0
-- PenPage.countLacks(LPenPage$Page;LPenPage$Page;)I
def ai_c7_0 : List (Nat × ai_I) := [(0, .iconst 0, 1, 0, 0, 0, []), (1, .istore_n 2, 2, 2, 0, 0, []), (2, .iconst 0, 3, 0, 0, 0, []), (3, .istore_n 3, 4, 3, 0, 0, []), (4, .iload_n 3, 5, 3, 0, 0, []), (5, .sipush 300, 8, 0, 0, 0, []), (8, .if_icmp .ge 21, 11, 29, 0, 0, []), (11, .aload_n 0, 12, 0, 0, 0, []), (12, .aload_n 1, 13, 1, 0, 0, []), (13, .iload_n 3, 14, 3, 0, 0, []), (14, .invokestatic 349, 17, 16, 3, 0, []), (17, .ifCond .eq 6, 20, 23, 0, 0, []), (23, .iinc 3 1, 26, 3, 0, 0, []), (26, .goto (-22), 29, 4, 0, 0, []), (29, .iload_n 2, 30, 2, 0, 0, []), (30, .ireturn, 31, 0, 0, 0, [])]
def ai_c7 : List (Nat × ai_I) := ai_c7_0
-- PenPage.fault()I
def ai_c8_0 : List (Nat × ai_I) := [(0, .aload_n 0, 1, 0, 0, 0, []), (1, .getfield 70, 4, 7, 12, 0, []), (4, .ireturn, 5, 0, 0, 0, [])]
def ai_c8 : List (Nat × ai_I) := ai_c8_0
-- PenPage.feed(IIIII)I
def ai_c9_0 : List (Nat × ai_I) := [(0, .aload_n 0, 1, 0, 0, 0, []), (1, .getfield 67, 4, 7, 11, 0, []), (4, .bipush 20, 6, 0, 0, 0, []), (6, .iadd, 7, 0, 0, 0, []), (7, .sipush 400, 10, 0, 0, 0, []), (10, .if_icmp .le 5, 13, 15, 0, 0, []), (15, .aload_n 0, 16, 0, 0, 0, []), (16, .iload_n 1, 17, 1, 0, 0, []), (17, .invokevirtual 234, 20, 10, 2, 0, [7, 0, 0]), (20, .aload_n 0, 21, 0, 0, 0, []), (21, .iload_n 2, 22, 2, 0, 0, []), (22, .invokevirtual 234, 25, 10, 2, 0, [7, 0, 0]), (25, .aload_n 0, 26, 0, 0, 0, []), (26, .iload_n 3, 27, 3, 0, 0, []), (27, .invokevirtual 234, 30, 10, 2, 0, [7, 0, 0]), (30, .aload_n 0, 31, 0, 0, 0, []), (31, .iload 4, 33, 4, 0, 0, []), (33, .invokevirtual 234, 36, 10, 2, 0, [7, 0, 0]), (36, .aload_n 0, 37, 0, 0, 0, []), (37, .iload 5, 39, 5, 0, 0, []), (39, .invokevirtual 234, 42, 10, 2, 0, [7, 0, 0]), (42, .aload_n 0, 43, 0, 0, 0, []), (43, .getfield 67, 46, 7, 11, 0, []), (46, .ireturn, 47, 0, 0, 0, [])]
def ai_c9 : List (Nat × ai_I) := ai_c9_0
-- PenPage.feedFour(I)V
def ai_c10_0 : List (Nat × ai_I) := [(0, .bipush 24, 2, 0, 0, 0, []), (2, .istore_n 2, 3, 2, 0, 0, []), (3, .iload_n 2, 4, 2, 0, 0, []), (4, .ifCond .lt 45, 7, 49, 0, 0, []), (7, .aload_n 0, 8, 0, 0, 0, []), (8, .getfield 67, 11, 7, 11, 0, []), (11, .sipush 400, 14, 0, 0, 0, []), (14, .if_icmp .ge 29, 17, 43, 0, 0, []), (17, .aload_n 0, 18, 0, 0, 0, []), (18, .getfield 25, 21, 7, 4, 2, []), (21, .aload_n 0, 22, 0, 0, 0, []), (22, .getfield 67, 25, 7, 11, 0, []), (25, .iload_n 1, 26, 1, 0, 0, []), (26, .iload_n 2, 27, 2, 0, 0, []), (27, .iushr, 28, 0, 0, 0, []), (28, .sipush 255, 31, 0, 0, 0, []), (31, .iand, 32, 0, 0, 0, []), (32, .iastore, 33, 0, 0, 0, []), (33, .aload_n 0, 34, 0, 0, 0, []), (34, .dup, 35, 0, 0, 0, []), (35, .getfield 67, 38, 7, 11, 0, []), (38, .iconst 1, 39, 0, 0, 0, []), (39, .iadd, 40, 0, 0, 0, []), (40, .putfield 67, 43, 7, 11, 0, []), (43, .iinc 2 (-8), 46, 2, 0, 0, []), (46, .goto (-43), 49, 3, 0, 0, []), (49, .return_, 50, 0, 0, 0, [])]
def ai_c10 : List (Nat × ai_I) := ai_c10_0
-- PenPage.fewest(II)I
def ai_c11_0 : List (Nat × ai_I) := [(0, .aload_n 0, 1, 0, 0, 0, []), (1, .iload_n 1, 2, 1, 0, 0, []), (2, .invokevirtual 104, 5, 22, 2, 0, [7, 0, 0]), (5, .astore_n 3, 6, 3, 0, 0, []), (6, .aload_n 0, 7, 0, 0, 0, []), (7, .iload_n 2, 8, 2, 0, 0, []), (8, .invokevirtual 104, 11, 22, 2, 0, [7, 0, 0]), (11, .astore 4, 13, 4, 0, 0, []), (13, .aload_n 3, 14, 3, 0, 0, []), (14, .aload 4, 16, 4, 0, 0, []), (16, .invokestatic 256, 19, 7, 2, 0, []), (19, .aload 4, 21, 4, 0, 0, []), (21, .aload_n 3, 22, 3, 0, 0, []), (22, .invokestatic 256, 25, 7, 2, 0, []), (25, .iadd, 26, 0, 0, 0, []), (26, .ireturn, 27, 0, 0, 0, [])]
def ai_c11 : List (Nat × ai_I) := ai_c11_0
-- PenPage.findLack(LPenPage$Page;LPenPage$Page;I)I
def ai_c12_0 : List (Nat × ai_I) := [(0, .iconst 0, 1, 0, 0, 0, []), (1, .istore_n 3, 2, 3, 0, 0, []), (2, .iconst 0, 3, 0, 0, 0, []), (3, .istore 4, 5, 4, 0, 0, []), (5, .iload 4, 7, 4, 0, 0, []), (7, .sipush 300, 10, 0, 0, 0, []), (10, .if_icmp .ge 33, 13, 43, 0, 0, []), (13, .aload_n 0, 14, 0, 0, 0, []), (14, .aload_n 1, 15, 1, 0, 0, []), (15, .iload 4, 17, 4, 0, 0, []), (17, .invokestatic 349, 20, 16, 3, 0, []), (20, .ifCond .eq 17, 23, 37, 0, 0, []), (37, .iinc 4 1, 40, 4, 0, 0, []), (40, .goto (-35), 43, 5, 0, 0, []), (43, .iconst (-1), 44, 0, 0, 0, []), (44, .ireturn, 45, 0, 0, 0, [])]
def ai_c12 : List (Nat × ai_I) := ai_c12_0
-- PenPage.gone(II)Z
def ai_c13_0 : List (Nat × ai_I) := [(0, .aload_n 0, 1, 0, 0, 0, []), (1, .iload_n 1, 2, 1, 0, 0, []), (2, .invokevirtual 104, 5, 22, 2, 0, [7, 0, 0]), (5, .astore_n 3, 6, 3, 0, 0, []), (6, .aload_n 3, 7, 3, 0, 0, []), (7, .iload_n 2, 8, 2, 0, 0, []), (8, .bipush 100, 10, 0, 0, 0, []), (10, .idiv, 11, 0, 0, 0, []), (11, .iload_n 2, 12, 2, 0, 0, []), (12, .bipush 100, 14, 0, 0, 0, []), (14, .irem, 15, 0, 0, 0, []), (15, .invokevirtual 214, 18, 66, 3, 0, [3, 0, 0]), (18, .astore 4, 20, 4, 0, 0, []), (20, .aload 4, 22, 4, 0, 0, []), (22, .ifnull 11, 25, 33, 0, 0, []), (33, .new 99, 36, 2, 12, 1, [271, 103, 1])]
def ai_c13 : List (Nat × ai_I) := ai_c13_0
-- PenPage.hear(II)I
def ai_c14_0 : List (Nat × ai_I) := [(0, .aload_n 0, 1, 0, 0, 0, []), (1, .iload_n 1, 2, 1, 0, 0, []), (2, .invokevirtual 104, 5, 22, 2, 0, [7, 0, 0]), (5, .astore_n 3, 6, 3, 0, 0, []), (6, .iload_n 2, 7, 2, 0, 0, []), (7, .ifCond .lt 11, 10, 18, 0, 0, []), (10, .iload_n 2, 11, 2, 0, 0, []), (11, .aload_n 0, 12, 0, 0, 0, []), (12, .getfield 67, 15, 7, 11, 0, []), (15, .if_icmp .le 13, 18, 28, 0, 0, []), (18, .new 83, 21, 3, 9, 1, [237, 87, 0]), (28, .aload_n 0, 29, 0, 0, 0, []), (29, .iconst 0, 30, 0, 0, 0, []), (30, .putfield 67, 33, 7, 11, 0, []), (33, .aload_n 0, 34, 0, 0, 0, []), (34, .iconst (-1), 35, 0, 0, 0, []), (35, .putfield 70, 38, 7, 12, 0, []), (38, .aload_n 0, 39, 0, 0, 0, []), (39, .getfield 52, 42, 7, 8, 2, []), (42, .aload_n 0, 43, 0, 0, 0, []), (43, .getfield 25, 46, 7, 4, 2, []), (46, .iload_n 2, 47, 2, 0, 0, []), (47, .aload_n 0, 48, 0, 0, 0, []), (48, .getfield 63, 51, 7, 10, 0, []), (51, .invokevirtual 239, 54, 41, 4, 0, [0, 0, 0]), (54, .istore 4, 56, 4, 0, 0, []), (56, .iload 4, 58, 4, 0, 0, []), (58, .ifCond .eq 20, 61, 78, 0, 0, []), (61, .aload_n 0, 62, 0, 0, 0, []), (62, .bipush 10, 64, 0, 0, 0, []), (64, .iload 4, 66, 4, 0, 0, []), (66, .iadd, 67, 0, 0, 0, []), (67, .aload_n 0, 68, 0, 0, 0, []), (68, .getfield 52, 71, 7, 8, 2, []), (71, .getfield 243, 74, 0, 7, 0, []), (74, .invokevirtual 246, 77, 25, 3, 0, [7, 0, 0]), (77, .ireturn, 78, 0, 0, 0, [])]
def ai_c14 : List (Nat × ai_I) := ai_c14_0
-- PenPage.image()V
def ai_c15_0 : List (Nat × ai_I) := [(0, .iconst 0, 1, 0, 0, 0, []), (1, .istore_n 1, 2, 1, 0, 0, []), (2, .iload_n 1, 3, 1, 0, 0, []), (3, .iconst 5, 4, 0, 0, 0, []), (4, .if_icmp .ge 24, 7, 28, 0, 0, []), (7, .aload_n 0, 8, 0, 0, 0, []), (8, .getfield 15, 11, 7, 1, 2, []), (11, .iload_n 1, 12, 1, 0, 0, []), (12, .aaload, 13, 0, 0, 0, []), (13, .aload_n 0, 14, 0, 0, 0, []), (14, .getfield 11, 17, 7, 0, 2, []), (17, .iload_n 1, 18, 1, 0, 0, []), (18, .aaload, 19, 0, 0, 0, []), (19, .invokevirtual 305, 22, 60, 2, 0, [3, 0, 0]), (22, .iinc 1 1, 25, 1, 0, 0, []), (25, .goto (-23), 28, 2, 0, 0, []), (28, .aload_n 0, 29, 0, 0, 0, []), (29, .getfield 18, 32, 7, 2, 2, []), (32, .iconst 0, 33, 0, 0, 0, []), (33, .aload_n 0, 34, 0, 0, 0, []), (34, .getfield 22, 37, 7, 3, 2, []), (37, .iconst 0, 38, 0, 0, 0, []), (38, .iconst 3, 39, 0, 0, 0, []), (39, .invokestatic 309, 42, 0, 5, 6, []), (42, .aload_n 0, 43, 0, 0, 0, []), (43, .iconst 1, 44, 0, 0, 0, []), (44, .putfield 76, 47, 7, 14, 1, []), (47, .return_, 48, 0, 0, 0, [])]
def ai_c15 : List (Nat × ai_I) := ai_c15_0
-- PenPage.isLack(LPenPage$Page;LPenPage$Page;I)Z
def ai_c16_0 : List (Nat × ai_I) := [(0, .aload_n 1, 1, 1, 0, 0, []), (1, .getfield 327, 4, 3, 1, 2, []), (4, .iload_n 2, 5, 2, 0, 0, []), (5, .aaload, 6, 0, 0, 0, []), (6, .astore_n 3, 7, 3, 0, 0, []), (7, .aload_n 3, 8, 3, 0, 0, []), (8, .ifnonnull 5, 11, 13, 0, 0, []), (11, .iconst 0, 12, 0, 0, 0, []), (12, .ireturn, 13, 1, 0, 0, [])]
def ai_c16 : List (Nat × ai_I) := ai_c16_0
-- PenPage.isSign(I)Z
def ai_c17_0 : List (Nat × ai_I) := [(0, .iload_n 0, 1, 0, 0, 0, []), (1, .bipush 32, 3, 0, 0, 0, []), (3, .if_icmp .lt 13, 6, 16, 0, 0, []), (6, .iload_n 0, 7, 0, 0, 0, []), (7, .bipush 126, 9, 0, 0, 0, []), (9, .if_icmp .gt 7, 12, 16, 0, 0, []), (12, .iconst 1, 13, 0, 0, 0, []), (13, .goto 4, 16, 17, 0, 0, []), (16, .iconst 0, 17, 0, 0, 0, []), (17, .ireturn, 18, 1, 0, 0, [])]
def ai_c17 : List (Nat × ai_I) := ai_c17_0
-- PenPage.lacks(III)I
def ai_c18_0 : List (Nat × ai_I) := [(0, .aload_n 0, 1, 0, 0, 0, []), (1, .iload_n 1, 2, 1, 0, 0, []), (2, .invokevirtual 104, 5, 22, 2, 0, [7, 0, 0]), (5, .astore 4, 7, 4, 0, 0, []), (7, .aload_n 0, 8, 0, 0, 0, []), (8, .iload_n 2, 9, 2, 0, 0, []), (9, .invokevirtual 104, 12, 22, 2, 0, [7, 0, 0]), (12, .astore 5, 14, 5, 0, 0, []), (14, .iload_n 3, 15, 3, 0, 0, []), (15, .iconst (-1), 16, 0, 0, 0, []), (16, .if_icmp .ne 11, 19, 27, 0, 0, []), (19, .aload 4, 21, 4, 0, 0, []), (21, .aload 5, 23, 5, 0, 0, []), (23, .invokestatic 256, 26, 7, 2, 0, []), (26, .ireturn, 27, 0, 0, 0, []), (27, .aload 4, 29, 4, 0, 0, []), (29, .aload 5, 31, 5, 0, 0, []), (31, .iload_n 3, 32, 3, 0, 0, []), (32, .invokestatic 260, 35, 12, 3, 0, []), (35, .istore 6, 37, 6, 0, 0, []), (37, .iload 6, 39, 6, 0, 0, []), (39, .iconst (-1), 40, 0, 0, 0, []), (40, .if_icmp .ne 14, 43, 54, 0, 0, []), (43, .new 99, 46, 2, 10, 1, [264, 103, 1])]
def ai_c18 : List (Nat × ai_I) := ai_c18_0
-- PenPage.move(IIII)I
def ai_c19_0 : List (Nat × ai_I) := [(0, .aload_n 0, 1, 0, 0, 0, []), (1, .iload_n 1, 2, 1, 0, 0, []), (2, .invokevirtual 104, 5, 22, 2, 0, [7, 0, 0]), (5, .astore 5, 7, 5, 0, 0, []), (7, .aload_n 0, 8, 0, 0, 0, []), (8, .iload_n 1, 9, 1, 0, 0, []), (9, .invokevirtual 112, 12, 37, 2, 0, [7, 0, 0]), (12, .astore 6, 14, 6, 0, 0, []), (14, .aload 5, 16, 5, 0, 0, []), (16, .invokevirtual 178, 19, 59, 1, 0, [3, 0, 0]), (19, .ifCond .eq 18, 22, 37, 0, 0, []), (22, .aload 6, 24, 6, 0, 0, []), (24, .getfield 119, 27, 6, 8, 0, []), (27, .iload_n 2, 28, 2, 0, 0, []), (28, .iload_n 3, 29, 3, 0, 0, []), (29, .iload 4, 31, 4, 0, 0, []), (31, .invokestatic 222, 34, 4, 4, 0, []), (34, .ifCond .ne 9, 37, 43, 0, 0, []), (37, .aload_n 0, 38, 0, 0, 0, []), (38, .iconst 0, 39, 0, 0, 0, []), (39, .invokevirtual 186, 42, 24, 2, 0, [7, 0, 0]), (42, .ireturn, 43, 0, 0, 0, [])]
def ai_c19 : List (Nat × ai_I) := ai_c19_0
-- PenPage.packet(IIII)I
def ai_c20_0 : List (Nat × ai_I) := [(0, .aload_n 0, 1, 0, 0, 0, []), (1, .iload_n 1, 2, 1, 0, 0, []), (2, .iload_n 2, 3, 2, 0, 0, []), (3, .iload_n 3, 4, 3, 0, 0, []), (4, .invokevirtual 152, 7, 32, 4, 0, [7, 0, 0])]
def ai_c20 : List (Nat × ai_I) := ai_c20_0
-- PenPage.page(II)I
def ai_c21_0 : List (Nat × ai_I) := [(0, .aload_n 0, 1, 0, 0, 0, []), (1, .iload_n 1, 2, 1, 0, 0, []), (2, .invokevirtual 104, 5, 22, 2, 0, [7, 0, 0]), (5, .astore_n 3, 6, 3, 0, 0, []), (6, .iload_n 2, 7, 2, 0, 0, []), (7, .bipush 10, 9, 0, 0, 0, []), (9, .if_icmp .lt 23, 12, 32, 0, 0, []), (12, .iload_n 2, 13, 2, 0, 0, []), (13, .bipush 10, 15, 0, 0, 0, []), (15, .isub, 16, 0, 0, 0, []), (16, .aload_n 0, 17, 0, 0, 0, []), (17, .getfield 63, 20, 7, 10, 0, []), (20, .if_icmp .ge 12, 23, 32, 0, 0, []), (23, .aload_n 3, 24, 3, 0, 0, []), (24, .iload_n 2, 25, 2, 0, 0, []), (25, .bipush 10, 27, 0, 0, 0, []), (27, .isub, 28, 0, 0, 0, []), (28, .invokevirtual 108, 31, 67, 2, 0, [3, 0, 0]), (31, .ireturn, 32, 0, 0, 0, []), (32, .iload_n 2, 33, 2, 0, 0, []), (33, .tableswitch 77 0 4 #[35, 44, 53, 58, 72], 68, 110, 0, 0, [68, 77, 86, 91, 105]), (68, .aload_n 0, 69, 0, 0, 0, []), (69, .iload_n 1, 70, 1, 0, 0, []), (70, .invokevirtual 112, 73, 37, 2, 0, [7, 0, 0]), (73, .getfield 116, 76, 6, 7, 0, []), (76, .ireturn, 77, 0, 0, 0, []), (77, .aload_n 0, 78, 0, 0, 0, []), (78, .iload_n 1, 79, 1, 0, 0, []), (79, .invokevirtual 112, 82, 37, 2, 0, [7, 0, 0]), (82, .getfield 119, 85, 6, 8, 0, []), (85, .ireturn, 86, 0, 0, 0, []), (86, .aload_n 3, 87, 3, 0, 0, []), (87, .getfield 122, 90, 3, 4, 0, []), (90, .ireturn, 91, 0, 0, 0, []), (91, .aload_n 0, 92, 0, 0, 0, []), (92, .iload_n 1, 93, 1, 0, 0, []), (93, .invokevirtual 112, 96, 37, 2, 0, [7, 0, 0]), (96, .aload_n 3, 97, 3, 0, 0, []), (97, .aload_n 0, 98, 0, 0, 0, []), (98, .getfield 63, 101, 7, 10, 0, [])]
def ai_c21_1 : List (Nat × ai_I) := [(101, .invokevirtual 125, 104, 83, 3, 0, [6, 0, 0]), (104, .ireturn, 105, 0, 0, 0, []), (105, .aload_n 3, 106, 3, 0, 0, []), (106, .getfield 129, 109, 3, 5, 0, []), (109, .ireturn, 110, 0, 0, 0, []), (110, .new 99, 113, 2, 3, 1, [132, 103, 0])]
def ai_c21 : List (Nat × ai_I) := ai_c21_0 ++ ai_c21_1
-- PenPage.pageAt(I)LPenPage$Page;
def ai_c22_0 : List (Nat × ai_I) := [(0, .iload_n 1, 1, 1, 0, 0, []), (1, .ifCond .lt 11, 4, 12, 0, 0, []), (4, .iload_n 1, 5, 1, 0, 0, []), (5, .aload_n 0, 6, 0, 0, 0, []), (6, .getfield 63, 9, 7, 10, 0, []), (9, .if_icmp .lt 14, 12, 23, 0, 0, []), (12, .new 99, 15, 2, 2, 1, [315, 103, 1]), (23, .aload_n 0, 24, 0, 0, 0, []), (24, .getfield 11, 27, 7, 0, 2, []), (27, .iload_n 1, 28, 1, 0, 0, []), (28, .aaload, 29, 0, 0, 0, []), (29, .areturn, 30, 0, 0, 0, [])]
def ai_c22 : List (Nat × ai_I) := ai_c22_0
-- PenPage.perform(LPenPage$Page;)I
def ai_c23_0 : List (Nat × ai_I) := [(0, .aload_n 0, 1, 0, 0, 0, []), (1, .getfield 45, 4, 7, 7, 2, []), (4, .invokevirtual 338, 7, 54, 1, 0, [2, 0, 0]), (7, .astore_n 2, 8, 2, 0, 0, []), (8, .aload_n 1, 9, 1, 0, 0, []), (9, .aload_n 2, 10, 2, 0, 0, []), (10, .invokevirtual 342, 13, 63, 2, 0, [3, 0, 0]), (13, .aload_n 1, 14, 1, 0, 0, []), (14, .invokevirtual 346, 17, 65, 1, 0, [3, 0, 0]), (17, .aload_n 0, 18, 0, 0, 0, []), (18, .iconst (-1), 19, 0, 0, 0, []), (19, .putfield 73, 22, 7, 13, 0, []), (22, .aload_n 2, 23, 2, 0, 0, []), (23, .invokevirtual 276, 26, 71, 1, 0, [4, 0, 0]), (26, .ireturn, 27, 0, 0, 0, [])]
def ai_c23 : List (Nat × ai_I) := ai_c23_0
-- PenPage.refuse(I)I
def ai_c24_0 : List (Nat × ai_I) := [(0, .aload_n 0, 1, 0, 0, 0, []), (1, .getfield 18, 4, 7, 2, 2, []), (4, .iload_n 1, 5, 1, 0, 0, []), (5, .dup2, 6, 0, 0, 0, []), (6, .iaload, 7, 0, 0, 0, []), (7, .iconst 1, 8, 0, 0, 0, []), (8, .iadd, 9, 0, 0, 0, []), (9, .iastore, 10, 0, 0, 0, []), (10, .iconst (-1), 11, 0, 0, 0, []), (11, .ireturn, 12, 0, 0, 0, [])]
def ai_c24 : List (Nat × ai_I) := ai_c24_0
-- PenPage.refuseHeard(II)I
def ai_c25_0 : List (Nat × ai_I) := [(0, .aload_n 0, 1, 0, 0, 0, []), (1, .getfield 18, 4, 7, 2, 2, []), (4, .iconst 1, 5, 0, 0, 0, []), (5, .dup2, 6, 0, 0, 0, []), (6, .iaload, 7, 0, 0, 0, []), (7, .iconst 1, 8, 0, 0, 0, []), (8, .iadd, 9, 0, 0, 0, []), (9, .iastore, 10, 0, 0, 0, []), (10, .aload_n 0, 11, 0, 0, 0, []), (11, .iload_n 2, 12, 2, 0, 0, []), (12, .putfield 70, 15, 7, 12, 0, []), (15, .iload_n 1, 16, 1, 0, 0, []), (16, .ireturn, 17, 0, 0, 0, [])]
def ai_c25 : List (Nat × ai_I) := ai_c25_0
-- PenPage.restore()Z
def ai_c26_0 : List (Nat × ai_I) := [(0, .aload_n 0, 1, 0, 0, 0, []), (1, .getfield 76, 4, 7, 14, 1, []), (4, .ifCond .ne 5, 7, 9, 0, 0, []), (7, .iconst 0, 8, 0, 0, 0, []), (8, .ireturn, 9, 1, 0, 0, [])]
def ai_c26 : List (Nat × ai_I) := ai_c26_0
-- PenPage.say(I)I
def ai_c27_0 : List (Nat × ai_I) := [(0, .iload_n 1, 1, 1, 0, 0, []), (1, .invokestatic 182, 4, 17, 1, 0, []), (4, .ifCond .eq 24, 7, 28, 0, 0, []), (7, .aload_n 0, 8, 0, 0, 0, []), (8, .getfield 59, 11, 7, 9, 2, []), (11, .iload_n 1, 12, 1, 0, 0, []), (12, .invokevirtual 283, 15, 76, 2, 0, [5, 0, 0]), (15, .ifCond .eq 13, 18, 28, 0, 0, []), (18, .aload_n 0, 19, 0, 0, 0, []), (19, .getfield 59, 22, 7, 9, 2, []), (22, .getfield 96, 25, 5, 8, 0, []), (25, .goto 8, 28, 33, 0, 0, []), (28, .aload_n 0, 29, 0, 0, 0, []), (29, .iconst 2, 30, 0, 0, 0, []), (30, .invokevirtual 186, 33, 24, 2, 0, [7, 0, 0]), (33, .ireturn, 34, 0, 0, 0, [])]
def ai_c27 : List (Nat × ai_I) := ai_c27_0
-- PenPage.send(IIII)I
def ai_c28_0 : List (Nat × ai_I) := [(0, .aload_n 0, 1, 0, 0, 0, []), (1, .iload_n 1, 2, 1, 0, 0, []), (2, .iload_n 3, 3, 3, 0, 0, []), (3, .iload 4, 5, 4, 0, 0, []), (5, .invokevirtual 152, 8, 32, 4, 0, [7, 0, 0])]
def ai_c28 : List (Nat × ai_I) := ai_c28_0
-- PenPage.set(III)I
def ai_c29_0 : List (Nat × ai_I) := [(0, .aload_n 0, 1, 0, 0, 0, []), (1, .iload_n 1, 2, 1, 0, 0, []), (2, .invokevirtual 104, 5, 22, 2, 0, [7, 0, 0]), (5, .astore 4, 7, 4, 0, 0, []), (7, .aload_n 0, 8, 0, 0, 0, []), (8, .iload_n 1, 9, 1, 0, 0, []), (9, .invokevirtual 112, 12, 37, 2, 0, [7, 0, 0]), (12, .astore 5, 14, 5, 0, 0, []), (14, .aload 4, 16, 4, 0, 0, []), (16, .invokevirtual 178, 19, 59, 1, 0, [3, 0, 0]), (19, .ifCond .eq 23, 22, 42, 0, 0, []), (22, .iload_n 3, 23, 3, 0, 0, []), (23, .invokestatic 182, 26, 17, 1, 0, []), (26, .ifCond .eq 16, 29, 42, 0, 0, []), (29, .iload_n 2, 30, 2, 0, 0, []), (30, .ifCond .lt 12, 33, 42, 0, 0, []), (33, .iload_n 2, 34, 2, 0, 0, []), (34, .aload 5, 36, 5, 0, 0, []), (36, .getfield 119, 39, 6, 8, 0, []), (39, .if_icmp .le 9, 42, 48, 0, 0, []), (42, .aload_n 0, 43, 0, 0, 0, []), (43, .iconst 0, 44, 0, 0, 0, []), (44, .invokevirtual 186, 47, 24, 2, 0, [7, 0, 0]), (47, .ireturn, 48, 0, 0, 0, []), (48, .aload_n 0, 49, 0, 0, 0, []), (49, .getfield 38, 52, 7, 6, 2, []), (52, .aload 5, 54, 5, 0, 0, []), (54, .iload_n 2, 55, 2, 0, 0, []), (55, .invokevirtual 189, 58, 50, 3, 0, [1, 0, 0]), (58, .aload_n 0, 59, 0, 0, 0, []), (59, .getfield 38, 62, 7, 6, 2, []), (62, .iload_n 1, 63, 1, 0, 0, []), (63, .invokevirtual 193, 66, 51, 2, 0, [1, 0, 0]), (66, .ifCond .ne 9, 69, 75, 0, 0, []), (75, .aload_n 0, 76, 0, 0, 0, []), (76, .getfield 45, 79, 7, 7, 2, []), (79, .iconst 0, 80, 0, 0, 0, []), (80, .aload 4, 82, 4, 0, 0, []), (82, .invokevirtual 196, 85, 53, 3, 0, [2, 0, 0]), (85, .aload_n 0, 86, 0, 0, 0, [])]
def ai_c29_1 : List (Nat × ai_I) := [(86, .getfield 45, 89, 7, 7, 2, []), (89, .iload_n 3, 90, 3, 0, 0, []), (90, .invokevirtual 200, 93, 55, 2, 0, [2, 0, 0]), (93, .aload_n 0, 94, 0, 0, 0, []), (94, .getfield 45, 97, 7, 7, 2, []), (97, .aload_n 0, 98, 0, 0, 0, []), (98, .getfield 38, 101, 7, 6, 2, []), (101, .invokevirtual 203, 104, 56, 2, 0, [2, 0, 0]), (104, .aload_n 0, 105, 0, 0, 0, []), (105, .aload 4, 107, 4, 0, 0, []), (107, .invokevirtual 207, 110, 23, 2, 0, [7, 0, 0]), (110, .ireturn, 111, 0, 0, 0, [])]
def ai_c29 : List (Nat × ai_I) := ai_c29_0 ++ ai_c29_1
-- PenPage.slotOf(II)I
def ai_c30_0 : List (Nat × ai_I) := [(0, .iload_n 0, 1, 0, 0, 0, []), (1, .bipush 60, 3, 0, 0, 0, []), (3, .imul, 4, 0, 0, 0, []), (4, .iload_n 1, 5, 1, 0, 0, []), (5, .iadd, 6, 0, 0, 0, []), (6, .iconst 1, 7, 0, 0, 0, []), (7, .isub, 8, 0, 0, 0, []), (8, .ireturn, 9, 0, 0, 0, [])]
def ai_c30 : List (Nat × ai_I) := ai_c30_0
-- PenPage.step(IIII)I
def ai_c31_0 : List (Nat × ai_I) := [(0, .aload_n 0, 1, 0, 0, 0, []), (1, .iload_n 1, 2, 1, 0, 0, []), (2, .iload_n 2, 3, 2, 0, 0, []), (3, .iload_n 3, 4, 3, 0, 0, []), (4, .invokevirtual 152, 7, 32, 4, 0, [7, 0, 0])]
def ai_c31 : List (Nat × ai_I) := ai_c31_0
-- PenPage.stepAt(III)LPenPage$Step;
def ai_c32_0 : List (Nat × ai_I) := [(0, .aload_n 0, 1, 0, 0, 0, []), (1, .iload_n 1, 2, 1, 0, 0, []), (2, .invokevirtual 104, 5, 22, 2, 0, [7, 0, 0]), (5, .iload_n 2, 6, 2, 0, 0, []), (6, .iload_n 3, 7, 3, 0, 0, []), (7, .invokevirtual 214, 10, 66, 3, 0, [3, 0, 0]), (10, .astore 4, 12, 4, 0, 0, []), (12, .aload 4, 14, 4, 0, 0, []), (14, .ifnonnull 14, 17, 28, 0, 0, []), (17, .new 99, 20, 2, 6, 1, [317, 103, 1])]
def ai_c32 : List (Nat × ai_I) := ai_c32_0
-- PenPage.story(I)I
def ai_c33_0 : List (Nat × ai_I) := [(0, .aload_n 0, 1, 0, 0, 0, []), (1, .getfield 59, 4, 7, 9, 2, []), (4, .invokevirtual 291, 7, 79, 1, 0, [5, 0, 0]), (7, .iload_n 1, 8, 1, 0, 0, []), (8, .ifCond .ne 11, 11, 19, 0, 0, []), (11, .aload_n 0, 12, 0, 0, 0, []), (12, .getfield 59, 15, 7, 9, 2, []), (15, .getfield 294, 18, 5, 10, 0, []), (18, .ireturn, 19, 0, 0, 0, []), (19, .iload_n 1, 20, 1, 0, 0, []), (20, .iconst 1, 21, 0, 0, 0, []), (21, .if_icmp .ne 11, 24, 32, 0, 0, []), (24, .aload_n 0, 25, 0, 0, 0, []), (25, .getfield 59, 28, 7, 9, 2, []), (28, .getfield 297, 31, 5, 11, 0, []), (31, .ireturn, 32, 0, 0, 0, []), (32, .iload_n 1, 33, 1, 0, 0, []), (33, .bipush 10, 35, 0, 0, 0, []), (35, .if_icmp .lt 27, 38, 62, 0, 0, []), (38, .iload_n 1, 39, 1, 0, 0, []), (39, .bipush 10, 41, 0, 0, 0, []), (41, .isub, 42, 0, 0, 0, []), (42, .aload_n 0, 43, 0, 0, 0, []), (43, .getfield 59, 46, 7, 9, 2, []), (46, .getfield 93, 49, 5, 9, 0, []), (49, .if_icmp .ge 13, 52, 62, 0, 0, []), (62, .new 99, 65, 2, 13, 1, [300, 103, 1])]
def ai_c33 : List (Nat × ai_I) := ai_c33_0
-- PenPage.strike(II)I
def ai_c34_0 : List (Nat × ai_I) := [(0, .aload_n 0, 1, 0, 0, 0, []), (1, .iload_n 1, 2, 1, 0, 0, []), (2, .invokevirtual 104, 5, 22, 2, 0, [7, 0, 0]), (5, .astore_n 3, 6, 3, 0, 0, []), (6, .aload_n 0, 7, 0, 0, 0, []), (7, .iload_n 1, 8, 1, 0, 0, []), (8, .invokevirtual 112, 11, 37, 2, 0, [7, 0, 0]), (11, .iload_n 2, 12, 2, 0, 0, []), (12, .invokevirtual 134, 15, 88, 2, 0, [6, 0, 0]), (15, .istore 4, 17, 4, 0, 0, []), (17, .aload_n 3, 18, 3, 0, 0, []), (18, .invokevirtual 178, 21, 59, 1, 0, [3, 0, 0]), (21, .ifCond .eq 9, 24, 30, 0, 0, []), (24, .iload 4, 26, 4, 0, 0, []), (26, .iconst (-1), 27, 0, 0, 0, []), (27, .if_icmp .ne 9, 30, 36, 0, 0, []), (30, .aload_n 0, 31, 0, 0, 0, []), (31, .iconst 0, 32, 0, 0, 0, []), (32, .invokevirtual 186, 35, 24, 2, 0, [7, 0, 0]), (35, .ireturn, 36, 0, 0, 0, [])]
def ai_c34 : List (Nat × ai_I) := ai_c34_0
-- PenPage.text(III)I
def ai_c35_0 : List (Nat × ai_I) := [(0, .aload_n 0, 1, 0, 0, 0, []), (1, .iload_n 1, 2, 1, 0, 0, []), (2, .invokevirtual 104, 5, 22, 2, 0, [7, 0, 0]), (5, .astore 4, 7, 4, 0, 0, []), (7, .aload_n 0, 8, 0, 0, 0, []), (8, .iload_n 1, 9, 1, 0, 0, []), (9, .invokevirtual 112, 12, 37, 2, 0, [7, 0, 0]), (12, .astore 5, 14, 5, 0, 0, []), (14, .aload 5, 16, 5, 0, 0, []), (16, .iload_n 2, 17, 2, 0, 0, []), (17, .invokevirtual 134, 20, 88, 2, 0, [6, 0, 0]), (20, .istore 6, 22, 6, 0, 0, []), (22, .iload 6, 24, 6, 0, 0, []), (24, .iconst (-1), 25, 0, 0, 0, []), (25, .if_icmp .ne 13, 28, 38, 0, 0, []), (28, .new 99, 31, 2, 4, 1, [137, 103, 0])]
def ai_c35 : List (Nat × ai_I) := ai_c35_0
-- PenPage.undo(II)I
def ai_c36_0 : List (Nat × ai_I) := [(0, .aload_n 0, 1, 0, 0, 0, []), (1, .iload_n 1, 2, 1, 0, 0, []), (2, .invokevirtual 104, 5, 22, 2, 0, [7, 0, 0]), (5, .astore_n 3, 6, 3, 0, 0, []), (6, .aload_n 0, 7, 0, 0, 0, []), (7, .iload_n 1, 8, 1, 0, 0, []), (8, .invokevirtual 112, 11, 37, 2, 0, [7, 0, 0]), (11, .astore 4, 13, 4, 0, 0, []), (13, .aload_n 3, 14, 3, 0, 0, []), (14, .iload_n 1, 15, 1, 0, 0, []), (15, .iload_n 2, 16, 2, 0, 0, []), (16, .invokevirtual 214, 19, 66, 3, 0, [3, 0, 0]), (19, .astore 5, 21, 5, 0, 0, []), (21, .aload_n 3, 22, 3, 0, 0, []), (22, .invokevirtual 178, 25, 59, 1, 0, [3, 0, 0]), (25, .ifCond .eq 20, 28, 45, 0, 0, []), (28, .aload 5, 30, 5, 0, 0, []), (30, .ifnull 15, 33, 45, 0, 0, []), (45, .aload_n 0, 46, 0, 0, 0, []), (46, .iconst 0, 47, 0, 0, 0, []), (47, .invokevirtual 186, 50, 24, 2, 0, [7, 0, 0]), (50, .ireturn, 51, 0, 0, 0, [])]
def ai_c36 : List (Nat × ai_I) := ai_c36_0
-- PenPage.viewOf(I)LPenPage$View;
def ai_c37_0 : List (Nat × ai_I) := [(0, .aload_n 0, 1, 0, 0, 0, []), (1, .getfield 73, 4, 7, 13, 0, []), (4, .iload_n 1, 5, 1, 0, 0, []), (5, .if_icmp .eq 21, 8, 26, 0, 0, []), (8, .aload_n 0, 9, 0, 0, 0, []), (9, .getfield 31, 12, 7, 5, 2, []), (12, .aload_n 0, 13, 0, 0, 0, []), (13, .getfield 11, 16, 7, 0, 2, []), (16, .iload_n 1, 17, 1, 0, 0, []), (17, .aaload, 18, 0, 0, 0, []), (18, .invokevirtual 319, 21, 85, 2, 0, [6, 0, 0]), (21, .aload_n 0, 22, 0, 0, 0, []), (22, .iload_n 1, 23, 1, 0, 0, []), (23, .putfield 73, 26, 7, 13, 0, []), (26, .aload_n 0, 27, 0, 0, 0, []), (27, .getfield 31, 30, 7, 5, 2, []), (30, .areturn, 31, 0, 0, 0, [])]
def ai_c37 : List (Nat × ai_I) := ai_c37_0
-- PenPage.whose(II)I
def ai_c38_0 : List (Nat × ai_I) := [(0, .aload_n 0, 1, 0, 0, 0, []), (1, .iload_n 1, 2, 1, 0, 0, []), (2, .invokevirtual 104, 5, 22, 2, 0, [7, 0, 0]), (5, .pop, 6, 0, 0, 0, []), (6, .iload_n 2, 7, 2, 0, 0, []), (7, .ifCond .lt 11, 10, 18, 0, 0, []), (10, .iload_n 2, 11, 2, 0, 0, []), (11, .aload_n 0, 12, 0, 0, 0, []), (12, .getfield 63, 15, 7, 10, 0, []), (15, .if_icmp .lt 14, 18, 29, 0, 0, []), (18, .new 99, 21, 2, 11, 1, [266, 103, 1]), (29, .aload_n 0, 30, 0, 0, 0, []), (30, .iload_n 1, 31, 1, 0, 0, []), (31, .invokevirtual 112, 34, 37, 2, 0, [7, 0, 0]), (34, .iload_n 2, 35, 2, 0, 0, []), (35, .invokevirtual 268, 38, 84, 2, 0, [6, 0, 0]), (38, .ireturn, 39, 0, 0, 0, [])]
def ai_c38 : List (Nat × ai_I) := ai_c38_0
-- PenPage.writers(I)V
def ai_c39_0 : List (Nat × ai_I) := [(0, .iload_n 1, 1, 1, 0, 0, []), (1, .iconst 1, 2, 0, 0, 0, []), (2, .if_icmp .lt 8, 5, 10, 0, 0, []), (5, .iload_n 1, 6, 1, 0, 0, []), (6, .iconst 5, 7, 0, 0, 0, []), (7, .if_icmp .le 13, 10, 20, 0, 0, []), (10, .new 83, 13, 3, 0, 1, [85, 87, 0]), (20, .aload_n 0, 21, 0, 0, 0, []), (21, .iload_n 1, 22, 1, 0, 0, []), (22, .putfield 63, 25, 7, 10, 0, []), (25, .iconst 0, 26, 0, 0, 0, []), (26, .istore_n 2, 27, 2, 0, 0, []), (27, .iload_n 2, 28, 2, 0, 0, []), (28, .iconst 5, 29, 0, 0, 0, []), (29, .if_icmp .ge 18, 32, 47, 0, 0, []), (32, .aload_n 0, 33, 0, 0, 0, []), (33, .getfield 11, 36, 7, 0, 2, []), (36, .iload_n 2, 37, 2, 0, 0, []), (37, .aaload, 38, 0, 0, 0, []), (38, .invokevirtual 90, 41, 62, 1, 0, [3, 0, 0]), (41, .iinc 2 1, 44, 2, 0, 0, []), (44, .goto (-17), 47, 27, 0, 0, []), (47, .aload_n 0, 48, 0, 0, 0, []), (48, .iconst 0, 49, 0, 0, 0, []), (49, .putfield 76, 52, 7, 14, 1, []), (52, .aload_n 0, 53, 0, 0, 0, []), (53, .iconst (-1), 54, 0, 0, 0, []), (54, .putfield 73, 57, 7, 13, 0, []), (57, .return_, 58, 0, 0, 0, [])]
def ai_c39 : List (Nat × ai_I) := ai_c39_0
-- PenPage$Checker.<init>()V
def ai_c40_0 : List (Nat × ai_I) := [(0, .aload_n 0, 1, 0, 0, 0, []), (1, .invokespecial 3, 4, 0, 1, 5, []), (4, .aload_n 0, 5, 0, 0, 0, []), (5, .iconst 5, 6, 0, 0, 0, []), (6, .newarray .int, 8, 1, 0, 0, []), (8, .putfield 9, 11, 0, 0, 2, []), (11, .aload_n 0, 12, 0, 0, 0, []), (12, .bipush 6, 14, 0, 0, 0, []), (14, .newarray .int, 16, 1, 0, 0, []), (16, .putfield 15, 19, 0, 1, 2, []), (19, .aload_n 0, 20, 0, 0, 0, []), (20, .iconst 0, 21, 0, 0, 0, []), (21, .newarray .int, 23, 1, 0, 0, []), (23, .putfield 18, 26, 0, 2, 2, []), (26, .aload_n 0, 27, 0, 0, 0, []), (27, .iconst 0, 28, 0, 0, 0, []), (28, .putfield 21, 31, 0, 3, 0, []), (31, .aload_n 0, 32, 0, 0, 0, []), (32, .iconst 0, 33, 0, 0, 0, []), (33, .putfield 25, 36, 0, 4, 0, []), (36, .aload_n 0, 37, 0, 0, 0, []), (37, .iconst 0, 38, 0, 0, 0, []), (38, .putfield 28, 41, 0, 5, 0, []), (41, .aload_n 0, 42, 0, 0, 0, []), (42, .iconst 0, 43, 0, 0, 0, []), (43, .putfield 31, 46, 0, 6, 0, []), (46, .aload_n 0, 47, 0, 0, 0, []), (47, .iconst 0, 48, 0, 0, 0, []), (48, .putfield 34, 51, 0, 7, 0, []), (51, .return_, 52, 0, 0, 0, [])]
def ai_c40 : List (Nat × ai_I) := ai_c40_0
-- PenPage$Checker.check([III)I
def ai_c41_0 : List (Nat × ai_I) := [(0, .aload_n 0, 1, 0, 0, 0, []), (1, .aload_n 1, 2, 1, 0, 0, []), (2, .putfield 18, 5, 0, 2, 2, []), (5, .aload_n 0, 6, 0, 0, 0, []), (6, .iload_n 2, 7, 2, 0, 0, []), (7, .aload_n 1, 8, 1, 0, 0, []), (8, .arraylength, 9, 0, 0, 0, []), (9, .invokestatic 37, 12, 0, 2, 9, []), (12, .putfield 21, 15, 0, 3, 0, []), (15, .aload_n 0, 16, 0, 0, 0, []), (16, .iconst 0, 17, 0, 0, 0, []), (17, .putfield 25, 20, 0, 4, 0, []), (20, .aload_n 0, 21, 0, 0, 0, []), (21, .iload_n 3, 22, 3, 0, 0, []), (22, .putfield 28, 25, 0, 5, 0, []), (25, .aload_n 0, 26, 0, 0, 0, []), (26, .iconst 0, 27, 0, 0, 0, []), (27, .putfield 31, 30, 0, 6, 0, []), (30, .aload_n 0, 31, 0, 0, 0, []), (31, .iconst 0, 32, 0, 0, 0, []), (32, .putfield 34, 35, 0, 7, 0, []), (35, .aload_n 0, 36, 0, 0, 0, []), (36, .iconst 0, 37, 0, 0, 0, []), (37, .iconst 3, 38, 0, 0, 0, []), (38, .invokevirtual 43, 41, 44, 3, 0, [0, 0, 0]), (41, .istore 4, 43, 4, 0, 0, []), (43, .aload_n 0, 44, 0, 0, 0, []), (44, .iconst 0, 45, 0, 0, 0, []), (45, .iload_n 3, 46, 3, 0, 0, []), (46, .iconst 1, 47, 0, 0, 0, []), (47, .isub, 48, 0, 0, 0, []), (48, .invokevirtual 43, 51, 44, 3, 0, [0, 0, 0]), (51, .istore 5, 53, 5, 0, 0, []), (53, .aload_n 0, 54, 0, 0, 0, []), (54, .iconst 1, 55, 0, 0, 0, []), (55, .bipush 60, 57, 0, 0, 0, []), (57, .invokevirtual 43, 60, 44, 3, 0, [0, 0, 0]), (60, .istore 6, 62, 6, 0, 0, []), (62, .iconst 0, 63, 0, 0, 0, []), (63, .istore 7, 65, 7, 0, 0, [])]
def ai_c41_1 : List (Nat × ai_I) := [(65, .iload 7, 67, 7, 0, 0, []), (67, .iconst 5, 68, 0, 0, 0, []), (68, .if_icmp .ge 26, 71, 94, 0, 0, []), (71, .aload_n 0, 72, 0, 0, 0, []), (72, .getfield 9, 75, 0, 0, 2, []), (75, .iload 7, 77, 7, 0, 0, []), (77, .aload_n 0, 78, 0, 0, 0, []), (78, .iload 7, 80, 7, 0, 0, []), (80, .iload 5, 82, 5, 0, 0, []), (82, .iload 6, 84, 6, 0, 0, []), (84, .invokevirtual 46, 87, 47, 4, 0, [0, 0, 0]), (87, .iastore, 88, 0, 0, 0, []), (88, .iinc 7 1, 91, 7, 0, 0, []), (91, .goto (-26), 94, 65, 0, 0, []), (94, .aload_n 0, 95, 0, 0, 0, []), (95, .iconst 1, 96, 0, 0, 0, []), (96, .ldc 50, 98, 65535, 0, 0, []), (98, .invokevirtual 51, 101, 46, 3, 0, [0, 0, 0]), (101, .aload_n 0, 102, 0, 0, 0, []), (102, .iload 4, 104, 4, 0, 0, []), (104, .iload 6, 106, 6, 0, 0, []), (106, .invokevirtual 55, 109, 45, 3, 0, [0, 0, 0]), (109, .aload_n 0, 110, 0, 0, 0, []), (110, .invokevirtual 58, 113, 48, 1, 0, [0, 0, 0]), (113, .aload_n 0, 114, 0, 0, 0, []), (114, .getfield 25, 117, 0, 4, 0, []), (117, .aload_n 0, 118, 0, 0, 0, []), (118, .getfield 21, 121, 0, 3, 0, []), (121, .if_icmp .ge 12, 124, 133, 0, 0, []), (133, .aload_n 0, 134, 0, 0, 0, []), (134, .getfield 31, 137, 0, 6, 0, []), (137, .ireturn, 138, 0, 0, 0, [])]
def ai_c41 : List (Nat × ai_I) := ai_c41_0 ++ ai_c41_1
-- PenPage$Checker.fail(II)V
def ai_c42_0 : List (Nat × ai_I) := [(0, .aload_n 0, 1, 0, 0, 0, []), (1, .getfield 31, 4, 0, 6, 0, []), (4, .ifCond .ne 13, 7, 17, 0, 0, []), (7, .aload_n 0, 8, 0, 0, 0, []), (8, .iload_n 1, 9, 1, 0, 0, []), (9, .putfield 31, 12, 0, 6, 0, []), (12, .aload_n 0, 13, 0, 0, 0, []), (13, .iload_n 2, 14, 2, 0, 0, []), (14, .putfield 34, 17, 0, 7, 0, []), (17, .return_, 18, 0, 0, 0, [])]
def ai_c42 : List (Nat × ai_I) := ai_c42_0
-- PenPage$Checker.read()I
def ai_c43_0 : List (Nat × ai_I) := [(0, .aload_n 0, 1, 0, 0, 0, []), (1, .getfield 31, 4, 0, 6, 0, []), (4, .ifCond .eq 5, 7, 9, 0, 0, []), (7, .iconst 0, 8, 0, 0, 0, []), (8, .ireturn, 9, 0, 0, 0, []), (9, .aload_n 0, 10, 0, 0, 0, []), (10, .getfield 25, 13, 0, 4, 0, []), (13, .ifCond .lt 14, 16, 27, 0, 0, []), (16, .aload_n 0, 17, 0, 0, 0, []), (17, .getfield 25, 20, 0, 4, 0, []), (20, .aload_n 0, 21, 0, 0, 0, []), (21, .getfield 21, 24, 0, 3, 0, []), (24, .if_icmp .lt 14, 27, 38, 0, 0, []), (27, .aload_n 0, 28, 0, 0, 0, []), (28, .iconst 1, 29, 0, 0, 0, []), (29, .aload_n 0, 30, 0, 0, 0, []), (30, .getfield 21, 33, 0, 3, 0, []), (33, .invokevirtual 61, 36, 42, 3, 0, [0, 0, 0]), (36, .iconst 0, 37, 0, 0, 0, []), (37, .ireturn, 38, 0, 0, 0, [])]
def ai_c43 : List (Nat × ai_I) := ai_c43_0
-- PenPage$Checker.take(II)I
def ai_c44_0 : List (Nat × ai_I) := [(0, .aload_n 0, 1, 0, 0, 0, []), (1, .getfield 25, 4, 0, 4, 0, []), (4, .istore_n 3, 5, 3, 0, 0, []), (5, .aload_n 0, 6, 0, 0, 0, []), (6, .invokevirtual 64, 9, 43, 1, 0, [0, 0, 0]), (9, .istore 4, 11, 4, 0, 0, []), (11, .iload 4, 13, 4, 0, 0, []), (13, .iload_n 1, 14, 1, 0, 0, []), (14, .if_icmp .lt 9, 17, 23, 0, 0, []), (17, .iload 4, 19, 4, 0, 0, []), (19, .iload_n 2, 20, 2, 0, 0, []), (20, .if_icmp .le 9, 23, 29, 0, 0, []), (23, .aload_n 0, 24, 0, 0, 0, []), (24, .iconst 2, 25, 0, 0, 0, []), (25, .iload_n 3, 26, 3, 0, 0, []), (26, .invokevirtual 61, 29, 42, 3, 0, [0, 0, 0]), (29, .iload 4, 31, 4, 0, 0, []), (31, .ireturn, 32, 0, 0, 0, [])]
def ai_c44 : List (Nat × ai_I) := ai_c44_0
-- PenPage$Checker.takeBody(II)V
def ai_c45_0 : List (Nat × ai_I) := [(0, .aload_n 0, 1, 0, 0, 0, []), (1, .getfield 31, 4, 0, 6, 0, []), (4, .ifCond .eq 4, 7, 8, 0, 0, []), (7, .return_, 8, 0, 0, 0, [])]
def ai_c45 : List (Nat × ai_I) := ai_c45_0
-- PenPage$Checker.takePair(II)V
def ai_c46_0 : List (Nat × ai_I) := [(0, .aload_n 0, 1, 0, 0, 0, []), (1, .getfield 25, 4, 0, 4, 0, []), (4, .istore_n 3, 5, 3, 0, 0, []), (5, .aload_n 0, 6, 0, 0, 0, []), (6, .invokevirtual 64, 9, 43, 1, 0, [0, 0, 0]), (9, .sipush 256, 12, 0, 0, 0, []), (12, .imul, 13, 0, 0, 0, []), (13, .istore 4, 15, 4, 0, 0, []), (15, .iload 4, 17, 4, 0, 0, []), (17, .aload_n 0, 18, 0, 0, 0, []), (18, .invokevirtual 64, 21, 43, 1, 0, [0, 0, 0]), (21, .iadd, 22, 0, 0, 0, []), (22, .istore 4, 24, 4, 0, 0, []), (24, .iload 4, 26, 4, 0, 0, []), (26, .iload_n 1, 27, 1, 0, 0, []), (27, .if_icmp .lt 9, 30, 36, 0, 0, []), (36, .aload_n 0, 37, 0, 0, 0, []), (37, .iconst 2, 38, 0, 0, 0, []), (38, .iload_n 3, 39, 3, 0, 0, []), (39, .invokevirtual 61, 42, 42, 3, 0, [0, 0, 0]), (42, .return_, 43, 0, 0, 0, [])]
def ai_c46 : List (Nat × ai_I) := ai_c46_0
-- PenPage$Checker.takeSeen(III)I
def ai_c47_0 : List (Nat × ai_I) := [(0, .iload_n 1, 1, 1, 0, 0, []), (1, .iload_n 2, 2, 2, 0, 0, []), (2, .if_icmp .ne 14, 5, 16, 0, 0, []), (5, .aload_n 0, 6, 0, 0, 0, []), (6, .iload_n 3, 7, 3, 0, 0, []), (7, .iconst 1, 8, 0, 0, 0, []), (8, .isub, 9, 0, 0, 0, []), (9, .iload_n 3, 10, 3, 0, 0, []), (10, .iconst 1, 11, 0, 0, 0, []), (11, .isub, 12, 0, 0, 0, []), (12, .invokevirtual 43, 15, 44, 3, 0, [0, 0, 0]), (15, .ireturn, 16, 0, 0, 0, []), (16, .aload_n 0, 17, 0, 0, 0, []), (17, .iconst 0, 18, 0, 0, 0, []), (18, .iload_n 1, 19, 1, 0, 0, []), (19, .aload_n 0, 20, 0, 0, 0, []), (20, .getfield 28, 23, 0, 5, 0, []), (23, .if_icmp .ge 8, 26, 31, 0, 0, []), (26, .bipush 60, 28, 0, 0, 0, []), (28, .goto 4, 31, 32, 0, 0, []), (31, .iconst 0, 32, 0, 0, 0, []), (32, .invokevirtual 43, 35, 44, 3, 0, [0, 0, 0]), (35, .ireturn, 36, 0, 0, 0, [])]
def ai_c47 : List (Nat × ai_I) := ai_c47_0
-- PenPage$Checker.takeSum()V
def ai_c48_0 : List (Nat × ai_I) := [(0, .iconst 0, 1, 0, 0, 0, []), (1, .istore_n 1, 2, 1, 0, 0, []), (2, .iconst 0, 3, 0, 0, 0, []), (3, .istore_n 2, 4, 2, 0, 0, []), (4, .iload_n 2, 5, 2, 0, 0, []), (5, .aload_n 0, 6, 0, 0, 0, []), (6, .getfield 25, 9, 0, 4, 0, []), (9, .if_icmp .ge 18, 12, 27, 0, 0, []), (27, .aload_n 0, 28, 0, 0, 0, []), (28, .getfield 25, 31, 0, 4, 0, []), (31, .istore_n 2, 32, 2, 0, 0, []), (32, .aload_n 0, 33, 0, 0, 0, []), (33, .invokevirtual 64, 36, 43, 1, 0, [0, 0, 0]), (36, .iload_n 1, 37, 1, 0, 0, []), (37, .sipush 256, 40, 0, 0, 0, []), (40, .irem, 41, 0, 0, 0, []), (41, .if_icmp .eq 9, 44, 50, 0, 0, []), (50, .return_, 51, 0, 0, 0, [])]
def ai_c48 : List (Nat × ai_I) := ai_c48_0
-- PenPage$NewKey.<init>()V
def ai_c49_0 : List (Nat × ai_I) := [(0, .aload_n 0, 1, 0, 0, 0, []), (1, .invokespecial 3, 4, 0, 1, 5, []), (4, .aload_n 0, 5, 0, 0, 0, []), (5, .bipush 24, 7, 0, 0, 0, []), (7, .newarray .int, 9, 1, 0, 0, []), (9, .putfield 9, 12, 1, 0, 2, []), (12, .aload_n 0, 13, 0, 0, 0, []), (13, .bipush 24, 15, 0, 0, 0, []), (15, .newarray .int, 17, 1, 0, 0, []), (17, .putfield 15, 20, 1, 1, 2, []), (20, .aload_n 0, 21, 0, 0, 0, []), (21, .iconst 0, 22, 0, 0, 0, []), (22, .putfield 18, 25, 1, 2, 0, []), (25, .aload_n 0, 26, 0, 0, 0, []), (26, .iconst 0, 27, 0, 0, 0, []), (27, .putfield 22, 30, 1, 3, 0, []), (30, .return_, 31, 0, 0, 0, [])]
def ai_c49 : List (Nat × ai_I) := ai_c49_0
-- PenPage$NewKey.aim(LPenPage$View;I)V
def ai_c50_0 : List (Nat × ai_I) := [(0, .aload_n 0, 1, 0, 0, 0, []), (1, .iconst 0, 2, 0, 0, 0, []), (2, .putfield 18, 5, 1, 2, 0, []), (5, .aload_n 0, 6, 0, 0, 0, []), (6, .iconst 0, 7, 0, 0, 0, []), (7, .putfield 22, 10, 1, 3, 0, []), (10, .iconst 0, 11, 0, 0, 0, []), (11, .istore_n 3, 12, 3, 0, 0, []), (12, .aload_n 1, 13, 1, 0, 0, []), (13, .iload_n 2, 14, 2, 0, 0, []), (14, .iconst 1, 15, 0, 0, 0, []), (15, .isub, 16, 0, 0, 0, []), (16, .invokevirtual 25, 19, 88, 2, 0, [6, 0, 0]), (19, .istore 4, 21, 4, 0, 0, []), (21, .iload 4, 23, 4, 0, 0, []), (23, .iconst (-1), 24, 0, 0, 0, []), (24, .if_icmp .eq 30, 27, 54, 0, 0, []), (54, .iload_n 3, 55, 3, 0, 0, []), (55, .aload_n 1, 56, 1, 0, 0, []), (56, .getfield 42, 59, 6, 7, 0, []), (59, .if_icmp .ge 21, 62, 80, 0, 0, []), (80, .return_, 81, 0, 0, 0, [])]
def ai_c50 : List (Nat × ai_I) := ai_c50_0
-- PenPage$NewKey.grow(I)Z
def ai_c51_0 : List (Nat × ai_I) := [(0, .aload_n 0, 1, 0, 0, 0, []), (1, .getfield 22, 4, 1, 3, 0, []), (4, .ifCond .le 7, 7, 11, 0, 0, []), (11, .iconst 0, 12, 0, 0, 0, []), (12, .istore_n 2, 13, 2, 0, 0, []), (13, .iconst 0, 14, 0, 0, 0, []), (14, .istore_n 3, 15, 3, 0, 0, []), (15, .iload_n 3, 16, 3, 0, 0, []), (16, .bipush 24, 18, 0, 0, 0, []), (18, .if_icmp .ge 130, 21, 148, 0, 0, []), (21, .iload_n 3, 22, 3, 0, 0, []), (22, .aload_n 0, 23, 0, 0, 0, []), (23, .getfield 18, 26, 1, 2, 0, []), (26, .if_icmp .ge 12, 29, 38, 0, 0, []), (38, .iconst 0, 39, 0, 0, 0, []), (39, .istore 4, 41, 4, 0, 0, []), (41, .iload_n 2, 42, 2, 0, 0, []), (42, .ifCond .eq 20, 45, 62, 0, 0, []), (62, .sipush 800, 65, 0, 0, 0, []), (65, .istore 5, 67, 5, 0, 0, []), (67, .iload 4, 69, 4, 0, 0, []), (69, .bipush 8, 71, 0, 0, 0, []), (71, .idiv, 72, 0, 0, 0, []), (72, .istore 6, 74, 6, 0, 0, []), (74, .iload 5, 76, 5, 0, 0, []), (76, .bipush 8, 78, 0, 0, 0, []), (78, .idiv, 79, 0, 0, 0, []), (79, .istore 7, 81, 7, 0, 0, []), (81, .iload 7, 83, 7, 0, 0, []), (83, .iload 6, 85, 6, 0, 0, []), (85, .isub, 86, 0, 0, 0, []), (86, .iconst 2, 87, 0, 0, 0, []), (87, .if_icmp .lt 30, 90, 117, 0, 0, []), (90, .aload_n 0, 91, 0, 0, 0, []), (91, .getfield 9, 94, 1, 0, 2, []), (94, .iload_n 3, 95, 3, 0, 0, []), (95, .iload 6, 97, 6, 0, 0, []), (97, .iload 7, 99, 7, 0, 0, []), (99, .iadd, 100, 0, 0, 0, []), (100, .iconst 2, 101, 0, 0, 0, [])]
def ai_c51_1 : List (Nat × ai_I) := [(101, .idiv, 102, 0, 0, 0, []), (102, .bipush 8, 104, 0, 0, 0, []), (104, .imul, 105, 0, 0, 0, []), (105, .iload_n 1, 106, 1, 0, 0, []), (106, .iadd, 107, 0, 0, 0, []), (107, .iastore, 108, 0, 0, 0, []), (108, .aload_n 0, 109, 0, 0, 0, []), (109, .iload_n 3, 110, 3, 0, 0, []), (110, .iconst 1, 111, 0, 0, 0, []), (111, .iadd, 112, 0, 0, 0, []), (112, .putfield 18, 115, 1, 2, 0, []), (115, .iconst 1, 116, 0, 0, 0, []), (116, .ireturn, 117, 1, 0, 0, [])]
def ai_c51 : List (Nat × ai_I) := ai_c51_0 ++ ai_c51_1
-- PenPage$Packer.<init>()V
def ai_c52_0 : List (Nat × ai_I) := [(0, .aload_n 0, 1, 0, 0, 0, []), (1, .invokespecial 3, 4, 0, 1, 5, []), (4, .aload_n 0, 5, 0, 0, 0, []), (5, .sipush 400, 8, 0, 0, 0, []), (8, .newarray .int, 10, 1, 0, 0, []), (10, .putfield 9, 13, 2, 0, 2, []), (13, .aload_n 0, 14, 0, 0, 0, []), (14, .iconst 0, 15, 0, 0, 0, []), (15, .putfield 15, 18, 2, 1, 0, []), (18, .return_, 19, 0, 0, 0, [])]
def ai_c52 : List (Nat × ai_I) := ai_c52_0
-- PenPage$Packer.begin(ILPenPage$Page;)V
def ai_c53_0 : List (Nat × ai_I) := [(0, .aload_n 0, 1, 0, 0, 0, []), (1, .iconst 0, 2, 0, 0, 0, []), (2, .putfield 15, 5, 2, 1, 0, []), (5, .aload_n 0, 6, 0, 0, 0, []), (6, .iload_n 1, 7, 1, 0, 0, []), (7, .invokevirtual 19, 10, 55, 2, 0, [2, 0, 0]), (10, .aload_n 0, 11, 0, 0, 0, []), (11, .aload_n 2, 12, 2, 0, 0, []), (12, .getfield 23, 15, 3, 0, 0, []), (15, .invokevirtual 19, 18, 55, 2, 0, [2, 0, 0]), (18, .aload_n 0, 19, 0, 0, 0, []), (19, .aload_n 2, 20, 2, 0, 0, []), (20, .aload_n 2, 21, 2, 0, 0, []), (21, .getfield 23, 24, 3, 0, 0, []), (24, .invokevirtual 28, 27, 67, 2, 0, [3, 0, 0]), (27, .iconst 1, 28, 0, 0, 0, []), (28, .iadd, 29, 0, 0, 0, []), (29, .invokevirtual 19, 32, 55, 2, 0, [2, 0, 0]), (32, .iconst 0, 33, 0, 0, 0, []), (33, .istore_n 3, 34, 3, 0, 0, []), (34, .iload_n 3, 35, 3, 0, 0, []), (35, .iconst 5, 36, 0, 0, 0, []), (36, .if_icmp .ge 18, 39, 54, 0, 0, []), (39, .aload_n 0, 40, 0, 0, 0, []), (40, .aload_n 2, 41, 2, 0, 0, []), (41, .iload_n 3, 42, 3, 0, 0, []), (42, .invokevirtual 28, 45, 67, 2, 0, [3, 0, 0]), (45, .invokevirtual 19, 48, 55, 2, 0, [2, 0, 0]), (48, .iinc 3 1, 51, 3, 0, 0, []), (51, .goto (-17), 54, 34, 0, 0, []), (54, .aload_n 0, 55, 0, 0, 0, []), (55, .aload_n 2, 56, 2, 0, 0, []), (56, .getfield 32, 59, 3, 5, 0, []), (59, .iconst 1, 60, 0, 0, 0, []), (60, .iadd, 61, 0, 0, 0, []), (61, .invokevirtual 35, 64, 57, 2, 0, [2, 0, 0]), (64, .return_, 65, 0, 0, 0, [])]
def ai_c53 : List (Nat × ai_I) := ai_c53_0
-- PenPage$Packer.finish()LPenPage$Step;
def ai_c54_0 : List (Nat × ai_I) := [(0, .iconst 0, 1, 0, 0, 0, []), (1, .istore_n 1, 2, 1, 0, 0, []), (2, .iconst 0, 3, 0, 0, 0, []), (3, .istore_n 2, 4, 2, 0, 0, []), (4, .iload_n 2, 5, 2, 0, 0, []), (5, .aload_n 0, 6, 0, 0, 0, []), (6, .getfield 15, 9, 2, 1, 0, []), (9, .if_icmp .ge 18, 12, 27, 0, 0, []), (12, .iload_n 1, 13, 1, 0, 0, []), (13, .aload_n 0, 14, 0, 0, 0, []), (14, .getfield 9, 17, 2, 0, 2, []), (17, .iload_n 2, 18, 2, 0, 0, []), (18, .iaload, 19, 0, 0, 0, []), (19, .iadd, 20, 0, 0, 0, []), (20, .istore_n 1, 21, 1, 0, 0, []), (21, .iinc 2 1, 24, 2, 0, 0, []), (24, .goto (-20), 27, 4, 0, 0, []), (27, .aload_n 0, 28, 0, 0, 0, []), (28, .iload_n 1, 29, 1, 0, 0, []), (29, .invokevirtual 19, 32, 55, 2, 0, [2, 0, 0]), (32, .new 46, 35, 4, 0, 0, []), (35, .dup, 36, 0, 0, 0, []), (36, .aload_n 0, 37, 0, 0, 0, []), (37, .getfield 9, 40, 2, 0, 2, []), (40, .aload_n 0, 41, 0, 0, 0, []), (41, .getfield 15, 44, 2, 1, 0, []), (44, .invokespecial 48, 47, 68, 3, 0, [4, 0, 0]), (47, .areturn, 48, 0, 0, 0, [])]
def ai_c54 : List (Nat × ai_I) := ai_c54_0
-- PenPage$Packer.put(I)V
def ai_c55_0 : List (Nat × ai_I) := [(0, .aload_n 0, 1, 0, 0, 0, []), (1, .getfield 15, 4, 2, 1, 0, []), (4, .aload_n 0, 5, 0, 0, 0, []), (5, .getfield 9, 8, 2, 0, 2, []), (8, .arraylength, 9, 0, 0, 0, []), (9, .if_icmp .ge 27, 12, 36, 0, 0, []), (12, .aload_n 0, 13, 0, 0, 0, []), (13, .getfield 9, 16, 2, 0, 2, []), (16, .aload_n 0, 17, 0, 0, 0, []), (17, .getfield 15, 20, 2, 1, 0, []), (20, .iload_n 1, 21, 1, 0, 0, []), (21, .sipush 255, 24, 0, 0, 0, []), (24, .iand, 25, 0, 0, 0, []), (25, .iastore, 26, 0, 0, 0, []), (26, .aload_n 0, 27, 0, 0, 0, []), (27, .dup, 28, 0, 0, 0, []), (28, .getfield 15, 31, 2, 1, 0, []), (31, .iconst 1, 32, 0, 0, 0, []), (32, .iadd, 33, 0, 0, 0, []), (33, .putfield 15, 36, 2, 1, 0, []), (36, .return_, 37, 0, 0, 0, [])]
def ai_c55 : List (Nat × ai_I) := ai_c55_0
-- PenPage$Packer.putKey(LPenPage$NewKey;)V
def ai_c56_0 : List (Nat × ai_I) := [(0, .aload_n 0, 1, 0, 0, 0, []), (1, .aload_n 1, 2, 1, 0, 0, []), (2, .getfield 38, 5, 1, 2, 0, []), (5, .invokevirtual 19, 8, 55, 2, 0, [2, 0, 0]), (8, .iconst 0, 9, 0, 0, 0, []), (9, .istore_n 2, 10, 2, 0, 0, []), (10, .iload_n 2, 11, 2, 0, 0, []), (11, .aload_n 1, 12, 1, 0, 0, []), (12, .getfield 38, 15, 1, 2, 0, []), (15, .if_icmp .ge 19, 18, 34, 0, 0, []), (18, .aload_n 0, 19, 0, 0, 0, []), (19, .aload_n 1, 20, 1, 0, 0, []), (20, .getfield 43, 23, 1, 0, 2, []), (23, .iload_n 2, 24, 2, 0, 0, []), (24, .iaload, 25, 0, 0, 0, []), (25, .invokevirtual 35, 28, 57, 2, 0, [2, 0, 0]), (28, .iinc 2 1, 31, 2, 0, 0, []), (31, .goto (-21), 34, 10, 0, 0, []), (34, .return_, 35, 0, 0, 0, [])]
def ai_c56 : List (Nat × ai_I) := ai_c56_0
-- PenPage$Packer.putPair(I)V
def ai_c57_0 : List (Nat × ai_I) := [(0, .aload_n 0, 1, 0, 0, 0, []), (1, .iload_n 1, 2, 1, 0, 0, []), (2, .bipush 8, 4, 0, 0, 0, []), (4, .iushr, 5, 0, 0, 0, []), (5, .invokevirtual 19, 8, 55, 2, 0, [2, 0, 0]), (8, .aload_n 0, 9, 0, 0, 0, []), (9, .iload_n 1, 10, 1, 0, 0, []), (10, .invokevirtual 19, 13, 55, 2, 0, [2, 0, 0]), (13, .return_, 14, 0, 0, 0, [])]
def ai_c57 : List (Nat × ai_I) := ai_c57_0
-- PenPage$Page.<init>(I)V
def ai_c58_0 : List (Nat × ai_I) := [(0, .aload_n 0, 1, 0, 0, 0, []), (1, .invokespecial 3, 4, 0, 1, 5, []), (4, .aload_n 0, 5, 0, 0, 0, []), (5, .sipush 300, 8, 0, 0, 0, []), (8, .anewarray 9, 11, 5, 0, 0, []), (11, .putfield 11, 14, 3, 1, 2, []), (14, .aload_n 0, 15, 0, 0, 0, []), (15, .iconst 5, 16, 0, 0, 0, []), (16, .newarray .int, 18, 1, 0, 0, []), (18, .putfield 17, 21, 3, 2, 2, []), (21, .aload_n 0, 22, 0, 0, 0, []), (22, .bipush 20, 24, 0, 0, 0, []), (24, .anewarray 9, 27, 5, 0, 0, []), (27, .putfield 21, 30, 3, 3, 2, []), (30, .aload_n 0, 31, 0, 0, 0, []), (31, .iconst 0, 32, 0, 0, 0, []), (32, .putfield 24, 35, 3, 4, 0, []), (35, .aload_n 0, 36, 0, 0, 0, []), (36, .iconst 0, 37, 0, 0, 0, []), (37, .putfield 28, 40, 3, 5, 0, []), (40, .aload_n 0, 41, 0, 0, 0, []), (41, .iload_n 1, 42, 1, 0, 0, []), (42, .putfield 31, 45, 3, 0, 0, []), (45, .return_, 46, 0, 0, 0, [])]
def ai_c58 : List (Nat × ai_I) := ai_c58_0
-- PenPage$Page.canStep()Z
def ai_c59_0 : List (Nat × ai_I) := [(0, .aload_n 0, 1, 0, 0, 0, []), (1, .getfield 17, 4, 3, 2, 2, []), (4, .aload_n 0, 5, 0, 0, 0, []), (5, .getfield 31, 8, 3, 0, 0, []), (8, .iaload, 9, 0, 0, 0, []), (9, .bipush 60, 11, 0, 0, 0, []), (11, .if_icmp .ge 16, 14, 27, 0, 0, []), (14, .aload_n 0, 15, 0, 0, 0, []), (15, .getfield 28, 18, 3, 5, 0, []), (18, .ldc 54, 20, 65535, 0, 0, []), (20, .if_icmp .ge 7, 23, 27, 0, 0, []), (23, .iconst 1, 24, 0, 0, 0, []), (24, .goto 4, 27, 28, 0, 0, []), (28, .ireturn, 29, 1, 0, 0, [])]
def ai_c59 : List (Nat × ai_I) := ai_c59_0
-- PenPage$Page.copy(LPenPage$Page;)V
def ai_c60_0 : List (Nat × ai_I) := [(0, .iconst 0, 1, 0, 0, 0, []), (1, .istore_n 2, 2, 2, 0, 0, []), (2, .iload_n 2, 3, 2, 0, 0, []), (3, .sipush 300, 6, 0, 0, 0, []), (6, .if_icmp .ge 21, 9, 27, 0, 0, []), (9, .aload_n 0, 10, 0, 0, 0, []), (10, .getfield 11, 13, 3, 1, 2, []), (13, .iload_n 2, 14, 2, 0, 0, []), (14, .aload_n 1, 15, 1, 0, 0, []), (15, .getfield 11, 18, 3, 1, 2, []), (18, .iload_n 2, 19, 2, 0, 0, []), (19, .aaload, 20, 0, 0, 0, []), (20, .aastore, 21, 5, 2, 0, []), (21, .iinc 2 1, 24, 2, 0, 0, []), (24, .goto (-22), 27, 2, 0, 0, []), (27, .iconst 0, 28, 0, 0, 0, []), (28, .istore_n 2, 29, 2, 0, 0, []), (29, .iload_n 2, 30, 2, 0, 0, []), (30, .bipush 20, 32, 0, 0, 0, []), (32, .if_icmp .ge 21, 35, 53, 0, 0, []), (35, .aload_n 0, 36, 0, 0, 0, []), (36, .getfield 21, 39, 3, 3, 2, []), (39, .iload_n 2, 40, 2, 0, 0, []), (40, .aload_n 1, 41, 1, 0, 0, []), (41, .getfield 21, 44, 3, 3, 2, []), (44, .iload_n 2, 45, 2, 0, 0, []), (45, .aaload, 46, 0, 0, 0, []), (46, .aastore, 47, 5, 2, 0, []), (47, .iinc 2 1, 50, 2, 0, 0, []), (50, .goto (-21), 53, 29, 0, 0, []), (53, .aload_n 1, 54, 1, 0, 0, []), (54, .getfield 17, 57, 3, 2, 2, []), (57, .iconst 0, 58, 0, 0, 0, []), (58, .aload_n 0, 59, 0, 0, 0, []), (59, .getfield 17, 62, 3, 2, 2, []), (62, .iconst 0, 63, 0, 0, 0, []), (63, .iconst 5, 64, 0, 0, 0, []), (64, .invokestatic 40, 67, 0, 5, 6, []), (67, .aload_n 0, 68, 0, 0, 0, []), (68, .aload_n 1, 69, 1, 0, 0, [])]
def ai_c60_1 : List (Nat × ai_I) := [(69, .getfield 24, 72, 3, 4, 0, []), (72, .putfield 24, 75, 3, 4, 0, []), (75, .aload_n 0, 76, 0, 0, 0, []), (76, .aload_n 1, 77, 1, 0, 0, []), (77, .getfield 28, 80, 3, 5, 0, []), (80, .putfield 28, 83, 3, 5, 0, []), (83, .return_, 84, 0, 0, 0, [])]
def ai_c60 : List (Nat × ai_I) := ai_c60_0 ++ ai_c60_1
-- PenPage$Page.dropOvertaken()V
def ai_c61_0 : List (Nat × ai_I) := [(0, .iconst 0, 1, 0, 0, 0, []), (1, .istore_n 1, 2, 1, 0, 0, []), (2, .iconst 0, 3, 0, 0, 0, []), (3, .istore_n 2, 4, 2, 0, 0, []), (4, .iload_n 2, 5, 2, 0, 0, []), (5, .aload_n 0, 6, 0, 0, 0, []), (6, .getfield 24, 9, 3, 4, 0, []), (9, .if_icmp .ge 49, 12, 58, 0, 0, []), (58, .iload_n 1, 59, 1, 0, 0, []), (59, .istore_n 2, 60, 2, 0, 0, []), (60, .iload_n 2, 61, 2, 0, 0, []), (61, .aload_n 0, 62, 0, 0, 0, []), (62, .getfield 24, 65, 3, 4, 0, []), (65, .if_icmp .ge 16, 68, 81, 0, 0, []), (81, .aload_n 0, 82, 0, 0, 0, []), (82, .iload_n 1, 83, 1, 0, 0, []), (83, .putfield 24, 86, 3, 4, 0, []), (86, .return_, 87, 0, 0, 0, [])]
def ai_c61 : List (Nat × ai_I) := ai_c61_0
-- PenPage$Page.empty()V
def ai_c62_0 : List (Nat × ai_I) := [(0, .iconst 0, 1, 0, 0, 0, []), (1, .istore_n 1, 2, 1, 0, 0, []), (2, .iload_n 1, 3, 1, 0, 0, []), (3, .sipush 300, 6, 0, 0, 0, []), (6, .if_icmp .ge 16, 9, 22, 0, 0, []), (9, .aload_n 0, 10, 0, 0, 0, []), (10, .getfield 11, 13, 3, 1, 2, []), (13, .iload_n 1, 14, 1, 0, 0, []), (14, .aconst_null, 15, 0, 0, 0, []), (15, .aastore, 16, 5, 2, 0, []), (16, .iinc 1 1, 19, 1, 0, 0, []), (19, .goto (-17), 22, 2, 0, 0, []), (22, .iconst 0, 23, 0, 0, 0, []), (23, .istore_n 1, 24, 1, 0, 0, []), (24, .iload_n 1, 25, 1, 0, 0, []), (25, .bipush 20, 27, 0, 0, 0, []), (27, .if_icmp .ge 16, 30, 43, 0, 0, []), (30, .aload_n 0, 31, 0, 0, 0, []), (31, .getfield 21, 34, 3, 3, 2, []), (34, .iload_n 1, 35, 1, 0, 0, []), (35, .aconst_null, 36, 0, 0, 0, []), (36, .aastore, 37, 5, 2, 0, []), (37, .iinc 1 1, 40, 1, 0, 0, []), (40, .goto (-16), 43, 24, 0, 0, []), (43, .aload_n 0, 44, 0, 0, 0, []), (44, .getfield 17, 47, 3, 2, 2, []), (47, .iconst 0, 48, 0, 0, 0, []), (48, .invokestatic 34, 51, 166, 2, 7, []), (51, .aload_n 0, 52, 0, 0, 0, []), (52, .iconst 0, 53, 0, 0, 0, []), (53, .putfield 24, 56, 3, 4, 0, []), (56, .aload_n 0, 57, 0, 0, 0, []), (57, .iconst 0, 58, 0, 0, 0, []), (58, .putfield 28, 61, 3, 5, 0, []), (61, .return_, 62, 0, 0, 0, [])]
def ai_c62 : List (Nat × ai_I) := ai_c62_0
-- PenPage$Page.have(LPenPage$Step;)V
def ai_c63_0 : List (Nat × ai_I) := [(0, .aload_n 1, 1, 1, 0, 0, []), (1, .invokevirtual 55, 4, 73, 1, 0, [4, 0, 0]), (4, .istore_n 2, 5, 2, 0, 0, []), (5, .iload_n 2, 6, 2, 0, 0, []), (6, .iconst 5, 7, 0, 0, 0, []), (7, .if_icmp .ge 55, 10, 62, 0, 0, []), (10, .aload_n 0, 11, 0, 0, 0, []), (11, .getfield 17, 14, 3, 2, 2, []), (14, .iload_n 2, 15, 2, 0, 0, []), (15, .iaload, 16, 0, 0, 0, []), (16, .bipush 60, 18, 0, 0, 0, []), (18, .if_icmp .ge 44, 21, 62, 0, 0, []), (21, .aload_n 0, 22, 0, 0, 0, []), (22, .getfield 17, 25, 3, 2, 2, []), (25, .iload_n 2, 26, 2, 0, 0, []), (26, .dup2, 27, 0, 0, 0, []), (27, .iaload, 28, 0, 0, 0, []), (28, .iconst 1, 29, 0, 0, 0, []), (29, .iadd, 30, 0, 0, 0, []), (30, .iastore, 31, 0, 0, 0, []), (31, .aload_n 0, 32, 0, 0, 0, []), (32, .getfield 11, 35, 3, 1, 2, []), (35, .iload_n 2, 36, 2, 0, 0, []), (36, .aload_n 0, 37, 0, 0, 0, []), (37, .getfield 17, 40, 3, 2, 2, []), (40, .iload_n 2, 41, 2, 0, 0, []), (41, .iaload, 42, 0, 0, 0, []), (42, .invokestatic 50, 45, 30, 2, 1, []), (45, .aload_n 1, 46, 1, 0, 0, []), (46, .aastore, 47, 5, 2, 0, []), (47, .aload_n 0, 48, 0, 0, 0, []), (48, .aload_n 0, 49, 0, 0, 0, []), (49, .getfield 28, 52, 3, 5, 0, []), (52, .aload_n 1, 53, 1, 0, 0, []), (53, .invokevirtual 83, 56, 69, 1, 0, [4, 0, 0]), (56, .invokestatic 86, 59, 0, 2, 8, []), (59, .putfield 28, 62, 3, 5, 0, []), (62, .return_, 63, 0, 0, 0, [])]
def ai_c63 : List (Nat × ai_I) := ai_c63_0
-- PenPage$Page.leastReady()I
def ai_c64_0 : List (Nat × ai_I) := [(0, .iconst (-1), 1, 0, 0, 0, []), (1, .istore_n 1, 2, 1, 0, 0, []), (2, .sipush 300, 5, 0, 0, 0, []), (5, .istore_n 2, 6, 2, 0, 0, []), (6, .iconst 0, 7, 0, 0, 0, []), (7, .istore_n 3, 8, 3, 0, 0, []), (8, .iload_n 3, 9, 3, 0, 0, []), (9, .aload_n 0, 10, 0, 0, 0, []), (10, .getfield 24, 13, 3, 4, 0, []), (13, .if_icmp .ge 56, 16, 69, 0, 0, []), (69, .iload_n 1, 70, 1, 0, 0, []), (70, .ireturn, 71, 0, 0, 0, [])]
def ai_c64 : List (Nat × ai_I) := ai_c64_0
-- PenPage$Page.settle()V
def ai_c65_0 : List (Nat × ai_I) := [(0, .aload_n 0, 1, 0, 0, 0, []), (1, .invokevirtual 91, 4, 61, 1, 0, [3, 0, 0]), (4, .iconst 0, 5, 0, 0, 0, []), (5, .istore_n 1, 6, 1, 0, 0, []), (6, .iload_n 1, 7, 1, 0, 0, []), (7, .bipush 20, 9, 0, 0, 0, []), (9, .if_icmp .ge 34, 12, 43, 0, 0, []), (12, .aload_n 0, 13, 0, 0, 0, []), (13, .invokevirtual 94, 16, 64, 1, 0, [3, 0, 0]), (16, .istore_n 2, 17, 2, 0, 0, []), (17, .iload_n 2, 18, 2, 0, 0, []), (18, .iconst (-1), 19, 0, 0, 0, []), (19, .if_icmp .ne 4, 22, 23, 0, 0, []), (22, .return_, 23, 0, 0, 0, [])]
def ai_c65 : List (Nat × ai_I) := ai_c65_0
-- PenPage$Page.stepOf(II)LPenPage$Step;
def ai_c66_0 : List (Nat × ai_I) := [(0, .iload_n 2, 1, 2, 0, 0, []), (1, .iconst 1, 2, 0, 0, 0, []), (2, .if_icmp .lt 25, 5, 27, 0, 0, []), (5, .iload_n 2, 6, 2, 0, 0, []), (6, .aload_n 0, 7, 0, 0, 0, []), (7, .iload_n 1, 8, 1, 0, 0, []), (8, .invokevirtual 46, 11, 67, 2, 0, [3, 0, 0]), (11, .if_icmp .gt 16, 14, 27, 0, 0, []), (27, .aconst_null, 28, 0, 0, 0, []), (28, .areturn, 29, 0, 0, 0, [])]
def ai_c66 : List (Nat × ai_I) := ai_c66_0
-- PenPage$Page.stepsOf(I)I
def ai_c67_0 : List (Nat × ai_I) := [(0, .iload_n 1, 1, 1, 0, 0, []), (1, .ifCond .lt 17, 4, 18, 0, 0, []), (4, .iload_n 1, 5, 1, 0, 0, []), (5, .iconst 5, 6, 0, 0, 0, []), (6, .if_icmp .ge 12, 9, 18, 0, 0, []), (9, .aload_n 0, 10, 0, 0, 0, []), (10, .getfield 17, 13, 3, 2, 2, []), (13, .iload_n 1, 14, 1, 0, 0, []), (14, .iaload, 15, 0, 0, 0, []), (15, .goto 4, 18, 19, 0, 0, []), (18, .iconst 0, 19, 0, 0, 0, []), (19, .ireturn, 20, 0, 0, 0, [])]
def ai_c67 : List (Nat × ai_I) := ai_c67_0
-- PenPage$Step.<init>([II)V
def ai_c68_0 : List (Nat × ai_I) := [(0, .aload_n 0, 1, 0, 0, 0, []), (1, .invokespecial 3, 4, 0, 1, 5, []), (4, .aload_n 0, 5, 0, 0, 0, []), (5, .aload_n 1, 6, 1, 0, 0, []), (6, .iconst 0, 7, 0, 0, 0, []), (7, .iload_n 2, 8, 2, 0, 0, []), (8, .aload_n 1, 9, 1, 0, 0, []), (9, .arraylength, 10, 0, 0, 0, []), (10, .invokestatic 9, 13, 0, 2, 9, []), (13, .invokestatic 15, 16, 0, 2, 8, []), (16, .invokestatic 18, 19, 165, 2, 7, []), (19, .putfield 24, 22, 4, 0, 2, []), (22, .return_, 23, 0, 0, 0, [])]
def ai_c68 : List (Nat × ai_I) := ai_c68_0
-- PenPage$Step.age()I
def ai_c69_0 : List (Nat × ai_I) := [(0, .aload_n 0, 1, 0, 0, 0, []), (1, .bipush 8, 3, 0, 0, 0, []), (3, .invokevirtual 34, 6, 72, 2, 0, [4, 0, 0]), (6, .ireturn, 7, 0, 0, 0, [])]
def ai_c69 : List (Nat × ai_I) := ai_c69_0
-- PenPage$Step.byteAt(I)I
def ai_c70_0 : List (Nat × ai_I) := [(0, .iload_n 1, 1, 1, 0, 0, []), (1, .ifCond .lt 21, 4, 22, 0, 0, []), (4, .iload_n 1, 5, 1, 0, 0, []), (5, .aload_n 0, 6, 0, 0, 0, []), (6, .getfield 24, 9, 4, 0, 2, []), (9, .arraylength, 10, 0, 0, 0, []), (10, .if_icmp .ge 12, 13, 22, 0, 0, []), (13, .aload_n 0, 14, 0, 0, 0, []), (14, .getfield 24, 17, 4, 0, 2, []), (17, .iload_n 1, 18, 1, 0, 0, []), (18, .iaload, 19, 0, 0, 0, []), (19, .goto 4, 22, 23, 0, 0, []), (23, .ireturn, 24, 0, 0, 0, [])]
def ai_c70 : List (Nat × ai_I) := ai_c70_0
-- PenPage$Step.number()I
def ai_c71_0 : List (Nat × ai_I) := [(0, .aload_n 0, 1, 0, 0, 0, []), (1, .iconst 2, 2, 0, 0, 0, []), (2, .invokevirtual 30, 5, 70, 2, 0, [4, 0, 0]), (5, .ireturn, 6, 0, 0, 0, [])]
def ai_c71 : List (Nat × ai_I) := ai_c71_0
-- PenPage$Step.pairAt(I)I
def ai_c72_0 : List (Nat × ai_I) := [(0, .iload_n 1, 1, 1, 0, 0, []), (1, .ifCond .lt 36, 4, 37, 0, 0, []), (4, .iload_n 1, 5, 1, 0, 0, []), (5, .aload_n 0, 6, 0, 0, 0, []), (6, .getfield 24, 9, 4, 0, 2, []), (9, .arraylength, 10, 0, 0, 0, []), (10, .iconst 1, 11, 0, 0, 0, []), (11, .isub, 12, 0, 0, 0, []), (12, .if_icmp .ge 25, 15, 37, 0, 0, []), (15, .aload_n 0, 16, 0, 0, 0, []), (16, .getfield 24, 19, 4, 0, 2, []), (19, .iload_n 1, 20, 1, 0, 0, []), (20, .iaload, 21, 0, 0, 0, []), (21, .sipush 256, 24, 0, 0, 0, []), (24, .imul, 25, 0, 0, 0, []), (25, .aload_n 0, 26, 0, 0, 0, []), (26, .getfield 24, 29, 4, 0, 2, []), (29, .iload_n 1, 30, 1, 0, 0, []), (30, .iconst 1, 31, 0, 0, 0, []), (31, .iadd, 32, 0, 0, 0, []), (32, .iaload, 33, 0, 0, 0, []), (33, .iadd, 34, 0, 0, 0, []), (34, .goto 4, 37, 38, 0, 0, []), (38, .ireturn, 39, 0, 0, 0, [])]
def ai_c72 : List (Nat × ai_I) := ai_c72_0
-- PenPage$Step.writer()I
def ai_c73_0 : List (Nat × ai_I) := [(0, .aload_n 0, 1, 0, 0, 0, []), (1, .iconst 1, 2, 0, 0, 0, []), (2, .invokevirtual 30, 5, 70, 2, 0, [4, 0, 0]), (5, .ireturn, 6, 0, 0, 0, [])]
def ai_c73 : List (Nat × ai_I) := ai_c73_0
-- PenPage$Story.<init>()V
def ai_c74_0 : List (Nat × ai_I) := [(0, .aload_n 0, 1, 0, 0, 0, []), (1, .invokespecial 3, 4, 0, 1, 5, []), (4, .aload_n 0, 5, 0, 0, 0, []), (5, .bipush 12, 7, 0, 0, 0, []), (7, .newarray .int, 9, 1, 0, 0, []), (9, .putfield 9, 12, 5, 0, 2, []), (12, .aload_n 0, 13, 0, 0, 0, []), (13, .bipush 8, 15, 0, 0, 0, []), (15, .newarray .int, 17, 1, 0, 0, []), (17, .putfield 15, 20, 5, 1, 2, []), (20, .aload_n 0, 21, 0, 0, 0, []), (21, .bipush 8, 23, 0, 0, 0, []), (23, .newarray .int, 25, 1, 0, 0, []), (25, .putfield 18, 28, 5, 2, 2, []), (28, .aload_n 0, 29, 0, 0, 0, []), (29, .bipush 8, 31, 0, 0, 0, []), (31, .newarray .int, 33, 1, 0, 0, []), (33, .putfield 21, 36, 5, 3, 2, []), (36, .aload_n 0, 37, 0, 0, 0, []), (37, .bipush 8, 39, 0, 0, 0, []), (39, .newarray .int, 41, 1, 0, 0, []), (41, .putfield 24, 44, 5, 4, 2, []), (44, .aload_n 0, 45, 0, 0, 0, []), (45, .bipush 8, 47, 0, 0, 0, []), (47, .newarray .int, 49, 1, 0, 0, []), (49, .putfield 27, 52, 5, 5, 2, []), (52, .aload_n 0, 53, 0, 0, 0, []), (53, .bipush 9, 55, 0, 0, 0, []), (55, .bipush 8, 57, 0, 0, 0, []), (57, .multianewarray 30 2, 61, 0, 0, 0, []), (61, .putfield 32, 64, 5, 6, 2, []), (64, .aload_n 0, 65, 0, 0, 0, []), (65, .bipush 9, 67, 0, 0, 0, []), (67, .newarray .int, 69, 1, 0, 0, []), (69, .putfield 35, 72, 5, 7, 2, []), (72, .aload_n 0, 73, 0, 0, 0, []), (73, .iconst 0, 74, 0, 0, 0, []), (74, .putfield 38, 77, 5, 8, 0, []), (77, .aload_n 0, 78, 0, 0, 0, []), (78, .iconst 0, 79, 0, 0, 0, [])]
def ai_c74_1 : List (Nat × ai_I) := [(79, .putfield 42, 82, 5, 9, 0, []), (82, .aload_n 0, 83, 0, 0, 0, []), (83, .iconst 0, 84, 0, 0, 0, []), (84, .putfield 45, 87, 5, 10, 0, []), (87, .aload_n 0, 88, 0, 0, 0, []), (88, .iconst 0, 89, 0, 0, 0, []), (89, .putfield 48, 92, 5, 11, 0, []), (92, .aload_n 0, 93, 0, 0, 0, []), (93, .iconst 0, 94, 0, 0, 0, []), (94, .putfield 51, 97, 5, 12, 1, []), (97, .return_, 98, 0, 0, 0, [])]
def ai_c74 : List (Nat × ai_I) := ai_c74_0 ++ ai_c74_1
-- PenPage$Story.addAct(III)Z
def ai_c75_0 : List (Nat × ai_I) := [(0, .aload_n 0, 1, 0, 0, 0, []), (1, .getfield 42, 4, 5, 9, 0, []), (4, .bipush 8, 6, 0, 0, 0, []), (6, .if_icmp .lt 5, 9, 11, 0, 0, []), (11, .aload_n 0, 12, 0, 0, 0, []), (12, .getfield 15, 15, 5, 1, 2, []), (15, .aload_n 0, 16, 0, 0, 0, []), (16, .getfield 42, 19, 5, 9, 0, []), (19, .iload_n 1, 20, 1, 0, 0, []), (20, .iastore, 21, 0, 0, 0, []), (21, .aload_n 0, 22, 0, 0, 0, []), (22, .getfield 18, 25, 5, 2, 2, []), (25, .aload_n 0, 26, 0, 0, 0, []), (26, .getfield 42, 29, 5, 9, 0, []), (29, .iload_n 2, 30, 2, 0, 0, []), (30, .iastore, 31, 0, 0, 0, []), (31, .aload_n 0, 32, 0, 0, 0, []), (32, .getfield 21, 35, 5, 3, 2, []), (35, .aload_n 0, 36, 0, 0, 0, []), (36, .getfield 42, 39, 5, 9, 0, []), (39, .iload_n 3, 40, 3, 0, 0, []), (40, .iastore, 41, 0, 0, 0, []), (41, .aload_n 0, 42, 0, 0, 0, []), (42, .dup, 43, 0, 0, 0, []), (43, .getfield 42, 46, 5, 9, 0, []), (46, .iconst 1, 47, 0, 0, 0, []), (47, .iadd, 48, 0, 0, 0, []), (48, .putfield 42, 51, 5, 9, 0, []), (51, .aload_n 0, 52, 0, 0, 0, []), (52, .iconst 0, 53, 0, 0, 0, []), (53, .putfield 51, 56, 5, 12, 1, []), (56, .iconst 1, 57, 0, 0, 0, []), (57, .ireturn, 58, 1, 0, 0, [])]
def ai_c75 : List (Nat × ai_I) := ai_c75_0
-- PenPage$Story.addSign(I)Z
def ai_c76_0 : List (Nat × ai_I) := [(0, .aload_n 0, 1, 0, 0, 0, []), (1, .getfield 38, 4, 5, 8, 0, []), (4, .bipush 12, 6, 0, 0, 0, []), (6, .if_icmp .lt 5, 9, 11, 0, 0, []), (11, .aload_n 0, 12, 0, 0, 0, []), (12, .getfield 9, 15, 5, 0, 2, []), (15, .aload_n 0, 16, 0, 0, 0, []), (16, .getfield 38, 19, 5, 8, 0, []), (19, .iload_n 1, 20, 1, 0, 0, []), (20, .iastore, 21, 0, 0, 0, []), (21, .aload_n 0, 22, 0, 0, 0, []), (22, .dup, 23, 0, 0, 0, []), (23, .getfield 38, 26, 5, 8, 0, []), (26, .iconst 1, 27, 0, 0, 0, []), (27, .iadd, 28, 0, 0, 0, []), (28, .putfield 38, 31, 5, 8, 0, []), (31, .aload_n 0, 32, 0, 0, 0, []), (32, .iconst 0, 33, 0, 0, 0, []), (33, .putfield 51, 36, 5, 12, 1, []), (36, .iconst 1, 37, 0, 0, 0, []), (37, .ireturn, 38, 1, 0, 0, [])]
def ai_c76 : List (Nat × ai_I) := ai_c76_0
-- PenPage$Story.empty()V
def ai_c77_0 : List (Nat × ai_I) := [(0, .aload_n 0, 1, 0, 0, 0, []), (1, .iconst 0, 2, 0, 0, 0, []), (2, .putfield 38, 5, 5, 8, 0, []), (5, .aload_n 0, 6, 0, 0, 0, []), (6, .iconst 0, 7, 0, 0, 0, []), (7, .putfield 42, 10, 5, 9, 0, []), (10, .aload_n 0, 11, 0, 0, 0, []), (11, .iconst 0, 12, 0, 0, 0, []), (12, .putfield 51, 15, 5, 12, 1, []), (15, .return_, 16, 0, 0, 0, [])]
def ai_c77 : List (Nat × ai_I) := ai_c77_0
-- PenPage$Story.finishOrder(I)V
def ai_c78_0 : List (Nat × ai_I) := [(0, .aload_n 0, 1, 0, 0, 0, []), (1, .getfield 35, 4, 5, 7, 2, []), (4, .iload_n 1, 5, 1, 0, 0, []), (5, .iaload, 6, 0, 0, 0, []), (6, .aload_n 0, 7, 0, 0, 0, []), (7, .getfield 38, 10, 5, 8, 0, []), (10, .if_icmp .eq 4, 13, 14, 0, 0, []), (14, .iconst 0, 15, 0, 0, 0, []), (15, .istore_n 2, 16, 2, 0, 0, []), (16, .iload_n 2, 17, 2, 0, 0, []), (17, .aload_n 0, 18, 0, 0, 0, []), (18, .getfield 38, 21, 5, 8, 0, []), (21, .if_icmp .ge 33, 24, 54, 0, 0, []), (54, .aload_n 0, 55, 0, 0, 0, []), (55, .getfield 45, 58, 5, 10, 0, []), (58, .ifCond .ne 18, 61, 76, 0, 0, []), (61, .aload_n 0, 62, 0, 0, 0, []), (62, .getfield 24, 65, 5, 4, 2, []), (65, .iconst 0, 66, 0, 0, 0, []), (66, .aload_n 0, 67, 0, 0, 0, []), (67, .getfield 27, 70, 5, 5, 2, []), (70, .iconst 0, 71, 0, 0, 0, []), (71, .bipush 8, 73, 0, 0, 0, []), (73, .invokestatic 75, 76, 0, 5, 6, []), (76, .aload_n 0, 77, 0, 0, 0, []), (77, .dup, 78, 0, 0, 0, []), (78, .getfield 45, 81, 5, 10, 0, []), (81, .iconst 1, 82, 0, 0, 0, []), (82, .iadd, 83, 0, 0, 0, []), (83, .putfield 45, 86, 5, 10, 0, []), (86, .return_, 87, 0, 0, 0, [])]
def ai_c78 : List (Nat × ai_I) := ai_c78_0
-- PenPage$Story.solve()V
def ai_c79_0 : List (Nat × ai_I) := [(0, .aload_n 0, 1, 0, 0, 0, []), (1, .getfield 51, 4, 5, 12, 1, []), (4, .ifCond .ne 30, 7, 34, 0, 0, []), (7, .aload_n 0, 8, 0, 0, 0, []), (8, .iconst 0, 9, 0, 0, 0, []), (9, .putfield 45, 12, 5, 10, 0, []), (12, .aload_n 0, 13, 0, 0, 0, []), (13, .iconst 0, 14, 0, 0, 0, []), (14, .putfield 48, 17, 5, 11, 0, []), (17, .aload_n 0, 18, 0, 0, 0, []), (18, .getfield 35, 21, 5, 7, 2, []), (21, .iconst 0, 22, 0, 0, 0, []), (22, .iconst 0, 23, 0, 0, 0, []), (23, .iastore, 24, 0, 0, 0, []), (24, .aload_n 0, 25, 0, 0, 0, []), (25, .iconst 0, 26, 0, 0, 0, []), (26, .invokevirtual 55, 29, 80, 2, 0, [5, 0, 0]), (29, .aload_n 0, 30, 0, 0, 0, []), (30, .iconst 1, 31, 0, 0, 0, []), (31, .putfield 51, 34, 5, 12, 1, []), (34, .return_, 35, 0, 0, 0, [])]
def ai_c79 : List (Nat × ai_I) := ai_c79_0
-- PenPage$Story.walk(I)V
def ai_c80_0 : List (Nat × ai_I) := [(0, .aload_n 0, 1, 0, 0, 0, []), (1, .aload_n 0, 2, 0, 0, 0, []), (2, .getfield 48, 5, 5, 11, 0, []), (5, .iload_n 1, 6, 1, 0, 0, []), (6, .invokestatic 59, 9, 0, 2, 8, []), (9, .putfield 48, 12, 5, 11, 0, []), (12, .iload_n 1, 13, 1, 0, 0, []), (13, .aload_n 0, 14, 0, 0, 0, []), (14, .getfield 42, 17, 5, 9, 0, []), (17, .if_icmp .ge 9, 20, 26, 0, 0, []), (26, .aload_n 0, 27, 0, 0, 0, []), (27, .iload_n 1, 28, 1, 0, 0, []), (28, .invokevirtual 65, 31, 78, 2, 0, [5, 0, 0]), (31, .return_, 32, 0, 0, 0, [])]
def ai_c80 : List (Nat × ai_I) := ai_c80_0
-- PenPage$View.<init>()V
def ai_c81_0 : List (Nat × ai_I) := [(0, .aload_n 0, 1, 0, 0, 0, []), (1, .invokespecial 3, 4, 0, 1, 5, []), (4, .aload_n 0, 5, 0, 0, 0, []), (5, .sipush 300, 8, 0, 0, 0, []), (8, .newarray .boolean, 10, 2, 0, 0, []), (10, .putfield 9, 13, 6, 0, 2, []), (13, .aload_n 0, 14, 0, 0, 0, []), (14, .sipush 300, 17, 0, 0, 0, []), (17, .newarray .boolean, 19, 2, 0, 0, []), (19, .putfield 15, 22, 6, 1, 2, []), (22, .aload_n 0, 23, 0, 0, 0, []), (23, .sipush 300, 26, 0, 0, 0, []), (26, .anewarray 18, 29, 5, 0, 0, []), (29, .putfield 20, 32, 6, 2, 2, []), (32, .aload_n 0, 33, 0, 0, 0, []), (33, .sipush 300, 36, 0, 0, 0, []), (36, .newarray .int, 38, 1, 0, 0, []), (38, .putfield 24, 41, 6, 3, 2, []), (41, .aload_n 0, 42, 0, 0, 0, []), (42, .sipush 300, 45, 0, 0, 0, []), (45, .newarray .int, 47, 1, 0, 0, []), (47, .putfield 28, 50, 6, 4, 2, []), (50, .aload_n 0, 51, 0, 0, 0, []), (51, .sipush 300, 54, 0, 0, 0, []), (54, .newarray .int, 56, 1, 0, 0, []), (56, .putfield 31, 59, 6, 5, 2, []), (59, .aload_n 0, 60, 0, 0, 0, []), (60, .iconst 5, 61, 0, 0, 0, []), (61, .newarray .int, 63, 1, 0, 0, []), (63, .putfield 34, 66, 6, 6, 2, []), (66, .aload_n 0, 67, 0, 0, 0, []), (67, .iconst 0, 68, 0, 0, 0, []), (68, .putfield 37, 71, 6, 7, 0, []), (71, .aload_n 0, 72, 0, 0, 0, []), (72, .iconst 0, 73, 0, 0, 0, []), (73, .putfield 41, 76, 6, 8, 0, []), (76, .return_, 77, 0, 0, 0, [])]
def ai_c81 : List (Nat × ai_I) := ai_c81_0
-- PenPage$View.applySteps(LPenPage$Page;)V
def ai_c82_0 : List (Nat × ai_I) := [(0, .iconst 0, 1, 0, 0, 0, []), (1, .istore_n 2, 2, 2, 0, 0, []), (2, .iload_n 2, 3, 2, 0, 0, []), (3, .sipush 300, 6, 0, 0, 0, []), (6, .if_icmp .ge 79, 9, 85, 0, 0, []), (9, .aload_n 1, 10, 1, 0, 0, []), (10, .getfield 44, 13, 3, 1, 2, []), (13, .iload_n 2, 14, 2, 0, 0, []), (14, .aaload, 15, 0, 0, 0, []), (15, .astore_n 3, 16, 3, 0, 0, []), (16, .aload_n 3, 17, 3, 0, 0, []), (17, .ifnull 28, 20, 45, 0, 0, []), (45, .aload_n 3, 46, 3, 0, 0, []), (46, .ifnull 33, 49, 79, 0, 0, []), (79, .iinc 2 1, 82, 2, 0, 0, []), (82, .goto (-80), 85, 2, 0, 0, []), (85, .return_, 86, 0, 0, 0, [])]
def ai_c82 : List (Nat × ai_I) := ai_c82_0
-- PenPage$View.countGone(LPenPage$Page;I)I
def ai_c83_0 : List (Nat × ai_I) := [(0, .iconst 0, 1, 0, 0, 0, []), (1, .istore_n 3, 2, 3, 0, 0, []), (2, .iconst 0, 3, 0, 0, 0, []), (3, .istore 4, 5, 4, 0, 0, []), (5, .iload 4, 7, 4, 0, 0, []), (7, .aload_n 0, 8, 0, 0, 0, []), (8, .getfield 37, 11, 6, 7, 0, []), (11, .if_icmp .ge 28, 14, 39, 0, 0, []), (39, .iload_n 3, 40, 3, 0, 0, []), (40, .ireturn, 41, 0, 0, 0, [])]
def ai_c83 : List (Nat × ai_I) := ai_c83_0
-- PenPage$View.countOf(I)I
def ai_c84_0 : List (Nat × ai_I) := [(0, .iconst 0, 1, 0, 0, 0, []), (1, .istore_n 2, 2, 2, 0, 0, []), (2, .iconst 0, 3, 0, 0, 0, []), (3, .istore_n 3, 4, 3, 0, 0, []), (4, .iload_n 3, 5, 3, 0, 0, []), (5, .aload_n 0, 6, 0, 0, 0, []), (6, .getfield 41, 9, 6, 8, 0, []), (9, .if_icmp .ge 24, 12, 33, 0, 0, []), (33, .iload_n 2, 34, 2, 0, 0, []), (34, .ireturn, 35, 0, 0, 0, [])]
def ai_c84 : List (Nat × ai_I) := ai_c84_0
-- PenPage$View.look(LPenPage$Page;)V
def ai_c85_0 : List (Nat × ai_I) := [(0, .iconst 0, 1, 0, 0, 0, []), (1, .istore_n 2, 2, 2, 0, 0, []), (2, .iload_n 2, 3, 2, 0, 0, []), (3, .sipush 300, 6, 0, 0, 0, []), (6, .if_icmp .ge 68, 9, 74, 0, 0, []), (9, .aload_n 1, 10, 1, 0, 0, []), (10, .getfield 44, 13, 3, 1, 2, []), (13, .iload_n 2, 14, 2, 0, 0, []), (14, .aaload, 15, 0, 0, 0, []), (15, .astore_n 3, 16, 3, 0, 0, []), (16, .aload_n 0, 17, 0, 0, 0, []), (17, .getfield 9, 20, 6, 0, 2, []), (20, .iload_n 2, 21, 2, 0, 0, []), (21, .aload_n 3, 22, 3, 0, 0, []), (22, .ifnull 7, 25, 29, 0, 0, []), (29, .iconst 0, 30, 0, 0, 0, []), (30, .bastore, 31, 0, 0, 0, []), (31, .aload_n 0, 32, 0, 0, 0, []), (32, .getfield 15, 35, 6, 1, 2, []), (35, .iload_n 2, 36, 2, 0, 0, []), (36, .iconst 0, 37, 0, 0, 0, []), (37, .bastore, 38, 0, 0, 0, []), (38, .aload_n 0, 39, 0, 0, 0, []), (39, .getfield 20, 42, 6, 2, 2, []), (42, .iload_n 2, 43, 2, 0, 0, []), (43, .aload_n 3, 44, 3, 0, 0, []), (44, .ifnull 14, 47, 58, 0, 0, []), (58, .aconst_null, 59, 0, 0, 0, []), (59, .aastore, 60, 5, 2, 0, []), (60, .aload_n 0, 61, 0, 0, 0, []), (61, .getfield 24, 64, 6, 3, 2, []), (64, .iload_n 2, 65, 2, 0, 0, []), (65, .bipush 11, 67, 0, 0, 0, []), (67, .iastore, 68, 0, 0, 0, []), (68, .iinc 2 1, 71, 2, 0, 0, []), (71, .goto (-69), 74, 2, 0, 0, []), (74, .aload_n 0, 75, 0, 0, 0, []), (75, .aload_n 1, 76, 1, 0, 0, []), (76, .invokevirtual 53, 79, 89, 2, 0, [6, 0, 0]), (79, .aload_n 0, 80, 0, 0, 0, [])]
def ai_c85_1 : List (Nat × ai_I) := [(80, .aload_n 1, 81, 1, 0, 0, []), (81, .invokevirtual 57, 84, 82, 2, 0, [6, 0, 0]), (84, .aload_n 0, 85, 0, 0, 0, []), (85, .invokevirtual 60, 88, 86, 1, 0, [6, 0, 0]), (88, .aload_n 0, 89, 0, 0, 0, []), (89, .invokevirtual 63, 92, 87, 1, 0, [6, 0, 0]), (92, .return_, 93, 0, 0, 0, [])]
def ai_c85 : List (Nat × ai_I) := ai_c85_0 ++ ai_c85_1
-- PenPage$View.makeRow()V
def ai_c86_0 : List (Nat × ai_I) := [(0, .aload_n 0, 1, 0, 0, 0, []), (1, .iconst 0, 2, 0, 0, 0, []), (2, .putfield 37, 5, 6, 7, 0, []), (5, .iconst 0, 6, 0, 0, 0, []), (6, .istore_n 1, 7, 1, 0, 0, []), (7, .iload_n 1, 8, 1, 0, 0, []), (8, .sipush 300, 11, 0, 0, 0, []), (11, .if_icmp .ge 23, 14, 34, 0, 0, []), (14, .aload_n 0, 15, 0, 0, 0, []), (15, .getfield 20, 18, 6, 2, 2, []), (18, .iload_n 1, 19, 1, 0, 0, []), (19, .aaload, 20, 0, 0, 0, []), (20, .ifnull 8, 23, 28, 0, 0, []), (28, .iinc 1 1, 31, 1, 0, 0, []), (31, .goto (-24), 34, 7, 0, 0, []), (34, .return_, 35, 0, 0, 0, [])]
def ai_c86 : List (Nat × ai_I) := ai_c86_0
-- PenPage$View.makeText()V
def ai_c87_0 : List (Nat × ai_I) := [(0, .aload_n 0, 1, 0, 0, 0, []), (1, .iconst 0, 2, 0, 0, 0, []), (2, .putfield 41, 5, 6, 8, 0, []), (5, .iconst 0, 6, 0, 0, 0, []), (6, .istore_n 1, 7, 1, 0, 0, []), (7, .iload_n 1, 8, 1, 0, 0, []), (8, .aload_n 0, 9, 0, 0, 0, []), (9, .getfield 37, 12, 6, 7, 0, []), (12, .if_icmp .ge 57, 15, 69, 0, 0, []), (69, .return_, 70, 0, 0, 0, [])]
def ai_c87 : List (Nat × ai_I) := ai_c87_0
-- PenPage$View.slotAt(I)I
def ai_c88_0 : List (Nat × ai_I) := [(0, .iload_n 1, 1, 1, 0, 0, []), (1, .ifCond .lt 25, 4, 26, 0, 0, []), (4, .iload_n 1, 5, 1, 0, 0, []), (5, .aload_n 0, 6, 0, 0, 0, []), (6, .getfield 41, 9, 6, 8, 0, []), (9, .if_icmp .ge 17, 12, 26, 0, 0, []), (26, .iconst (-1), 27, 0, 0, 0, []), (27, .ireturn, 28, 0, 0, 0, [])]
def ai_c88 : List (Nat × ai_I) := ai_c88_0
-- PenPage$View.undoSteps(LPenPage$Page;)V
def ai_c89_0 : List (Nat × ai_I) := [(0, .iconst 0, 1, 0, 0, 0, []), (1, .istore_n 2, 2, 2, 0, 0, []), (2, .iload_n 2, 3, 2, 0, 0, []), (3, .iconst 5, 4, 0, 0, 0, []), (4, .if_icmp .ge 72, 7, 76, 0, 0, []), (7, .aload_n 1, 8, 1, 0, 0, []), (8, .iload_n 2, 9, 2, 0, 0, []), (9, .invokevirtual 93, 12, 67, 2, 0, [3, 0, 0]), (12, .istore_n 3, 13, 3, 0, 0, []), (13, .iload_n 3, 14, 3, 0, 0, []), (14, .iconst 1, 15, 0, 0, 0, []), (15, .if_icmp .lt 55, 18, 70, 0, 0, []), (70, .iinc 2 1, 73, 2, 0, 0, []), (73, .goto (-71), 76, 2, 0, 0, []), (76, .return_, 77, 0, 0, 0, [])]
def ai_c89 : List (Nat × ai_I) := ai_c89_0
-- PenPageLaw.alike(LPenPage;II[J)I
def ai_c90_0 : List (Nat × ai_I) := [(0, .aload_n 3, 1, 3, 0, 0, []), (1, .iconst 0, 2, 0, 0, 0, []), (2, .aload_n 0, 3, 0, 0, 0, []), (3, .iload_n 1, 4, 1, 0, 0, []), (4, .iload_n 2, 5, 2, 0, 0, []), (5, .invokevirtual 60, 8, 3, 3, 0, [7, 20, 65535]), (8, .ifCond .eq 7, 11, 15, 0, 0, []), (11, .lconst 1, 12, 1, 0, 0, []), (12, .goto 4, 15, 16, 0, 0, []), (16, .lastore, 17, 0, 0, 0, []), (17, .goto 7, 20, 24, 0, 0, []), (20, .astore 4, 22, 4, 0, 0, []), (22, .iconst 1, 23, 0, 0, 0, []), (23, .ireturn, 24, 0, 0, 0, []), (24, .iconst 0, 25, 0, 0, 0, []), (25, .ireturn, 26, 0, 0, 0, [])]
def ai_c90 : List (Nat × ai_I) := ai_c90_0
-- PenPageLaw.count(LPenPage;I[J)I
def ai_c91_0 : List (Nat × ai_I) := [(0, .aload_n 2, 1, 2, 0, 0, []), (1, .iconst 0, 2, 0, 0, 0, []), (2, .aload_n 0, 3, 0, 0, 0, []), (3, .iload_n 1, 4, 1, 0, 0, []), (4, .invokevirtual 15, 7, 6, 2, 0, [7, 12, 65535]), (7, .i2l, 8, 0, 0, 0, []), (8, .lastore, 9, 0, 0, 0, []), (9, .goto 6, 12, 15, 0, 0, []), (12, .astore_n 3, 13, 3, 0, 0, []), (13, .iconst 1, 14, 0, 0, 0, []), (14, .ireturn, 15, 0, 0, 0, []), (15, .iconst 0, 16, 0, 0, 0, []), (16, .ireturn, 17, 0, 0, 0, [])]
def ai_c91 : List (Nat × ai_I) := ai_c91_0
-- PenPageLaw.fewest(LPenPage;II[J)I
def ai_c92_0 : List (Nat × ai_I) := [(0, .aload_n 3, 1, 3, 0, 0, []), (1, .iconst 0, 2, 0, 0, 0, []), (2, .aload_n 0, 3, 0, 0, 0, []), (3, .iload_n 1, 4, 1, 0, 0, []), (4, .iload_n 2, 5, 2, 0, 0, []), (5, .invokevirtual 57, 8, 11, 3, 0, [7, 13, 65535]), (8, .i2l, 9, 0, 0, 0, []), (9, .lastore, 10, 0, 0, 0, []), (10, .goto 7, 13, 17, 0, 0, []), (13, .astore 4, 15, 4, 0, 0, []), (15, .iconst 1, 16, 0, 0, 0, []), (16, .ireturn, 17, 0, 0, 0, []), (17, .iconst 0, 18, 0, 0, 0, []), (18, .ireturn, 19, 0, 0, 0, [])]
def ai_c92 : List (Nat × ai_I) := ai_c92_0
-- PenPageLaw.gone(LPenPage;II[J)I
def ai_c93_0 : List (Nat × ai_I) := [(0, .aload_n 3, 1, 3, 0, 0, []), (1, .iconst 0, 2, 0, 0, 0, []), (2, .aload_n 0, 3, 0, 0, 0, []), (3, .iload_n 1, 4, 1, 0, 0, []), (4, .iload_n 2, 5, 2, 0, 0, []), (5, .invokevirtual 67, 8, 13, 3, 0, [7, 20, 65535]), (20, .astore 4, 22, 4, 0, 0, []), (22, .iconst 1, 23, 0, 0, 0, []), (23, .ireturn, 24, 0, 0, 0, [])]
def ai_c93 : List (Nat × ai_I) := ai_c93_0
-- PenPageLaw.hear(LPenPage;II[J)I
def ai_c94_0 : List (Nat × ai_I) := [(0, .aload_n 3, 1, 3, 0, 0, []), (1, .iconst 0, 2, 0, 0, 0, []), (2, .aload_n 0, 3, 0, 0, 0, []), (3, .iload_n 1, 4, 1, 0, 0, []), (4, .iload_n 2, 5, 2, 0, 0, []), (5, .invokevirtual 48, 8, 14, 3, 0, [7, 13, 17]), (8, .i2l, 9, 0, 0, 0, []), (9, .lastore, 10, 0, 0, 0, []), (10, .goto 11, 13, 21, 0, 0, []), (13, .astore 4, 15, 4, 0, 0, []), (15, .iconst 1, 16, 0, 0, 0, []), (16, .ireturn, 17, 0, 0, 0, []), (17, .astore 4, 19, 4, 0, 0, []), (19, .iconst 2, 20, 0, 0, 0, []), (20, .ireturn, 21, 0, 0, 0, []), (21, .iconst 0, 22, 0, 0, 0, []), (22, .ireturn, 23, 0, 0, 0, [])]
def ai_c94 : List (Nat × ai_I) := ai_c94_0
-- PenPageLaw.lacks(LPenPage;III[J)I
def ai_c95_0 : List (Nat × ai_I) := [(0, .aload 4, 2, 4, 0, 0, []), (2, .iconst 0, 3, 0, 0, 0, []), (3, .aload_n 0, 4, 0, 0, 0, []), (4, .iload_n 1, 5, 1, 0, 0, []), (5, .iload_n 2, 6, 2, 0, 0, []), (6, .iload_n 3, 7, 3, 0, 0, []), (7, .invokevirtual 54, 10, 18, 4, 0, [7, 15, 65535]), (10, .i2l, 11, 0, 0, 0, []), (11, .lastore, 12, 0, 0, 0, []), (12, .goto 7, 15, 19, 0, 0, []), (15, .astore 5, 17, 5, 0, 0, []), (17, .iconst 1, 18, 0, 0, 0, []), (18, .ireturn, 19, 0, 0, 0, []), (19, .iconst 0, 20, 0, 0, 0, []), (20, .ireturn, 21, 0, 0, 0, [])]
def ai_c95 : List (Nat × ai_I) := ai_c95_0
-- PenPageLaw.move(LPenPage;IIII[J)I
def ai_c96_0 : List (Nat × ai_I) := [(0, .aload 5, 2, 5, 0, 0, []), (2, .iconst 0, 3, 0, 0, 0, []), (3, .aload_n 0, 4, 0, 0, 0, []), (4, .iload_n 1, 5, 1, 0, 0, []), (5, .iload_n 2, 6, 2, 0, 0, []), (6, .iload_n 3, 7, 3, 0, 0, []), (7, .iload 4, 9, 4, 0, 0, []), (9, .invokevirtual 42, 12, 19, 5, 0, [7, 17, 65535]), (12, .i2l, 13, 0, 0, 0, []), (13, .lastore, 14, 0, 0, 0, []), (14, .goto 7, 17, 21, 0, 0, []), (17, .astore 6, 19, 6, 0, 0, []), (19, .iconst 1, 20, 0, 0, 0, []), (20, .ireturn, 21, 0, 0, 0, []), (21, .iconst 0, 22, 0, 0, 0, []), (22, .ireturn, 23, 0, 0, 0, [])]
def ai_c96 : List (Nat × ai_I) := ai_c96_0
-- PenPageLaw.packet(LPenPage;IIII[J)I
def ai_c97_0 : List (Nat × ai_I) := [(0, .aload 5, 2, 5, 0, 0, []), (2, .iconst 0, 3, 0, 0, 0, []), (3, .aload_n 0, 4, 0, 0, 0, []), (4, .iload_n 1, 5, 1, 0, 0, []), (5, .iload_n 2, 6, 2, 0, 0, []), (6, .iload_n 3, 7, 3, 0, 0, []), (7, .iload 4, 9, 4, 0, 0, []), (9, .invokevirtual 45, 12, 20, 5, 0, [7, 17, 65535]), (17, .astore 6, 19, 6, 0, 0, []), (19, .iconst 1, 20, 0, 0, 0, []), (20, .ireturn, 21, 0, 0, 0, [])]
def ai_c97 : List (Nat × ai_I) := ai_c97_0
-- PenPageLaw.page(LPenPage;II[J)I
def ai_c98_0 : List (Nat × ai_I) := [(0, .aload_n 3, 1, 3, 0, 0, []), (1, .iconst 0, 2, 0, 0, 0, []), (2, .aload_n 0, 3, 0, 0, 0, []), (3, .iload_n 1, 4, 1, 0, 0, []), (4, .iload_n 2, 5, 2, 0, 0, []), (5, .invokevirtual 21, 8, 21, 3, 0, [7, 13, 65535]), (8, .i2l, 9, 0, 0, 0, []), (9, .lastore, 10, 0, 0, 0, []), (10, .goto 7, 13, 17, 0, 0, []), (13, .astore 4, 15, 4, 0, 0, []), (15, .iconst 1, 16, 0, 0, 0, []), (16, .ireturn, 17, 0, 0, 0, []), (17, .iconst 0, 18, 0, 0, 0, []), (18, .ireturn, 19, 0, 0, 0, [])]
def ai_c98 : List (Nat × ai_I) := ai_c98_0
-- PenPageLaw.send(LPenPage;IIII[J)I
def ai_c99_0 : List (Nat × ai_I) := [(0, .aload 5, 2, 5, 0, 0, []), (2, .iconst 0, 3, 0, 0, 0, []), (3, .aload_n 0, 4, 0, 0, 0, []), (4, .iload_n 1, 5, 1, 0, 0, []), (5, .iload_n 2, 6, 2, 0, 0, []), (6, .iload_n 3, 7, 3, 0, 0, []), (7, .iload 4, 9, 4, 0, 0, []), (9, .invokevirtual 51, 12, 28, 5, 0, [7, 17, 65535]), (17, .astore 6, 19, 6, 0, 0, []), (19, .iconst 1, 20, 0, 0, 0, []), (20, .ireturn, 21, 0, 0, 0, [])]
def ai_c99 : List (Nat × ai_I) := ai_c99_0
-- PenPageLaw.set(LPenPage;III[J)I
def ai_c100_0 : List (Nat × ai_I) := [(0, .aload 4, 2, 4, 0, 0, []), (2, .iconst 0, 3, 0, 0, 0, []), (3, .aload_n 0, 4, 0, 0, 0, []), (4, .iload_n 1, 5, 1, 0, 0, []), (5, .iload_n 2, 6, 2, 0, 0, []), (6, .iload_n 3, 7, 3, 0, 0, []), (7, .invokevirtual 33, 10, 29, 4, 0, [7, 15, 65535]), (10, .i2l, 11, 0, 0, 0, []), (11, .lastore, 12, 0, 0, 0, []), (12, .goto 7, 15, 19, 0, 0, []), (15, .astore 5, 17, 5, 0, 0, []), (17, .iconst 1, 18, 0, 0, 0, []), (18, .ireturn, 19, 0, 0, 0, []), (19, .iconst 0, 20, 0, 0, 0, []), (20, .ireturn, 21, 0, 0, 0, [])]
def ai_c100 : List (Nat × ai_I) := ai_c100_0
-- PenPageLaw.step(LPenPage;IIII[J)I
def ai_c101_0 : List (Nat × ai_I) := [(0, .aload 5, 2, 5, 0, 0, []), (2, .iconst 0, 3, 0, 0, 0, []), (3, .aload_n 0, 4, 0, 0, 0, []), (4, .iload_n 1, 5, 1, 0, 0, []), (5, .iload_n 2, 6, 2, 0, 0, []), (6, .iload_n 3, 7, 3, 0, 0, []), (7, .iload 4, 9, 4, 0, 0, []), (9, .invokevirtual 29, 12, 31, 5, 0, [7, 17, 65535]), (17, .astore 6, 19, 6, 0, 0, []), (19, .iconst 1, 20, 0, 0, 0, []), (20, .ireturn, 21, 0, 0, 0, [])]
def ai_c101 : List (Nat × ai_I) := ai_c101_0
-- PenPageLaw.story(LPenPage;I[J)I
def ai_c102_0 : List (Nat × ai_I) := [(0, .aload_n 2, 1, 2, 0, 0, []), (1, .iconst 0, 2, 0, 0, 0, []), (2, .aload_n 0, 3, 0, 0, 0, []), (3, .iload_n 1, 4, 1, 0, 0, []), (4, .invokevirtual 70, 7, 33, 2, 0, [7, 12, 65535]), (7, .i2l, 8, 0, 0, 0, []), (8, .lastore, 9, 0, 0, 0, []), (9, .goto 6, 12, 15, 0, 0, []), (12, .astore_n 3, 13, 3, 0, 0, []), (13, .iconst 1, 14, 0, 0, 0, []), (14, .ireturn, 15, 0, 0, 0, []), (15, .iconst 0, 16, 0, 0, 0, []), (16, .ireturn, 17, 0, 0, 0, [])]
def ai_c102 : List (Nat × ai_I) := ai_c102_0
-- PenPageLaw.strike(LPenPage;II[J)I
def ai_c103_0 : List (Nat × ai_I) := [(0, .aload_n 3, 1, 3, 0, 0, []), (1, .iconst 0, 2, 0, 0, 0, []), (2, .aload_n 0, 3, 0, 0, 0, []), (3, .iload_n 1, 4, 1, 0, 0, []), (4, .iload_n 2, 5, 2, 0, 0, []), (5, .invokevirtual 36, 8, 34, 3, 0, [7, 13, 65535]), (8, .i2l, 9, 0, 0, 0, []), (9, .lastore, 10, 0, 0, 0, []), (10, .goto 7, 13, 17, 0, 0, []), (13, .astore 4, 15, 4, 0, 0, []), (15, .iconst 1, 16, 0, 0, 0, []), (16, .ireturn, 17, 0, 0, 0, []), (17, .iconst 0, 18, 0, 0, 0, []), (18, .ireturn, 19, 0, 0, 0, [])]
def ai_c103 : List (Nat × ai_I) := ai_c103_0
-- PenPageLaw.text(LPenPage;III[J)I
def ai_c104_0 : List (Nat × ai_I) := [(0, .aload 4, 2, 4, 0, 0, []), (2, .iconst 0, 3, 0, 0, 0, []), (3, .aload_n 0, 4, 0, 0, 0, []), (4, .iload_n 1, 5, 1, 0, 0, []), (5, .iload_n 2, 6, 2, 0, 0, []), (6, .iload_n 3, 7, 3, 0, 0, []), (7, .invokevirtual 25, 10, 35, 4, 0, [7, 15, 65535]), (15, .astore 5, 17, 5, 0, 0, []), (17, .iconst 1, 18, 0, 0, 0, []), (18, .ireturn, 19, 0, 0, 0, [])]
def ai_c104 : List (Nat × ai_I) := ai_c104_0
-- PenPageLaw.undo(LPenPage;II[J)I
def ai_c105_0 : List (Nat × ai_I) := [(0, .aload_n 3, 1, 3, 0, 0, []), (1, .iconst 0, 2, 0, 0, 0, []), (2, .aload_n 0, 3, 0, 0, 0, []), (3, .iload_n 1, 4, 1, 0, 0, []), (4, .iload_n 2, 5, 2, 0, 0, []), (5, .invokevirtual 39, 8, 36, 3, 0, [7, 13, 65535]), (8, .i2l, 9, 0, 0, 0, []), (9, .lastore, 10, 0, 0, 0, []), (10, .goto 7, 13, 17, 0, 0, []), (13, .astore 4, 15, 4, 0, 0, []), (15, .iconst 1, 16, 0, 0, 0, []), (16, .ireturn, 17, 0, 0, 0, []), (17, .iconst 0, 18, 0, 0, 0, []), (18, .ireturn, 19, 0, 0, 0, [])]
def ai_c105 : List (Nat × ai_I) := ai_c105_0
-- PenPageLaw.whose(LPenPage;II[J)I
def ai_c106_0 : List (Nat × ai_I) := [(0, .aload_n 3, 1, 3, 0, 0, []), (1, .iconst 0, 2, 0, 0, 0, []), (2, .aload_n 0, 3, 0, 0, 0, []), (3, .iload_n 1, 4, 1, 0, 0, []), (4, .iload_n 2, 5, 2, 0, 0, []), (5, .invokevirtual 64, 8, 38, 3, 0, [7, 13, 65535]), (8, .i2l, 9, 0, 0, 0, []), (9, .lastore, 10, 0, 0, 0, []), (10, .goto 7, 13, 17, 0, 0, []), (13, .astore 4, 15, 4, 0, 0, []), (15, .iconst 1, 16, 0, 0, 0, []), (16, .ireturn, 17, 0, 0, 0, []), (17, .iconst 0, 18, 0, 0, 0, []), (18, .ireturn, 19, 0, 0, 0, [])]
def ai_c106 : List (Nat × ai_I) := ai_c106_0
-- PenPageLaw.writers(LPenPage;I)I
def ai_c107_0 : List (Nat × ai_I) := [(0, .aload_n 0, 1, 0, 0, 0, []), (1, .iload_n 1, 2, 1, 0, 0, []), (2, .invokevirtual 7, 5, 39, 2, 0, [7, 65535, 8]), (5, .goto 6, 8, 11, 0, 0, []), (8, .astore_n 2, 9, 2, 0, 0, []), (9, .iconst 1, 10, 0, 0, 0, []), (10, .ireturn, 11, 0, 0, 0, []), (11, .iconst 0, 12, 0, 0, 0, []), (12, .ireturn, 13, 0, 0, 0, [])]
def ai_c107 : List (Nat × ai_I) := ai_c107_0
-- PenPageModel.<init>()V
def ai_c108_0 : List (Nat × ai_I) := [(0, .aload_n 0, 1, 0, 0, 0, []), (1, .invokespecial 1, 4, 0, 1, 5, []), (4, .aload_n 0, 5, 0, 0, 0, []), (5, .iconst 2, 6, 0, 0, 0, []), (6, .putfield 7, 9, 8, 1, 0, []), (9, .aload_n 0, 10, 0, 0, 0, []), (10, .ldc 13, 12, 531366, 0, 0, []), (12, .newarray .int, 14, 1, 0, 0, []), (14, .putfield 14, 17, 8, 2, 2, []), (17, .aload_n 0, 18, 0, 0, 0, []), (18, .bipush 25, 20, 0, 0, 0, []), (20, .newarray .int, 22, 1, 0, 0, []), (22, .putfield 18, 25, 8, 3, 2, []), (25, .aload_n 0, 26, 0, 0, 0, []), (26, .iconst 5, 27, 0, 0, 0, []), (27, .newarray .int, 29, 1, 0, 0, []), (29, .putfield 21, 32, 8, 4, 2, []), (32, .aload_n 0, 33, 0, 0, 0, []), (33, .iconst 3, 34, 0, 0, 0, []), (34, .newarray .int, 36, 1, 0, 0, []), (36, .putfield 24, 39, 8, 5, 2, []), (39, .aload_n 0, 40, 0, 0, 0, []), (40, .sipush 300, 43, 0, 0, 0, []), (43, .newarray .boolean, 45, 2, 0, 0, []), (45, .putfield 27, 48, 8, 6, 2, []), (48, .aload_n 0, 49, 0, 0, 0, []), (49, .sipush 300, 52, 0, 0, 0, []), (52, .newarray .boolean, 54, 2, 0, 0, []), (54, .putfield 31, 57, 8, 7, 2, []), (57, .aload_n 0, 58, 0, 0, 0, []), (58, .sipush 300, 61, 0, 0, 0, []), (61, .newarray .int, 63, 1, 0, 0, []), (63, .putfield 34, 66, 8, 8, 2, []), (66, .aload_n 0, 67, 0, 0, 0, []), (67, .sipush 300, 70, 0, 0, 0, []), (70, .newarray .int, 72, 1, 0, 0, []), (72, .putfield 37, 75, 8, 9, 2, []), (75, .aload_n 0, 76, 0, 0, 0, []), (76, .sipush 300, 79, 0, 0, 0, []), (79, .newarray .int, 81, 1, 0, 0, [])]
def ai_c108_1 : List (Nat × ai_I) := [(81, .putfield 40, 84, 8, 10, 2, []), (84, .aload_n 0, 85, 0, 0, 0, []), (85, .sipush 300, 88, 0, 0, 0, []), (88, .newarray .int, 90, 1, 0, 0, []), (90, .putfield 43, 93, 8, 11, 2, []), (93, .aload_n 0, 94, 0, 0, 0, []), (94, .sipush 400, 97, 0, 0, 0, []), (97, .newarray .int, 99, 1, 0, 0, []), (99, .putfield 46, 102, 8, 14, 2, []), (102, .aload_n 0, 103, 0, 0, 0, []), (103, .sipush 400, 106, 0, 0, 0, []), (106, .newarray .int, 108, 1, 0, 0, []), (108, .putfield 49, 111, 8, 15, 2, []), (111, .aload_n 0, 112, 0, 0, 0, []), (112, .iconst (-1), 113, 0, 0, 0, []), (113, .putfield 52, 116, 8, 18, 0, []), (116, .aload_n 0, 117, 0, 0, 0, []), (117, .bipush 12, 119, 0, 0, 0, []), (119, .newarray .int, 121, 1, 0, 0, []), (121, .putfield 55, 124, 8, 25, 2, []), (124, .aload_n 0, 125, 0, 0, 0, []), (125, .bipush 8, 127, 0, 0, 0, []), (127, .newarray .int, 129, 1, 0, 0, []), (129, .putfield 58, 132, 8, 26, 2, []), (132, .aload_n 0, 133, 0, 0, 0, []), (133, .bipush 8, 135, 0, 0, 0, []), (135, .newarray .int, 137, 1, 0, 0, []), (137, .putfield 61, 140, 8, 27, 2, []), (140, .aload_n 0, 141, 0, 0, 0, []), (141, .bipush 8, 143, 0, 0, 0, []), (143, .newarray .int, 145, 1, 0, 0, []), (145, .putfield 64, 148, 8, 28, 2, []), (148, .aload_n 0, 149, 0, 0, 0, []), (149, .bipush 8, 151, 0, 0, 0, []), (151, .newarray .int, 153, 1, 0, 0, []), (153, .putfield 67, 156, 8, 29, 2, []), (156, .aload_n 0, 157, 0, 0, 0, []), (157, .bipush 8, 159, 0, 0, 0, []), (159, .newarray .int, 161, 1, 0, 0, []), (161, .putfield 70, 164, 8, 30, 2, [])]
def ai_c108_2 : List (Nat × ai_I) := [(164, .aload_n 0, 165, 0, 0, 0, []), (165, .bipush 8, 167, 0, 0, 0, []), (167, .newarray .int, 169, 1, 0, 0, []), (169, .putfield 73, 172, 8, 31, 2, []), (172, .aload_n 0, 173, 0, 0, 0, []), (173, .bipush 25, 175, 0, 0, 0, []), (175, .newarray .int, 177, 1, 0, 0, []), (177, .putfield 76, 180, 8, 35, 2, []), (180, .aload_n 0, 181, 0, 0, 0, []), (181, .iconst 5, 182, 0, 0, 0, []), (182, .newarray .int, 184, 1, 0, 0, []), (184, .putfield 79, 187, 8, 36, 2, []), (187, .aload_n 0, 188, 0, 0, 0, []), (188, .iconst 3, 189, 0, 0, 0, []), (189, .newarray .int, 191, 1, 0, 0, []), (191, .putfield 82, 194, 8, 37, 2, []), (194, .return_, 195, 0, 0, 0, [])]
def ai_c108 : List (Nat × ai_I) := ai_c108_0 ++ ai_c108_1 ++ ai_c108_2
-- PenPageModel.act(III)I
def ai_c109_0 : List (Nat × ai_I) := [(0, .aload_n 0, 1, 0, 0, 0, []), (1, .iconst 0, 2, 0, 0, 0, []), (2, .putfield 85, 5, 8, 0, 0, []), (5, .iload_n 1, 6, 1, 0, 0, []), (6, .iconst 0, 7, 0, 0, 0, []), (7, .iconst 2, 8, 0, 0, 0, []), (8, .invokestatic 88, 11, 127, 3, 0, []), (11, .ifCond .eq 33, 14, 44, 0, 0, []), (14, .iload_n 2, 15, 2, 0, 0, []), (15, .iconst 0, 16, 0, 0, 0, []), (16, .bipush 7, 18, 0, 0, 0, []), (18, .invokestatic 88, 21, 127, 3, 0, []), (21, .ifCond .eq 23, 24, 44, 0, 0, []), (24, .iload_n 3, 25, 3, 0, 0, []), (25, .iconst (-1), 26, 0, 0, 0, []), (26, .if_icmp .eq 14, 29, 40, 0, 0, []), (29, .iload_n 3, 30, 3, 0, 0, []), (30, .bipush 32, 32, 0, 0, 0, []), (32, .bipush 126, 34, 0, 0, 0, []), (34, .invokestatic 88, 37, 127, 3, 0, []), (37, .ifCond .eq 7, 40, 44, 0, 0, []), (40, .iconst 1, 41, 0, 0, 0, []), (41, .goto 4, 44, 45, 0, 0, []), (44, .iconst 0, 45, 0, 0, 0, []), (45, .istore 4, 47, 4, 0, 0, []), (47, .aload_n 0, 48, 0, 0, 0, []), (48, .getfield 103, 51, 8, 24, 0, []), (51, .bipush 8, 53, 0, 0, 0, []), (53, .if_icmp .eq 8, 56, 61, 0, 0, []), (56, .iload 4, 58, 4, 0, 0, []), (58, .ifCond .ne 15, 61, 73, 0, 0, []), (61, .aload_n 0, 62, 0, 0, 0, []), (62, .getfield 24, 65, 8, 5, 2, []), (65, .iconst 2, 66, 0, 0, 0, []), (66, .dup2, 67, 0, 0, 0, []), (67, .iaload, 68, 0, 0, 0, []), (68, .iconst 1, 69, 0, 0, 0, []), (69, .iadd, 70, 0, 0, 0, []), (70, .iastore, 71, 0, 0, 0, []), (71, .iconst (-1), 72, 0, 0, 0, [])]
def ai_c109_1 : List (Nat × ai_I) := [(72, .ireturn, 73, 0, 0, 0, []), (73, .aload_n 0, 74, 0, 0, 0, []), (74, .getfield 58, 77, 8, 26, 2, []), (77, .aload_n 0, 78, 0, 0, 0, []), (78, .getfield 103, 81, 8, 24, 0, []), (81, .iload_n 1, 82, 1, 0, 0, []), (82, .iastore, 83, 0, 0, 0, []), (83, .aload_n 0, 84, 0, 0, 0, []), (84, .getfield 61, 87, 8, 27, 2, []), (87, .aload_n 0, 88, 0, 0, 0, []), (88, .getfield 103, 91, 8, 24, 0, []), (91, .iload_n 2, 92, 2, 0, 0, []), (92, .iastore, 93, 0, 0, 0, []), (93, .aload_n 0, 94, 0, 0, 0, []), (94, .getfield 64, 97, 8, 28, 2, []), (97, .aload_n 0, 98, 0, 0, 0, []), (98, .getfield 103, 101, 8, 24, 0, []), (101, .iload_n 3, 102, 3, 0, 0, []), (102, .iastore, 103, 0, 0, 0, []), (103, .aload_n 0, 104, 0, 0, 0, []), (104, .dup, 105, 0, 0, 0, []), (105, .getfield 103, 108, 8, 24, 0, []), (108, .iconst 1, 109, 0, 0, 0, []), (109, .iadd, 110, 0, 0, 0, []), (110, .putfield 103, 113, 8, 24, 0, []), (113, .aload_n 0, 114, 0, 0, 0, []), (114, .getfield 103, 117, 8, 24, 0, []), (117, .ireturn, 118, 0, 0, 0, [])]
def ai_c109 : List (Nat × ai_I) := ai_c109_0 ++ ai_c109_1
-- PenPageModel.add(II)V
def ai_c110_0 : List (Nat × ai_I) := [(0, .aload_n 0, 1, 0, 0, 0, []), (1, .iload_n 2, 2, 2, 0, 0, []), (2, .iconst 1, 3, 0, 0, 0, []), (3, .invokevirtual 130, 6, 137, 3, 0, [8, 0, 0]), (6, .istore_n 3, 7, 3, 0, 0, []), (7, .aload_n 0, 8, 0, 0, 0, []), (8, .getfield 18, 11, 8, 3, 2, []), (11, .iconst 5, 12, 0, 0, 0, []), (12, .iload_n 1, 13, 1, 0, 0, []), (13, .imul, 14, 0, 0, 0, []), (14, .iload_n 3, 15, 3, 0, 0, []), (15, .iadd, 16, 0, 0, 0, []), (16, .dup2, 17, 0, 0, 0, []), (17, .iaload, 18, 0, 0, 0, []), (18, .iconst 1, 19, 0, 0, 0, []), (19, .iadd, 20, 0, 0, 0, []), (20, .iastore, 21, 0, 0, 0, []), (21, .aload_n 0, 22, 0, 0, 0, []), (22, .iload_n 2, 23, 2, 0, 0, []), (23, .iload_n 1, 24, 1, 0, 0, []), (24, .iload_n 3, 25, 3, 0, 0, []), (25, .aload_n 0, 26, 0, 0, 0, []), (26, .getfield 18, 29, 8, 3, 2, []), (29, .iconst 5, 30, 0, 0, 0, []), (30, .iload_n 1, 31, 1, 0, 0, []), (31, .imul, 32, 0, 0, 0, []), (32, .iload_n 3, 33, 3, 0, 0, []), (33, .iadd, 34, 0, 0, 0, []), (34, .iaload, 35, 0, 0, 0, []), (35, .invokestatic 120, 38, 148, 3, 0, []), (38, .invokevirtual 192, 41, 115, 3, 0, [8, 0, 0]), (41, .return_, 42, 0, 0, 0, [])]
def ai_c110 : List (Nat × ai_I) := ai_c110_0
-- PenPageModel.ageOf(I)I
def ai_c111_0 : List (Nat × ai_I) := [(0, .iconst 0, 1, 0, 0, 0, []), (1, .istore_n 2, 2, 2, 0, 0, []), (2, .iconst 0, 3, 0, 0, 0, []), (3, .istore_n 3, 4, 3, 0, 0, []), (4, .iload_n 3, 5, 3, 0, 0, []), (5, .aload_n 0, 6, 0, 0, 0, []), (6, .getfield 7, 9, 8, 1, 0, []), (9, .if_icmp .ge 51, 12, 60, 0, 0, []), (12, .iconst 1, 13, 0, 0, 0, []), (13, .istore 4, 15, 4, 0, 0, []), (15, .iload 4, 17, 4, 0, 0, []), (17, .aload_n 0, 18, 0, 0, 0, []), (18, .getfield 18, 21, 8, 3, 2, []), (21, .iconst 5, 22, 0, 0, 0, []), (22, .iload_n 1, 23, 1, 0, 0, []), (23, .imul, 24, 0, 0, 0, []), (24, .iload_n 3, 25, 3, 0, 0, []), (25, .iadd, 26, 0, 0, 0, []), (26, .iaload, 27, 0, 0, 0, []), (27, .if_icmp .gt 27, 30, 54, 0, 0, []), (54, .iinc 3 1, 57, 3, 0, 0, []), (57, .goto (-53), 60, 4, 0, 0, []), (60, .iload_n 2, 61, 2, 0, 0, []), (61, .ireturn, 62, 0, 0, 0, [])]
def ai_c111 : List (Nat × ai_I) := ai_c111_0
-- PenPageModel.alike(II)Z
def ai_c112_0 : List (Nat × ai_I) := [(0, .aload_n 0, 1, 0, 0, 0, []), (1, .iconst 0, 2, 0, 0, 0, []), (2, .putfield 85, 5, 8, 0, 0, []), (5, .aload_n 0, 6, 0, 0, 0, []), (6, .iload_n 1, 7, 1, 0, 0, []), (7, .invokevirtual 92, 10, 128, 2, 0, [8, 0, 0]), (10, .ifCond .eq 11, 13, 21, 0, 0, []), (13, .aload_n 0, 14, 0, 0, 0, []), (14, .iload_n 2, 15, 2, 0, 0, []), (15, .invokevirtual 92, 18, 128, 2, 0, [8, 0, 0]), (18, .ifCond .ne 10, 21, 28, 0, 0, []), (21, .aload_n 0, 22, 0, 0, 0, []), (22, .iconst 1, 23, 0, 0, 0, []), (23, .putfield 85, 26, 8, 0, 0, []), (26, .iconst 0, 27, 0, 0, 0, []), (27, .ireturn, 28, 1, 0, 0, []), (28, .aload_n 0, 29, 0, 0, 0, []), (29, .iload_n 1, 30, 1, 0, 0, []), (30, .iload_n 2, 31, 2, 0, 0, []), (31, .iconst (-1), 32, 0, 0, 0, []), (32, .invokevirtual 291, 35, 131, 4, 0, [8, 0, 0]), (35, .aload_n 0, 36, 0, 0, 0, []), (36, .iload_n 2, 37, 2, 0, 0, []), (37, .iload_n 1, 38, 1, 0, 0, []), (38, .iconst (-1), 39, 0, 0, 0, []), (39, .invokevirtual 291, 42, 131, 4, 0, [8, 0, 0]), (42, .iadd, 43, 0, 0, 0, []), (43, .ifCond .ne 7, 46, 50, 0, 0, []), (46, .iconst 1, 47, 0, 0, 0, []), (47, .goto 4, 50, 51, 0, 0, []), (51, .ireturn, 52, 1, 0, 0, [])]
def ai_c112 : List (Nat × ai_I) := ai_c112_0
-- PenPageModel.beginStep(II)Z
def ai_c113_0 : List (Nat × ai_I) := [(0, .iconst 0, 1, 0, 0, 0, []), (1, .istore_n 3, 2, 3, 0, 0, []), (2, .iload_n 3, 3, 3, 0, 0, []), (3, .sipush 166, 6, 0, 0, 0, []), (6, .if_icmp .ge 18, 9, 24, 0, 0, []), (9, .aload_n 0, 10, 0, 0, 0, []), (10, .sipush 3200, 13, 0, 0, 0, []), (13, .iload_n 3, 14, 3, 0, 0, []), (14, .iconst 0, 15, 0, 0, 0, []), (15, .invokevirtual 181, 18, 141, 4, 0, [8, 0, 0]), (18, .iinc 3 1, 21, 3, 0, 0, []), (21, .goto (-19), 24, 2, 0, 0, []), (24, .aload_n 0, 25, 0, 0, 0, []), (25, .sipush 3200, 28, 0, 0, 0, []), (28, .iconst 0, 29, 0, 0, 0, []), (29, .iload_n 2, 30, 2, 0, 0, []), (30, .invokevirtual 181, 33, 141, 4, 0, [8, 0, 0]), (33, .aload_n 0, 34, 0, 0, 0, []), (34, .sipush 3200, 37, 0, 0, 0, []), (37, .iconst 1, 38, 0, 0, 0, []), (38, .iload_n 1, 39, 1, 0, 0, []), (39, .invokevirtual 181, 42, 141, 4, 0, [8, 0, 0]), (42, .aload_n 0, 43, 0, 0, 0, []), (43, .sipush 3200, 46, 0, 0, 0, []), (46, .iconst 2, 47, 0, 0, 0, []), (47, .aload_n 0, 48, 0, 0, 0, []), (48, .getfield 18, 51, 8, 3, 2, []), (51, .iconst 5, 52, 0, 0, 0, []), (52, .iload_n 1, 53, 1, 0, 0, []), (53, .imul, 54, 0, 0, 0, []), (54, .iload_n 1, 55, 1, 0, 0, []), (55, .iadd, 56, 0, 0, 0, []), (56, .iaload, 57, 0, 0, 0, []), (57, .iconst 1, 58, 0, 0, 0, []), (58, .iadd, 59, 0, 0, 0, []), (59, .invokevirtual 181, 62, 141, 4, 0, [8, 0, 0]), (62, .iconst 0, 63, 0, 0, 0, []), (63, .istore_n 3, 64, 3, 0, 0, []), (64, .iload_n 3, 65, 3, 0, 0, []), (65, .aload_n 0, 66, 0, 0, 0, [])]
def ai_c113_1 : List (Nat × ai_I) := [(66, .getfield 7, 69, 8, 1, 0, []), (69, .if_icmp .ge 29, 72, 98, 0, 0, []), (72, .aload_n 0, 73, 0, 0, 0, []), (73, .sipush 3200, 76, 0, 0, 0, []), (76, .iconst 3, 77, 0, 0, 0, []), (77, .iload_n 3, 78, 3, 0, 0, []), (78, .iadd, 79, 0, 0, 0, []), (79, .aload_n 0, 80, 0, 0, 0, []), (80, .getfield 18, 83, 8, 3, 2, []), (83, .iconst 5, 84, 0, 0, 0, []), (84, .iload_n 1, 85, 1, 0, 0, []), (85, .imul, 86, 0, 0, 0, []), (86, .iload_n 3, 87, 3, 0, 0, []), (87, .iadd, 88, 0, 0, 0, []), (88, .iaload, 89, 0, 0, 0, []), (89, .invokevirtual 181, 92, 141, 4, 0, [8, 0, 0]), (92, .iinc 3 1, 95, 3, 0, 0, []), (95, .goto (-31), 98, 64, 0, 0, []), (98, .aload_n 0, 99, 0, 0, 0, []), (99, .sipush 3200, 102, 0, 0, 0, []), (102, .bipush 8, 104, 0, 0, 0, []), (104, .aload_n 0, 105, 0, 0, 0, []), (105, .iload_n 1, 106, 1, 0, 0, []), (106, .invokevirtual 178, 109, 111, 2, 0, [8, 0, 0]), (109, .iconst 1, 110, 0, 0, 0, []), (110, .iadd, 111, 0, 0, 0, []), (111, .invokevirtual 181, 114, 141, 4, 0, [8, 0, 0]), (114, .aload_n 0, 115, 0, 0, 0, []), (115, .getfield 18, 118, 8, 3, 2, []), (118, .iconst 5, 119, 0, 0, 0, []), (119, .iload_n 1, 120, 1, 0, 0, []), (120, .imul, 121, 0, 0, 0, []), (121, .iload_n 1, 122, 1, 0, 0, []), (122, .iadd, 123, 0, 0, 0, []), (123, .iaload, 124, 0, 0, 0, []), (124, .bipush 60, 126, 0, 0, 0, []), (126, .if_icmp .ge 17, 129, 143, 0, 0, []), (129, .aload_n 0, 130, 0, 0, 0, []), (130, .iload_n 1, 131, 1, 0, 0, []), (131, .invokevirtual 178, 134, 111, 2, 0, [8, 0, 0])]
def ai_c113_2 : List (Nat × ai_I) := [(134, .ldc 185, 136, 65535, 0, 0, []), (136, .if_icmp .ge 7, 139, 143, 0, 0, []), (139, .iconst 1, 140, 0, 0, 0, []), (140, .goto 4, 143, 144, 0, 0, []), (144, .ireturn, 145, 1, 0, 0, [])]
def ai_c113 : List (Nat × ai_I) := ai_c113_0 ++ ai_c113_1 ++ ai_c113_2
-- PenPageModel.clear()V
def ai_c114_0 : List (Nat × ai_I) := [(0, .aload_n 0, 1, 0, 0, 0, []), (1, .iconst 0, 2, 0, 0, 0, []), (2, .putfield 85, 5, 8, 0, 0, []), (5, .aload_n 0, 6, 0, 0, 0, []), (6, .iconst 0, 7, 0, 0, 0, []), (7, .putfield 106, 10, 8, 23, 0, []), (10, .aload_n 0, 11, 0, 0, 0, []), (11, .iconst 0, 12, 0, 0, 0, []), (12, .putfield 103, 15, 8, 24, 0, []), (15, .return_, 16, 0, 0, 0, [])]
def ai_c114 : List (Nat × ai_I) := ai_c114_0
-- PenPageModel.copy(II)V
def ai_c115_0 : List (Nat × ai_I) := [(0, .iconst 0, 1, 0, 0, 0, []), (1, .istore_n 3, 2, 3, 0, 0, []), (2, .iload_n 3, 3, 3, 0, 0, []), (3, .sipush 166, 6, 0, 0, 0, []), (6, .if_icmp .ge 33, 9, 39, 0, 0, []), (9, .aload_n 0, 10, 0, 0, 0, []), (10, .getfield 14, 13, 8, 2, 2, []), (13, .sipush 166, 16, 0, 0, 0, []), (16, .iload_n 2, 17, 2, 0, 0, []), (17, .imul, 18, 0, 0, 0, []), (18, .iload_n 3, 19, 3, 0, 0, []), (19, .iadd, 20, 0, 0, 0, []), (20, .aload_n 0, 21, 0, 0, 0, []), (21, .getfield 14, 24, 8, 2, 2, []), (24, .sipush 166, 27, 0, 0, 0, []), (27, .iload_n 1, 28, 1, 0, 0, []), (28, .imul, 29, 0, 0, 0, []), (29, .iload_n 3, 30, 3, 0, 0, []), (30, .iadd, 31, 0, 0, 0, []), (31, .iaload, 32, 0, 0, 0, []), (32, .iastore, 33, 0, 0, 0, []), (33, .iinc 3 1, 36, 3, 0, 0, []), (36, .goto (-34), 39, 2, 0, 0, []), (39, .return_, 40, 0, 0, 0, [])]
def ai_c115 : List (Nat × ai_I) := ai_c115_0
-- PenPageModel.count(I)I
def ai_c116_0 : List (Nat × ai_I) := [(0, .aload_n 0, 1, 0, 0, 0, []), (1, .iconst 0, 2, 0, 0, 0, []), (2, .putfield 85, 5, 8, 0, 0, []), (5, .iload_n 1, 6, 1, 0, 0, []), (6, .tableswitch 71 0 6 #[42, 47, 52, 52, 52, 61, 66], 48, 77, 0, 0, [48, 53, 58, 58, 58, 67, 72]), (48, .aload_n 0, 49, 0, 0, 0, []), (49, .getfield 7, 52, 8, 1, 0, []), (52, .ireturn, 53, 0, 0, 0, []), (53, .aload_n 0, 54, 0, 0, 0, []), (54, .getfield 100, 57, 8, 17, 0, []), (57, .ireturn, 58, 0, 0, 0, []), (58, .aload_n 0, 59, 0, 0, 0, []), (59, .getfield 24, 62, 8, 5, 2, []), (62, .iload_n 1, 63, 1, 0, 0, []), (63, .iconst 2, 64, 0, 0, 0, []), (64, .isub, 65, 0, 0, 0, []), (65, .iaload, 66, 0, 0, 0, []), (66, .ireturn, 67, 0, 0, 0, []), (67, .aload_n 0, 68, 0, 0, 0, []), (68, .getfield 103, 71, 8, 24, 0, []), (71, .ireturn, 72, 0, 0, 0, []), (72, .aload_n 0, 73, 0, 0, 0, []), (73, .getfield 106, 76, 8, 23, 0, []), (76, .ireturn, 77, 0, 0, 0, []), (77, .aload_n 0, 78, 0, 0, 0, []), (78, .iconst 1, 79, 0, 0, 0, []), (79, .invokevirtual 109, 82, 118, 2, 0, [8, 0, 0]), (82, .ireturn, 83, 0, 0, 0, [])]
def ai_c116 : List (Nat × ai_I) := ai_c116_0
-- PenPageModel.endStep(I)I
def ai_c117_0 : List (Nat × ai_I) := [(0, .aload_n 0, 1, 0, 0, 0, []), (1, .iload_n 1, 2, 1, 0, 0, []), (2, .sipush 3200, 5, 0, 0, 0, []), (5, .invokevirtual 186, 8, 110, 3, 0, [8, 0, 0]), (8, .aload_n 0, 9, 0, 0, 0, []), (9, .iload_n 1, 10, 1, 0, 0, []), (10, .invokevirtual 189, 13, 146, 2, 0, [8, 0, 0]), (13, .aload_n 0, 14, 0, 0, 0, []), (14, .sipush 3200, 17, 0, 0, 0, []), (17, .iconst 2, 18, 0, 0, 0, []), (18, .invokevirtual 130, 21, 137, 3, 0, [8, 0, 0]), (21, .ireturn, 22, 0, 0, 0, [])]
def ai_c117 : List (Nat × ai_I) := ai_c117_0
-- PenPageModel.fail(I)I
def ai_c118_0 : List (Nat × ai_I) := [(0, .aload_n 0, 1, 0, 0, 0, []), (1, .iload_n 1, 2, 1, 0, 0, []), (2, .putfield 85, 5, 8, 0, 0, []), (5, .iconst 0, 6, 0, 0, 0, []), (6, .ireturn, 7, 0, 0, 0, [])]
def ai_c118 : List (Nat × ai_I) := ai_c118_0
-- PenPageModel.fault()I
def ai_c119_0 : List (Nat × ai_I) := [(0, .aload_n 0, 1, 0, 0, 0, []), (1, .iconst 0, 2, 0, 0, 0, []), (2, .putfield 85, 5, 8, 0, 0, []), (5, .aload_n 0, 6, 0, 0, 0, []), (6, .getfield 52, 9, 8, 18, 0, []), (9, .ireturn, 10, 0, 0, 0, [])]
def ai_c119 : List (Nat × ai_I) := ai_c119_0
-- PenPageModel.feed(IIIII)I
def ai_c120_0 : List (Nat × ai_I) := [(0, .aload_n 0, 1, 0, 0, 0, []), (1, .iconst 0, 2, 0, 0, 0, []), (2, .putfield 85, 5, 8, 0, 0, []), (5, .aload_n 0, 6, 0, 0, 0, []), (6, .getfield 100, 9, 8, 17, 0, []), (9, .bipush 20, 11, 0, 0, 0, []), (11, .iadd, 12, 0, 0, 0, []), (12, .sipush 400, 15, 0, 0, 0, []), (15, .if_icmp .le 5, 18, 20, 0, 0, []), (20, .iconst 0, 21, 0, 0, 0, []), (21, .istore 6, 23, 6, 0, 0, []), (23, .iload 6, 25, 6, 0, 0, []), (25, .bipush 20, 27, 0, 0, 0, []), (27, .if_icmp .ge 93, 30, 120, 0, 0, []), (30, .iload 6, 32, 6, 0, 0, []), (32, .iconst 4, 33, 0, 0, 0, []), (33, .if_icmp .ge 7, 36, 40, 0, 0, []), (36, .iload_n 1, 37, 1, 0, 0, []), (37, .goto 39, 40, 76, 0, 0, []), (40, .iload 6, 42, 6, 0, 0, []), (42, .bipush 8, 44, 0, 0, 0, []), (44, .if_icmp .ge 7, 47, 51, 0, 0, []), (47, .iload_n 2, 48, 2, 0, 0, []), (48, .goto 28, 51, 76, 0, 0, []), (51, .iload 6, 53, 6, 0, 0, []), (53, .bipush 12, 55, 0, 0, 0, []), (55, .if_icmp .ge 7, 58, 62, 0, 0, []), (58, .iload_n 3, 59, 3, 0, 0, []), (59, .goto 17, 62, 76, 0, 0, []), (62, .iload 6, 64, 6, 0, 0, []), (64, .bipush 16, 66, 0, 0, 0, []), (66, .if_icmp .ge 8, 69, 74, 0, 0, []), (69, .iload 4, 71, 4, 0, 0, []), (71, .goto 5, 74, 76, 0, 0, []), (74, .iload 5, 76, 5, 0, 0, []), (76, .istore 7, 78, 7, 0, 0, []), (78, .aload_n 0, 79, 0, 0, 0, []), (79, .getfield 49, 82, 8, 15, 2, []), (82, .aload_n 0, 83, 0, 0, 0, []), (83, .getfield 100, 86, 8, 17, 0, [])]
def ai_c120_1 : List (Nat × ai_I) := [(86, .iload 7, 88, 7, 0, 0, []), (88, .bipush 24, 90, 0, 0, 0, []), (90, .bipush 8, 92, 0, 0, 0, []), (92, .iload 6, 94, 6, 0, 0, []), (94, .iconst 4, 95, 0, 0, 0, []), (95, .irem, 96, 0, 0, 0, []), (96, .imul, 97, 0, 0, 0, []), (97, .isub, 98, 0, 0, 0, []), (98, .ishr, 99, 0, 0, 0, []), (99, .sipush 255, 102, 0, 0, 0, []), (102, .iand, 103, 0, 0, 0, []), (103, .iastore, 104, 0, 0, 0, []), (104, .aload_n 0, 105, 0, 0, 0, []), (105, .dup, 106, 0, 0, 0, []), (106, .getfield 100, 109, 8, 17, 0, []), (109, .iconst 1, 110, 0, 0, 0, []), (110, .iadd, 111, 0, 0, 0, []), (111, .putfield 100, 114, 8, 17, 0, []), (114, .iinc 6 1, 117, 6, 0, 0, []), (117, .goto (-94), 120, 23, 0, 0, []), (120, .aload_n 0, 121, 0, 0, 0, []), (121, .getfield 100, 124, 8, 17, 0, []), (124, .ireturn, 125, 0, 0, 0, [])]
def ai_c120 : List (Nat × ai_I) := ai_c120_0 ++ ai_c120_1
-- PenPageModel.fewest(II)I
def ai_c121_0 : List (Nat × ai_I) := [(0, .aload_n 0, 1, 0, 0, 0, []), (1, .iconst 0, 2, 0, 0, 0, []), (2, .putfield 85, 5, 8, 0, 0, []), (5, .aload_n 0, 6, 0, 0, 0, []), (6, .iload_n 1, 7, 1, 0, 0, []), (7, .invokevirtual 92, 10, 128, 2, 0, [8, 0, 0]), (10, .ifCond .eq 29, 13, 39, 0, 0, []), (13, .aload_n 0, 14, 0, 0, 0, []), (14, .iload_n 2, 15, 2, 0, 0, []), (15, .invokevirtual 92, 18, 128, 2, 0, [8, 0, 0]), (18, .ifCond .eq 21, 21, 39, 0, 0, []), (21, .aload_n 0, 22, 0, 0, 0, []), (22, .iload_n 1, 23, 1, 0, 0, []), (23, .iload_n 2, 24, 2, 0, 0, []), (24, .iconst (-1), 25, 0, 0, 0, []), (25, .invokevirtual 291, 28, 131, 4, 0, [8, 0, 0]), (28, .aload_n 0, 29, 0, 0, 0, []), (29, .iload_n 2, 30, 2, 0, 0, []), (30, .iload_n 1, 31, 1, 0, 0, []), (31, .iconst (-1), 32, 0, 0, 0, []), (32, .invokevirtual 291, 35, 131, 4, 0, [8, 0, 0]), (35, .iadd, 36, 0, 0, 0, []), (36, .goto 8, 39, 44, 0, 0, []), (39, .aload_n 0, 40, 0, 0, 0, []), (40, .iconst 1, 41, 0, 0, 0, []), (41, .invokevirtual 109, 44, 118, 2, 0, [8, 0, 0]), (44, .ireturn, 45, 0, 0, 0, [])]
def ai_c121 : List (Nat × ai_I) := ai_c121_0
-- PenPageModel.gone(II)Z
def ai_c122_0 : List (Nat × ai_I) := [(0, .aload_n 0, 1, 0, 0, 0, []), (1, .iconst 0, 2, 0, 0, 0, []), (2, .putfield 85, 5, 8, 0, 0, []), (5, .aload_n 0, 6, 0, 0, 0, []), (6, .iload_n 1, 7, 1, 0, 0, []), (7, .invokevirtual 92, 10, 128, 2, 0, [8, 0, 0]), (10, .ifCond .eq 12, 13, 22, 0, 0, []), (13, .aload_n 0, 14, 0, 0, 0, []), (14, .iload_n 1, 15, 1, 0, 0, []), (15, .iload_n 2, 16, 2, 0, 0, []), (16, .invokevirtual 133, 19, 152, 3, 0, [8, 0, 0]), (19, .goto 4, 22, 23, 0, 0, []), (22, .iconst (-1), 23, 0, 0, 0, []), (23, .istore_n 3, 24, 3, 0, 0, []), (24, .iload_n 3, 25, 3, 0, 0, []), (25, .iconst (-1), 26, 0, 0, 0, []), (26, .if_icmp .ne 10, 29, 36, 0, 0, []), (29, .aload_n 0, 30, 0, 0, 0, []), (30, .iconst 1, 31, 0, 0, 0, []), (31, .putfield 85, 34, 8, 0, 0, []), (34, .iconst 0, 35, 0, 0, 0, []), (35, .ireturn, 36, 1, 0, 0, [])]
def ai_c122 : List (Nat × ai_I) := ai_c122_0
-- PenPageModel.goneOf(I)I
def ai_c123_0 : List (Nat × ai_I) := [(0, .iconst 0, 1, 0, 0, 0, []), (1, .istore_n 2, 2, 2, 0, 0, []), (2, .iconst 0, 3, 0, 0, 0, []), (3, .istore_n 3, 4, 3, 0, 0, []), (4, .iload_n 3, 5, 3, 0, 0, []), (5, .aload_n 0, 6, 0, 0, 0, []), (6, .getfield 140, 9, 8, 12, 0, []), (9, .if_icmp .ge 31, 12, 40, 0, 0, []), (40, .iload_n 2, 41, 2, 0, 0, []), (41, .ireturn, 42, 0, 0, 0, [])]
def ai_c123 : List (Nat × ai_I) := ai_c123_0
-- PenPageModel.hasStep(III)Z
def ai_c124_0 : List (Nat × ai_I) := [(0, .aload_n 0, 1, 0, 0, 0, []), (1, .iload_n 2, 2, 2, 0, 0, []), (2, .invokevirtual 92, 5, 128, 2, 0, [8, 0, 0]), (5, .ifCond .eq 25, 8, 30, 0, 0, []), (8, .iload_n 3, 9, 3, 0, 0, []), (9, .iconst 1, 10, 0, 0, 0, []), (10, .aload_n 0, 11, 0, 0, 0, []), (11, .getfield 18, 14, 8, 3, 2, []), (14, .iconst 5, 15, 0, 0, 0, []), (15, .iload_n 1, 16, 1, 0, 0, []), (16, .imul, 17, 0, 0, 0, []), (17, .iload_n 2, 18, 2, 0, 0, []), (18, .iadd, 19, 0, 0, 0, []), (19, .iaload, 20, 0, 0, 0, []), (20, .invokestatic 88, 23, 127, 3, 0, []), (23, .ifCond .eq 7, 26, 30, 0, 0, []), (30, .iconst 0, 31, 0, 0, 0, []), (31, .ireturn, 32, 1, 0, 0, [])]
def ai_c124 : List (Nat × ai_I) := ai_c124_0
-- PenPageModel.hear(II)I
def ai_c125_0 : List (Nat × ai_I) := [(0, .aload_n 0, 1, 0, 0, 0, []), (1, .iconst 0, 2, 0, 0, 0, []), (2, .putfield 85, 5, 8, 0, 0, []), (5, .aload_n 0, 6, 0, 0, 0, []), (6, .iload_n 1, 7, 1, 0, 0, []), (7, .invokevirtual 92, 10, 128, 2, 0, [8, 0, 0]), (10, .ifCond .ne 9, 13, 19, 0, 0, []), (13, .aload_n 0, 14, 0, 0, 0, []), (14, .iconst 1, 15, 0, 0, 0, []), (15, .invokevirtual 109, 18, 118, 2, 0, [8, 0, 0]), (18, .ireturn, 19, 0, 0, 0, []), (19, .iload_n 2, 20, 2, 0, 0, []), (20, .ifCond .lt 11, 23, 31, 0, 0, []), (23, .iload_n 2, 24, 2, 0, 0, []), (24, .aload_n 0, 25, 0, 0, 0, []), (25, .getfield 100, 28, 8, 17, 0, []), (28, .if_icmp .le 9, 31, 37, 0, 0, []), (31, .aload_n 0, 32, 0, 0, 0, []), (32, .iconst 2, 33, 0, 0, 0, []), (33, .invokevirtual 109, 36, 118, 2, 0, [8, 0, 0]), (36, .ireturn, 37, 0, 0, 0, []), (37, .aload_n 0, 38, 0, 0, 0, []), (38, .iconst 0, 39, 0, 0, 0, []), (39, .putfield 100, 42, 8, 17, 0, []), (42, .aload_n 0, 43, 0, 0, 0, []), (43, .iload_n 2, 44, 2, 0, 0, []), (44, .putfield 246, 47, 8, 20, 0, []), (47, .aload_n 0, 48, 0, 0, 0, []), (48, .iconst 0, 49, 0, 0, 0, []), (49, .putfield 243, 52, 8, 19, 0, []), (52, .aload_n 0, 53, 0, 0, 0, []), (53, .iconst 0, 54, 0, 0, 0, []), (54, .putfield 237, 57, 8, 21, 0, []), (57, .aload_n 0, 58, 0, 0, 0, []), (58, .iconst (-1), 59, 0, 0, 0, []), (59, .putfield 52, 62, 8, 18, 0, []), (62, .aload_n 0, 63, 0, 0, 0, []), (63, .invokevirtual 267, 66, 143, 1, 0, [8, 0, 0]), (66, .aload_n 0, 67, 0, 0, 0, []), (67, .getfield 237, 70, 8, 21, 0, [])]
def ai_c125_1 : List (Nat × ai_I) := [(70, .ifCond .ne 11, 73, 81, 0, 0, []), (81, .bipush 10, 83, 0, 0, 0, []), (83, .aload_n 0, 84, 0, 0, 0, []), (84, .getfield 237, 87, 8, 21, 0, []), (87, .iadd, 88, 0, 0, 0, []), (88, .istore_n 3, 89, 3, 0, 0, []), (89, .iload_n 3, 90, 3, 0, 0, []), (90, .bipush 10, 92, 0, 0, 0, []), (92, .if_icmp .le 32, 95, 124, 0, 0, []), (95, .aload_n 0, 96, 0, 0, 0, []), (96, .aload_n 0, 97, 0, 0, 0, []), (97, .getfield 237, 100, 8, 21, 0, []), (100, .ifCond .ne 7, 103, 107, 0, 0, []), (107, .aload_n 0, 108, 0, 0, 0, []), (108, .getfield 240, 111, 8, 22, 0, []), (111, .putfield 52, 114, 8, 18, 0, []), (114, .aload_n 0, 115, 0, 0, 0, []), (115, .getfield 24, 118, 8, 5, 2, []), (118, .iconst 1, 119, 0, 0, 0, []), (119, .dup2, 120, 0, 0, 0, []), (120, .iaload, 121, 0, 0, 0, []), (121, .iconst 1, 122, 0, 0, 0, []), (122, .iadd, 123, 0, 0, 0, []), (123, .iastore, 124, 0, 0, 0, []), (124, .iload_n 3, 125, 3, 0, 0, []), (125, .ireturn, 126, 0, 0, 0, [])]
def ai_c125 : List (Nat × ai_I) := ai_c125_0 ++ ai_c125_1
-- PenPageModel.image()V
def ai_c126_0 : List (Nat × ai_I) := [(0, .aload_n 0, 1, 0, 0, 0, []), (1, .iconst 0, 2, 0, 0, 0, []), (2, .putfield 85, 5, 8, 0, 0, []), (5, .aload_n 0, 6, 0, 0, 0, []), (6, .iconst 1, 7, 0, 0, 0, []), (7, .putfield 96, 10, 8, 34, 1, []), (10, .aload_n 0, 11, 0, 0, 0, []), (11, .iconst 0, 12, 0, 0, 0, []), (12, .sipush 1600, 15, 0, 0, 0, []), (15, .invokevirtual 312, 18, 167, 3, 0, [8, 0, 0]), (18, .iconst 0, 19, 0, 0, 0, []), (19, .istore_n 1, 20, 1, 0, 0, []), (20, .iload_n 1, 21, 1, 0, 0, []), (21, .bipush 25, 23, 0, 0, 0, []), (23, .if_icmp .ge 21, 26, 44, 0, 0, []), (26, .aload_n 0, 27, 0, 0, 0, []), (27, .getfield 76, 30, 8, 35, 2, []), (30, .iload_n 1, 31, 1, 0, 0, []), (31, .aload_n 0, 32, 0, 0, 0, []), (32, .getfield 18, 35, 8, 3, 2, []), (35, .iload_n 1, 36, 1, 0, 0, []), (36, .iaload, 37, 0, 0, 0, []), (37, .iastore, 38, 0, 0, 0, []), (38, .iinc 1 1, 41, 1, 0, 0, []), (41, .goto (-21), 44, 20, 0, 0, []), (44, .iconst 0, 45, 0, 0, 0, []), (45, .istore_n 1, 46, 1, 0, 0, []), (46, .iload_n 1, 47, 1, 0, 0, []), (47, .iconst 5, 48, 0, 0, 0, []), (48, .if_icmp .ge 21, 51, 69, 0, 0, []), (51, .aload_n 0, 52, 0, 0, 0, []), (52, .getfield 79, 55, 8, 36, 2, []), (55, .iload_n 1, 56, 1, 0, 0, []), (56, .aload_n 0, 57, 0, 0, 0, []), (57, .getfield 21, 60, 8, 4, 2, []), (60, .iload_n 1, 61, 1, 0, 0, []), (61, .iaload, 62, 0, 0, 0, []), (62, .iastore, 63, 0, 0, 0, []), (63, .iinc 1 1, 66, 1, 0, 0, []), (66, .goto (-20), 69, 46, 0, 0, [])]
def ai_c126_1 : List (Nat × ai_I) := [(69, .iconst 0, 70, 0, 0, 0, []), (70, .istore_n 1, 71, 1, 0, 0, []), (71, .iload_n 1, 72, 1, 0, 0, []), (72, .iconst 3, 73, 0, 0, 0, []), (73, .if_icmp .ge 21, 76, 94, 0, 0, []), (76, .aload_n 0, 77, 0, 0, 0, []), (77, .getfield 82, 80, 8, 37, 2, []), (80, .iload_n 1, 81, 1, 0, 0, []), (81, .aload_n 0, 82, 0, 0, 0, []), (82, .getfield 24, 85, 8, 5, 2, []), (85, .iload_n 1, 86, 1, 0, 0, []), (86, .iaload, 87, 0, 0, 0, []), (87, .iastore, 88, 0, 0, 0, []), (88, .iinc 1 1, 91, 1, 0, 0, []), (91, .goto (-20), 94, 71, 0, 0, []), (94, .return_, 95, 0, 0, 0, [])]
def ai_c126 : List (Nat × ai_I) := ai_c126_0 ++ ai_c126_1
-- PenPageModel.isIn(III)Z
def ai_c127_0 : List (Nat × ai_I) := [(0, .iload_n 0, 1, 0, 0, 0, []), (1, .iload_n 1, 2, 1, 0, 0, []), (2, .if_icmp .lt 12, 5, 14, 0, 0, []), (5, .iload_n 0, 6, 0, 0, 0, []), (6, .iload_n 2, 7, 2, 0, 0, []), (7, .if_icmp .gt 7, 10, 14, 0, 0, []), (10, .iconst 1, 11, 0, 0, 0, []), (11, .goto 4, 14, 15, 0, 0, []), (14, .iconst 0, 15, 0, 0, 0, []), (15, .ireturn, 16, 1, 0, 0, [])]
def ai_c127 : List (Nat × ai_I) := ai_c127_0
-- PenPageModel.isWriter(I)Z
def ai_c128_0 : List (Nat × ai_I) := [(0, .iload_n 1, 1, 1, 0, 0, []), (1, .iconst 0, 2, 0, 0, 0, []), (2, .aload_n 0, 3, 0, 0, 0, []), (3, .getfield 7, 6, 8, 1, 0, []), (6, .iconst 1, 7, 0, 0, 0, []), (7, .isub, 8, 0, 0, 0, []), (8, .invokestatic 88, 11, 127, 3, 0, []), (11, .ireturn, 12, 1, 0, 0, [])]
def ai_c128 : List (Nat × ai_I) := ai_c128_0
-- PenPageModel.keyAhead(I)I
def ai_c129_0 : List (Nat × ai_I) := [(0, .iload_n 1, 1, 1, 0, 0, []), (1, .ifCond .ne 7, 4, 8, 0, 0, []), (4, .iconst (-1), 5, 0, 0, 0, []), (5, .goto 16, 8, 21, 0, 0, []), (21, .ireturn, 22, 0, 0, 0, [])]
def ai_c129 : List (Nat × ai_I) := ai_c129_0
-- PenPageModel.keyBehind(I)I
def ai_c130_0 : List (Nat × ai_I) := [(0, .iload_n 1, 1, 1, 0, 0, []), (1, .ifCond .ne 7, 4, 8, 0, 0, []), (4, .iconst 0, 5, 0, 0, 0, []), (5, .goto 17, 8, 22, 0, 0, []), (22, .istore_n 2, 23, 2, 0, 0, []), (23, .iload_n 1, 24, 1, 0, 0, []), (24, .ifCond .le 40, 27, 64, 0, 0, []), (64, .iload_n 2, 65, 2, 0, 0, []), (65, .aload_n 0, 66, 0, 0, 0, []), (66, .getfield 140, 69, 8, 12, 0, []), (69, .if_icmp .ge 17, 72, 86, 0, 0, []), (86, .iconst (-1), 87, 0, 0, 0, []), (87, .ireturn, 88, 0, 0, 0, [])]
def ai_c130 : List (Nat × ai_I) := ai_c130_0
-- PenPageModel.lackOf(III)I
def ai_c131_0 : List (Nat × ai_I) := [(0, .iconst 0, 1, 0, 0, 0, []), (1, .istore 4, 3, 4, 0, 0, []), (3, .iconst 0, 4, 0, 0, 0, []), (4, .istore 5, 6, 5, 0, 0, []), (6, .iload 5, 8, 5, 0, 0, []), (8, .aload_n 0, 9, 0, 0, 0, []), (9, .getfield 7, 12, 8, 1, 0, []), (12, .if_icmp .ge 68, 15, 80, 0, 0, []), (15, .iconst 1, 16, 0, 0, 0, []), (16, .istore 6, 18, 6, 0, 0, []), (18, .iload 6, 20, 6, 0, 0, []), (20, .aload_n 0, 21, 0, 0, 0, []), (21, .getfield 18, 24, 8, 3, 2, []), (24, .iconst 5, 25, 0, 0, 0, []), (25, .iload_n 2, 26, 2, 0, 0, []), (26, .imul, 27, 0, 0, 0, []), (27, .iload 5, 29, 5, 0, 0, []), (29, .iadd, 30, 0, 0, 0, []), (30, .iaload, 31, 0, 0, 0, []), (31, .if_icmp .gt 43, 34, 74, 0, 0, []), (74, .iinc 5 1, 77, 5, 0, 0, []), (77, .goto (-71), 80, 6, 0, 0, []), (80, .iload_n 3, 81, 3, 0, 0, []), (81, .iconst (-1), 82, 0, 0, 0, []), (82, .if_icmp .ne 8, 85, 90, 0, 0, []), (85, .iload 4, 87, 4, 0, 0, []), (87, .goto 4, 90, 91, 0, 0, []), (90, .iconst (-1), 91, 0, 0, 0, []), (91, .ireturn, 92, 0, 0, 0, [])]
def ai_c131 : List (Nat × ai_I) := ai_c131_0
-- PenPageModel.lacks(III)I
def ai_c132_0 : List (Nat × ai_I) := [(0, .aload_n 0, 1, 0, 0, 0, []), (1, .iconst 0, 2, 0, 0, 0, []), (2, .putfield 85, 5, 8, 0, 0, []), (5, .aload_n 0, 6, 0, 0, 0, []), (6, .iload_n 1, 7, 1, 0, 0, []), (7, .invokevirtual 92, 10, 128, 2, 0, [8, 0, 0]), (10, .ifCond .eq 16, 13, 26, 0, 0, []), (13, .aload_n 0, 14, 0, 0, 0, []), (14, .iload_n 2, 15, 2, 0, 0, []), (15, .invokevirtual 92, 18, 128, 2, 0, [8, 0, 0]), (18, .ifCond .eq 8, 21, 26, 0, 0, []), (21, .iload_n 3, 22, 3, 0, 0, []), (22, .iconst (-1), 23, 0, 0, 0, []), (23, .if_icmp .ge 9, 26, 32, 0, 0, []), (26, .aload_n 0, 27, 0, 0, 0, []), (27, .iconst 1, 28, 0, 0, 0, []), (28, .invokevirtual 109, 31, 118, 2, 0, [8, 0, 0]), (31, .ireturn, 32, 0, 0, 0, []), (32, .aload_n 0, 33, 0, 0, 0, []), (33, .iload_n 1, 34, 1, 0, 0, []), (34, .iload_n 2, 35, 2, 0, 0, []), (35, .iload_n 3, 36, 3, 0, 0, []), (36, .invokevirtual 291, 39, 131, 4, 0, [8, 0, 0]), (39, .istore 4, 41, 4, 0, 0, []), (41, .iload 4, 43, 4, 0, 0, []), (43, .iconst (-1), 44, 0, 0, 0, []), (44, .if_icmp .ne 11, 47, 55, 0, 0, []), (47, .aload_n 0, 48, 0, 0, 0, []), (48, .iconst 1, 49, 0, 0, 0, []), (49, .invokevirtual 109, 52, 118, 2, 0, [8, 0, 0]), (52, .goto 5, 55, 57, 0, 0, []), (55, .iload 4, 57, 4, 0, 0, []), (57, .ireturn, 58, 0, 0, 0, [])]
def ai_c132 : List (Nat × ai_I) := ai_c132_0
-- PenPageModel.mayUndo(II)Z
def ai_c133_0 : List (Nat × ai_I) := [(0, .aload_n 0, 1, 0, 0, 0, []), (1, .iload_n 1, 2, 1, 0, 0, []), (2, .iload_n 1, 3, 1, 0, 0, []), (3, .iload_n 2, 4, 2, 0, 0, []), (4, .invokevirtual 113, 7, 124, 4, 0, [8, 0, 0]), (7, .ifCond .eq 16, 10, 23, 0, 0, []), (23, .iconst 0, 24, 0, 0, 0, []), (24, .ireturn, 25, 1, 0, 0, [])]
def ai_c133 : List (Nat × ai_I) := ai_c133_0
-- PenPageModel.move(IIII)I
def ai_c134_0 : List (Nat × ai_I) := [(0, .aload_n 0, 1, 0, 0, 0, []), (1, .iconst 0, 2, 0, 0, 0, []), (2, .putfield 85, 5, 8, 0, 0, []), (5, .aload_n 0, 6, 0, 0, 0, []), (6, .iload_n 1, 7, 1, 0, 0, []), (7, .invokevirtual 92, 10, 128, 2, 0, [8, 0, 0]), (10, .ifCond .ne 9, 13, 19, 0, 0, []), (13, .aload_n 0, 14, 0, 0, 0, []), (14, .iconst 1, 15, 0, 0, 0, []), (15, .invokevirtual 109, 18, 118, 2, 0, [8, 0, 0]), (18, .ireturn, 19, 0, 0, 0, []), (19, .aload_n 0, 20, 0, 0, 0, []), (20, .iload_n 1, 21, 1, 0, 0, []), (21, .invokevirtual 172, 24, 157, 2, 0, [8, 0, 0]), (24, .iload_n 2, 25, 2, 0, 0, []), (25, .ifCond .lt 53, 28, 78, 0, 0, []), (28, .iload_n 2, 29, 2, 0, 0, []), (29, .iload_n 3, 30, 3, 0, 0, []), (30, .if_icmp .gt 48, 33, 78, 0, 0, []), (33, .iload_n 3, 34, 3, 0, 0, []), (34, .aload_n 0, 35, 0, 0, 0, []), (35, .getfield 143, 38, 8, 13, 0, []), (38, .if_icmp .ge 40, 41, 78, 0, 0, []), (78, .iconst 0, 79, 0, 0, 0, []), (79, .istore 5, 81, 5, 0, 0, []), (81, .iload 5, 83, 5, 0, 0, []), (83, .ifCond .eq 12, 86, 95, 0, 0, []), (95, .aload_n 0, 96, 0, 0, 0, []), (96, .invokevirtual 204, 99, 145, 1, 0, [8, 0, 0]), (99, .ireturn, 100, 0, 0, 0, [])]
def ai_c134 : List (Nat × ai_I) := ai_c134_0
-- PenPageModel.named(II)I
def ai_c135_0 : List (Nat × ai_I) := [(0, .iload_n 2, 1, 2, 0, 0, []), (1, .ifCond .lt 33, 4, 34, 0, 0, []), (4, .aload_n 0, 5, 0, 0, 0, []), (5, .iload_n 1, 6, 1, 0, 0, []), (6, .iload_n 2, 7, 2, 0, 0, []), (7, .bipush 100, 9, 0, 0, 0, []), (9, .idiv, 10, 0, 0, 0, []), (10, .iload_n 2, 11, 2, 0, 0, []), (11, .bipush 100, 13, 0, 0, 0, []), (13, .irem, 14, 0, 0, 0, []), (14, .invokevirtual 113, 17, 124, 4, 0, [8, 0, 0]), (17, .ifCond .eq 17, 20, 34, 0, 0, []), (34, .iconst (-1), 35, 0, 0, 0, []), (35, .ireturn, 36, 0, 0, 0, [])]
def ai_c135 : List (Nat × ai_I) := ai_c135_0
-- PenPageModel.newKey(IIII)Z
def ai_c136_0 : List (Nat × ai_I) := [(0, .iload_n 2, 1, 2, 0, 0, []), (1, .iconst (-1), 2, 0, 0, 0, []), (2, .if_icmp .eq 7, 5, 9, 0, 0, []), (9, .iconst 0, 10, 0, 0, 0, []), (10, .istore 5, 12, 5, 0, 0, []), (12, .iconst 1, 13, 0, 0, 0, []), (13, .istore 6, 15, 6, 0, 0, []), (15, .iload 6, 17, 6, 0, 0, []), (17, .bipush 24, 19, 0, 0, 0, []), (19, .if_icmp .gt 162, 22, 181, 0, 0, []), (22, .iload_n 1, 23, 1, 0, 0, []), (23, .iconst (-1), 24, 0, 0, 0, []), (24, .if_icmp .eq 26, 27, 50, 0, 0, []), (50, .iconst 0, 51, 0, 0, 0, []), (51, .istore 7, 53, 7, 0, 0, []), (53, .iload 5, 55, 5, 0, 0, []), (55, .ifCond .eq 30, 58, 85, 0, 0, []), (85, .sipush 800, 88, 0, 0, 0, []), (88, .istore 8, 90, 8, 0, 0, []), (90, .aload_n 0, 91, 0, 0, 0, []), (91, .getfield 14, 94, 8, 2, 2, []), (94, .iload 4, 96, 4, 0, 0, []), (96, .iload 6, 98, 6, 0, 0, []), (98, .iastore, 99, 0, 0, 0, []), (99, .iload 8, 101, 8, 0, 0, []), (101, .bipush 8, 103, 0, 0, 0, []), (103, .idiv, 104, 0, 0, 0, []), (104, .iload 7, 106, 7, 0, 0, []), (106, .bipush 8, 108, 0, 0, 0, []), (108, .idiv, 109, 0, 0, 0, []), (109, .isub, 110, 0, 0, 0, []), (110, .iconst 2, 111, 0, 0, 0, []), (111, .if_icmp .lt 33, 114, 144, 0, 0, []), (114, .aload_n 0, 115, 0, 0, 0, []), (115, .getfield 14, 118, 8, 2, 2, []), (118, .iload 4, 120, 4, 0, 0, []), (120, .iload 6, 122, 6, 0, 0, []), (122, .iadd, 123, 0, 0, 0, []), (123, .bipush 8, 125, 0, 0, 0, []), (125, .iload 7, 127, 7, 0, 0, [])]
def ai_c136_1 : List (Nat × ai_I) := [(127, .bipush 8, 129, 0, 0, 0, []), (129, .idiv, 130, 0, 0, 0, []), (130, .iload 8, 132, 8, 0, 0, []), (132, .bipush 8, 134, 0, 0, 0, []), (134, .idiv, 135, 0, 0, 0, []), (135, .iadd, 136, 0, 0, 0, []), (136, .iconst 2, 137, 0, 0, 0, []), (137, .idiv, 138, 0, 0, 0, []), (138, .imul, 139, 0, 0, 0, []), (139, .iload_n 3, 140, 3, 0, 0, []), (140, .iadd, 141, 0, 0, 0, []), (141, .iastore, 142, 0, 0, 0, []), (142, .iconst 1, 143, 0, 0, 0, []), (143, .ireturn, 144, 1, 0, 0, [])]
def ai_c136 : List (Nat × ai_I) := ai_c136_0 ++ ai_c136_1
-- PenPageModel.of(II)I
def ai_c137_0 : List (Nat × ai_I) := [(0, .aload_n 0, 1, 0, 0, 0, []), (1, .getfield 14, 4, 8, 2, 2, []), (4, .sipush 166, 7, 0, 0, 0, []), (7, .iload_n 1, 8, 1, 0, 0, []), (8, .imul, 9, 0, 0, 0, []), (9, .iload_n 2, 10, 2, 0, 0, []), (10, .iadd, 11, 0, 0, 0, []), (11, .iaload, 12, 0, 0, 0, []), (12, .ireturn, 13, 0, 0, 0, [])]
def ai_c137 : List (Nat × ai_I) := ai_c137_0
-- PenPageModel.orderOn(I)V
def ai_c138_0 : List (Nat × ai_I) := [(0, .aload_n 0, 1, 0, 0, 0, []), (1, .iload_n 1, 2, 1, 0, 0, []), (2, .invokevirtual 294, 5, 162, 2, 0, [8, 0, 0]), (5, .istore_n 2, 6, 2, 0, 0, []), (6, .iload_n 2, 7, 2, 0, 0, []), (7, .iconst (-1), 8, 0, 0, 0, []), (8, .if_icmp .ne 4, 11, 12, 0, 0, []), (12, .aload_n 0, 13, 0, 0, 0, []), (13, .aload_n 0, 14, 0, 0, 0, []), (14, .getfield 297, 17, 8, 33, 0, []), (17, .iload_n 1, 18, 1, 0, 0, []), (18, .invokestatic 156, 21, 0, 2, 8, []), (21, .putfield 297, 24, 8, 33, 0, []), (24, .iload_n 1, 25, 1, 0, 0, []), (25, .aload_n 0, 26, 0, 0, 0, []), (26, .getfield 103, 29, 8, 24, 0, []), (29, .if_icmp .ne 114, 32, 143, 0, 0, []), (32, .iload_n 2, 33, 2, 0, 0, []), (33, .aload_n 0, 34, 0, 0, 0, []), (34, .getfield 106, 37, 8, 23, 0, []), (37, .if_icmp .ne 7, 40, 44, 0, 0, []), (40, .iconst 1, 41, 0, 0, 0, []), (41, .goto 4, 44, 45, 0, 0, []), (45, .istore_n 3, 46, 3, 0, 0, []), (46, .iconst 0, 47, 0, 0, 0, []), (47, .istore 4, 49, 4, 0, 0, []), (49, .iload 4, 51, 4, 0, 0, []), (51, .aload_n 0, 52, 0, 0, 0, []), (52, .getfield 106, 55, 8, 23, 0, []), (55, .if_icmp .ge 36, 58, 91, 0, 0, []), (91, .iload_n 3, 92, 3, 0, 0, []), (92, .ifCond .ne 4, 95, 96, 0, 0, []), (96, .iconst 0, 97, 0, 0, 0, []), (97, .istore 4, 99, 4, 0, 0, []), (99, .iload 4, 101, 4, 0, 0, []), (101, .iload_n 1, 102, 1, 0, 0, []), (102, .if_icmp .ge 30, 105, 132, 0, 0, []), (132, .aload_n 0, 133, 0, 0, 0, []), (133, .dup, 134, 0, 0, 0, []), (134, .getfield 300, 137, 8, 32, 0, [])]
def ai_c138_1 : List (Nat × ai_I) := [(137, .iconst 1, 138, 0, 0, 0, []), (138, .iadd, 139, 0, 0, 0, []), (139, .putfield 300, 142, 8, 32, 0, []), (142, .return_, 143, 0, 0, 0, [])]
def ai_c138 : List (Nat × ai_I) := ai_c138_0 ++ ai_c138_1
-- PenPageModel.packet(IIII)I
def ai_c139_0 : List (Nat × ai_I) := [(0, .aload_n 0, 1, 0, 0, 0, []), (1, .iconst 0, 2, 0, 0, 0, []), (2, .putfield 85, 5, 8, 0, 0, []), (5, .aload_n 0, 6, 0, 0, 0, []), (6, .iload_n 1, 7, 1, 0, 0, []), (7, .invokevirtual 92, 10, 128, 2, 0, [8, 0, 0]), (10, .ifCond .eq 13, 13, 23, 0, 0, []), (13, .aload_n 0, 14, 0, 0, 0, []), (14, .iload_n 1, 15, 1, 0, 0, []), (15, .iload_n 2, 16, 2, 0, 0, []), (16, .iload_n 3, 17, 3, 0, 0, []), (17, .invokevirtual 113, 20, 124, 4, 0, [8, 0, 0]), (20, .ifCond .ne 9, 23, 29, 0, 0, []), (23, .aload_n 0, 24, 0, 0, 0, []), (24, .iconst 1, 25, 0, 0, 0, []), (25, .invokevirtual 109, 28, 118, 2, 0, [8, 0, 0]), (28, .ireturn, 29, 0, 0, 0, [])]
def ai_c139 : List (Nat × ai_I) := ai_c139_0
-- PenPageModel.page(II)I
def ai_c140_0 : List (Nat × ai_I) := [(0, .aload_n 0, 1, 0, 0, 0, []), (1, .iconst 0, 2, 0, 0, 0, []), (2, .putfield 85, 5, 8, 0, 0, []), (5, .aload_n 0, 6, 0, 0, 0, []), (6, .iload_n 1, 7, 1, 0, 0, []), (7, .invokevirtual 92, 10, 128, 2, 0, [8, 0, 0]), (10, .ifCond .ne 9, 13, 19, 0, 0, []), (13, .aload_n 0, 14, 0, 0, 0, []), (14, .iconst 1, 15, 0, 0, 0, []), (15, .invokevirtual 109, 18, 118, 2, 0, [8, 0, 0]), (18, .ireturn, 19, 0, 0, 0, []), (19, .iload_n 2, 20, 2, 0, 0, []), (20, .bipush 10, 22, 0, 0, 0, []), (22, .if_icmp .lt 36, 25, 58, 0, 0, []), (25, .aload_n 0, 26, 0, 0, 0, []), (26, .iload_n 2, 27, 2, 0, 0, []), (27, .bipush 10, 29, 0, 0, 0, []), (29, .isub, 30, 0, 0, 0, []), (30, .invokevirtual 92, 33, 128, 2, 0, [8, 0, 0]), (33, .ifCond .eq 19, 36, 52, 0, 0, []), (36, .aload_n 0, 37, 0, 0, 0, []), (37, .getfield 18, 40, 8, 3, 2, []), (40, .iconst 5, 41, 0, 0, 0, []), (41, .iload_n 1, 42, 1, 0, 0, []), (42, .imul, 43, 0, 0, 0, []), (43, .iload_n 2, 44, 2, 0, 0, []), (44, .iadd, 45, 0, 0, 0, []), (45, .bipush 10, 47, 0, 0, 0, []), (47, .isub, 48, 0, 0, 0, []), (48, .iaload, 49, 0, 0, 0, []), (49, .goto 8, 52, 57, 0, 0, []), (52, .aload_n 0, 53, 0, 0, 0, []), (53, .iconst 1, 54, 0, 0, 0, []), (54, .invokevirtual 109, 57, 118, 2, 0, [8, 0, 0]), (57, .ireturn, 58, 0, 0, 0, []), (58, .aload_n 0, 59, 0, 0, 0, []), (59, .iload_n 1, 60, 1, 0, 0, []), (60, .invokevirtual 172, 63, 157, 2, 0, [8, 0, 0]), (63, .iload_n 2, 64, 2, 0, 0, []), (64, .tableswitch 65 0 4 #[36, 41, 46, 53, 59], 100, 129, 0, 0, [100, 105, 110, 117, 123])]
def ai_c140_1 : List (Nat × ai_I) := [(100, .aload_n 0, 101, 0, 0, 0, []), (101, .getfield 140, 104, 8, 12, 0, []), (104, .ireturn, 105, 0, 0, 0, []), (105, .aload_n 0, 106, 0, 0, 0, []), (106, .getfield 143, 109, 8, 13, 0, []), (109, .ireturn, 110, 0, 0, 0, []), (110, .aload_n 0, 111, 0, 0, 0, []), (111, .getfield 21, 114, 8, 4, 2, []), (114, .iload_n 1, 115, 1, 0, 0, []), (115, .iaload, 116, 0, 0, 0, []), (116, .ireturn, 117, 0, 0, 0, []), (117, .aload_n 0, 118, 0, 0, 0, []), (118, .iload_n 1, 119, 1, 0, 0, []), (119, .invokevirtual 175, 122, 123, 2, 0, [8, 0, 0]), (122, .ireturn, 123, 0, 0, 0, []), (123, .aload_n 0, 124, 0, 0, 0, []), (124, .iload_n 1, 125, 1, 0, 0, []), (125, .invokevirtual 178, 128, 111, 2, 0, [8, 0, 0]), (128, .ireturn, 129, 0, 0, 0, []), (129, .aload_n 0, 130, 0, 0, 0, []), (130, .iconst 1, 131, 0, 0, 0, []), (131, .invokevirtual 109, 134, 118, 2, 0, [8, 0, 0]), (134, .ireturn, 135, 0, 0, 0, [])]
def ai_c140 : List (Nat × ai_I) := ai_c140_0 ++ ai_c140_1
-- PenPageModel.put(III)V
def ai_c141_0 : List (Nat × ai_I) := [(0, .aload_n 0, 1, 0, 0, 0, []), (1, .getfield 14, 4, 8, 2, 2, []), (4, .sipush 166, 7, 0, 0, 0, []), (7, .iload_n 1, 8, 1, 0, 0, []), (8, .imul, 9, 0, 0, 0, []), (9, .iload_n 2, 10, 2, 0, 0, []), (10, .iadd, 11, 0, 0, 0, []), (11, .iload_n 3, 12, 3, 0, 0, []), (12, .iastore, 13, 0, 0, 0, []), (13, .return_, 14, 0, 0, 0, [])]
def ai_c141 : List (Nat × ai_I) := ai_c141_0
-- PenPageModel.readByte(II)I
def ai_c142_0 : List (Nat × ai_I) := [(0, .aload_n 0, 1, 0, 0, 0, []), (1, .getfield 237, 4, 8, 21, 0, []), (4, .ifCond .eq 5, 7, 9, 0, 0, []), (7, .iconst 0, 8, 0, 0, 0, []), (8, .ireturn, 9, 0, 0, 0, []), (9, .aload_n 0, 10, 0, 0, 0, []), (10, .getfield 243, 13, 8, 19, 0, []), (13, .aload_n 0, 14, 0, 0, 0, []), (14, .getfield 246, 17, 8, 20, 0, []), (17, .if_icmp .lt 14, 20, 31, 0, 0, []), (20, .aload_n 0, 21, 0, 0, 0, []), (21, .iconst 1, 22, 0, 0, 0, []), (22, .aload_n 0, 23, 0, 0, 0, []), (23, .getfield 246, 26, 8, 20, 0, []), (26, .invokevirtual 249, 29, 164, 3, 0, [8, 0, 0]), (29, .iconst 0, 30, 0, 0, 0, []), (30, .ireturn, 31, 0, 0, 0, [])]
def ai_c142 : List (Nat × ai_I) := ai_c142_0
-- PenPageModel.readPacket()V
def ai_c143_0 : List (Nat × ai_I) := [(0, .iconst 0, 1, 0, 0, 0, []), (1, .istore_n 1, 2, 1, 0, 0, []), (2, .iload_n 1, 3, 1, 0, 0, []), (3, .sipush 166, 6, 0, 0, 0, []), (6, .if_icmp .ge 18, 9, 24, 0, 0, []), (9, .aload_n 0, 10, 0, 0, 0, []), (10, .sipush 3200, 13, 0, 0, 0, []), (13, .iload_n 1, 14, 1, 0, 0, []), (14, .iconst 0, 15, 0, 0, 0, []), (15, .invokevirtual 181, 18, 141, 4, 0, [8, 0, 0]), (18, .iinc 1 1, 21, 1, 0, 0, []), (21, .goto (-19), 24, 2, 0, 0, []), (24, .aload_n 0, 25, 0, 0, 0, []), (25, .sipush 3200, 28, 0, 0, 0, []), (28, .iconst 0, 29, 0, 0, 0, []), (29, .aload_n 0, 30, 0, 0, 0, []), (30, .iconst 0, 31, 0, 0, 0, []), (31, .iconst 3, 32, 0, 0, 0, []), (32, .invokevirtual 252, 35, 142, 3, 0, [8, 0, 0]), (35, .invokevirtual 181, 38, 141, 4, 0, [8, 0, 0]), (38, .aload_n 0, 39, 0, 0, 0, []), (39, .sipush 3200, 42, 0, 0, 0, []), (42, .iconst 1, 43, 0, 0, 0, []), (43, .aload_n 0, 44, 0, 0, 0, []), (44, .iconst 0, 45, 0, 0, 0, []), (45, .aload_n 0, 46, 0, 0, 0, []), (46, .getfield 7, 49, 8, 1, 0, []), (49, .iconst 1, 50, 0, 0, 0, []), (50, .isub, 51, 0, 0, 0, []), (51, .invokevirtual 252, 54, 142, 3, 0, [8, 0, 0]), (54, .invokevirtual 181, 57, 141, 4, 0, [8, 0, 0]), (57, .aload_n 0, 58, 0, 0, 0, []), (58, .sipush 3200, 61, 0, 0, 0, []), (61, .iconst 2, 62, 0, 0, 0, []), (62, .aload_n 0, 63, 0, 0, 0, []), (63, .iconst 1, 64, 0, 0, 0, []), (64, .bipush 60, 66, 0, 0, 0, []), (66, .invokevirtual 252, 69, 142, 3, 0, [8, 0, 0]), (69, .invokevirtual 181, 72, 141, 4, 0, [8, 0, 0]), (72, .iconst 0, 73, 0, 0, 0, [])]
def ai_c143_1 : List (Nat × ai_I) := [(73, .istore_n 1, 74, 1, 0, 0, []), (74, .iload_n 1, 75, 1, 0, 0, []), (75, .iconst 5, 76, 0, 0, 0, []), (76, .if_icmp .ge 83, 79, 159, 0, 0, []), (79, .aload_n 0, 80, 0, 0, 0, []), (80, .sipush 3200, 83, 0, 0, 0, []), (83, .iconst 2, 84, 0, 0, 0, []), (84, .invokevirtual 130, 87, 137, 3, 0, [8, 0, 0]), (87, .iconst 1, 88, 0, 0, 0, []), (88, .isub, 89, 0, 0, 0, []), (89, .istore_n 2, 90, 2, 0, 0, []), (90, .iload_n 1, 91, 1, 0, 0, []), (91, .aload_n 0, 92, 0, 0, 0, []), (92, .sipush 3200, 95, 0, 0, 0, []), (95, .iconst 1, 96, 0, 0, 0, []), (96, .invokevirtual 130, 99, 137, 3, 0, [8, 0, 0]), (99, .if_icmp .ne 7, 102, 106, 0, 0, []), (102, .iconst 1, 103, 0, 0, 0, []), (103, .goto 4, 106, 107, 0, 0, []), (106, .iconst 0, 107, 0, 0, 0, []), (107, .istore_n 3, 108, 3, 0, 0, []), (108, .aload_n 0, 109, 0, 0, 0, []), (109, .sipush 3200, 112, 0, 0, 0, []), (112, .iconst 3, 113, 0, 0, 0, []), (113, .iload_n 1, 114, 1, 0, 0, []), (114, .iadd, 115, 0, 0, 0, []), (115, .aload_n 0, 116, 0, 0, 0, []), (116, .iload_n 3, 117, 3, 0, 0, []), (117, .ifCond .eq 7, 120, 124, 0, 0, []), (120, .iload_n 2, 121, 2, 0, 0, []), (121, .goto 4, 124, 125, 0, 0, []), (124, .iconst 0, 125, 0, 0, 0, []), (125, .iload_n 3, 126, 3, 0, 0, []), (126, .ifCond .eq 7, 129, 133, 0, 0, []), (129, .iload_n 2, 130, 2, 0, 0, []), (130, .goto 17, 133, 147, 0, 0, []), (133, .iload_n 1, 134, 1, 0, 0, []), (134, .aload_n 0, 135, 0, 0, 0, []), (135, .getfield 7, 138, 8, 1, 0, []), (138, .if_icmp .ge 8, 141, 146, 0, 0, [])]
def ai_c143_2 : List (Nat × ai_I) := [(141, .bipush 60, 143, 0, 0, 0, []), (143, .goto 4, 146, 147, 0, 0, []), (146, .iconst 0, 147, 0, 0, 0, []), (147, .invokevirtual 252, 150, 142, 3, 0, [8, 0, 0]), (150, .invokevirtual 181, 153, 141, 4, 0, [8, 0, 0]), (153, .iinc 1 1, 156, 1, 0, 0, []), (156, .goto (-82), 159, 74, 0, 0, []), (159, .aload_n 0, 160, 0, 0, 0, []), (160, .sipush 3200, 163, 0, 0, 0, []), (163, .bipush 8, 165, 0, 0, 0, []), (165, .aload_n 0, 166, 0, 0, 0, []), (166, .iconst 1, 167, 0, 0, 0, []), (167, .ldc 185, 169, 65535, 0, 0, []), (169, .invokevirtual 255, 172, 144, 3, 0, [8, 0, 0]), (172, .invokevirtual 181, 175, 141, 4, 0, [8, 0, 0]), (175, .aload_n 0, 176, 0, 0, 0, []), (176, .getfield 237, 179, 8, 21, 0, []), (179, .ifCond .eq 4, 182, 183, 0, 0, []), (182, .return_, 183, 0, 0, 0, [])]
def ai_c143 : List (Nat × ai_I) := ai_c143_0 ++ ai_c143_1 ++ ai_c143_2
-- PenPageModel.readTwo(II)I
def ai_c144_0 : List (Nat × ai_I) := [(0, .aload_n 0, 1, 0, 0, 0, []), (1, .getfield 243, 4, 8, 19, 0, []), (4, .istore_n 3, 5, 3, 0, 0, []), (5, .sipush 256, 8, 0, 0, 0, []), (8, .aload_n 0, 9, 0, 0, 0, []), (9, .iconst 0, 10, 0, 0, 0, []), (10, .sipush 255, 13, 0, 0, 0, []), (13, .invokevirtual 252, 16, 142, 3, 0, [8, 0, 0]), (16, .imul, 17, 0, 0, 0, []), (17, .istore 4, 19, 4, 0, 0, []), (19, .iload 4, 21, 4, 0, 0, []), (21, .aload_n 0, 22, 0, 0, 0, []), (22, .iconst 0, 23, 0, 0, 0, []), (23, .sipush 255, 26, 0, 0, 0, []), (26, .invokevirtual 252, 29, 142, 3, 0, [8, 0, 0]), (29, .iadd, 30, 0, 0, 0, []), (30, .istore 4, 32, 4, 0, 0, []), (32, .aload_n 0, 33, 0, 0, 0, []), (33, .getfield 237, 36, 8, 21, 0, []), (36, .ifCond .ne 19, 39, 55, 0, 0, []), (55, .iload 4, 57, 4, 0, 0, []), (57, .ireturn, 58, 0, 0, 0, [])]
def ai_c144 : List (Nat × ai_I) := ai_c144_0
-- PenPageModel.refuse()I
def ai_c145_0 : List (Nat × ai_I) := [(0, .aload_n 0, 1, 0, 0, 0, []), (1, .getfield 24, 4, 8, 5, 2, []), (4, .iconst 0, 5, 0, 0, 0, []), (5, .dup2, 6, 0, 0, 0, []), (6, .iaload, 7, 0, 0, 0, []), (7, .iconst 1, 8, 0, 0, 0, []), (8, .iadd, 9, 0, 0, 0, []), (9, .iastore, 10, 0, 0, 0, []), (10, .iconst (-1), 11, 0, 0, 0, []), (11, .ireturn, 12, 0, 0, 0, [])]
def ai_c145 : List (Nat × ai_I) := ai_c145_0
-- PenPageModel.release(I)V
def ai_c146_0 : List (Nat × ai_I) := [(0, .iconst 1, 1, 0, 0, 0, []), (1, .istore_n 2, 2, 2, 0, 0, []), (2, .iload_n 2, 3, 2, 0, 0, []), (3, .ifCond .eq 158, 6, 161, 0, 0, []), (6, .aload_n 0, 7, 0, 0, 0, []), (7, .getfield 21, 10, 8, 4, 2, []), (10, .iload_n 1, 11, 1, 0, 0, []), (11, .iaload, 12, 0, 0, 0, []), (12, .iconst 1, 13, 0, 0, 0, []), (13, .isub, 14, 0, 0, 0, []), (14, .istore_n 3, 15, 3, 0, 0, []), (15, .iload_n 3, 16, 3, 0, 0, []), (16, .ifCond .lt 45, 19, 61, 0, 0, []), (61, .iconst (-1), 62, 0, 0, 0, []), (62, .istore_n 3, 63, 3, 0, 0, []), (63, .iconst 0, 64, 0, 0, 0, []), (64, .istore 4, 66, 4, 0, 0, []), (66, .iload 4, 68, 4, 0, 0, []), (68, .aload_n 0, 69, 0, 0, 0, []), (69, .getfield 21, 72, 8, 4, 2, []), (72, .iload_n 1, 73, 1, 0, 0, []), (73, .iaload, 74, 0, 0, 0, []), (74, .if_icmp .ge 52, 77, 126, 0, 0, []), (126, .iload_n 3, 127, 3, 0, 0, []), (127, .iconst (-1), 128, 0, 0, 0, []), (128, .if_icmp .eq 7, 131, 135, 0, 0, []), (135, .iconst 0, 136, 0, 0, 0, []), (136, .istore_n 2, 137, 2, 0, 0, []), (137, .iload_n 2, 138, 2, 0, 0, []), (138, .ifCond .eq 20, 141, 158, 0, 0, []), (158, .goto (-156), 161, 2, 0, 0, []), (161, .return_, 162, 0, 0, 0, [])]
def ai_c146 : List (Nat × ai_I) := ai_c146_0
-- PenPageModel.restore()Z
def ai_c147_0 : List (Nat × ai_I) := [(0, .aload_n 0, 1, 0, 0, 0, []), (1, .iconst 0, 2, 0, 0, 0, []), (2, .putfield 85, 5, 8, 0, 0, []), (5, .aload_n 0, 6, 0, 0, 0, []), (6, .getfield 96, 9, 8, 34, 1, []), (9, .ifCond .ne 5, 12, 14, 0, 0, []), (12, .iconst 0, 13, 0, 0, 0, []), (13, .ireturn, 14, 1, 0, 0, [])]
def ai_c147 : List (Nat × ai_I) := ai_c147_0
-- PenPageModel.rowOf(III)I
def ai_c148_0 : List (Nat × ai_I) := [(0, .iconst 5, 1, 0, 0, 0, []), (1, .iload_n 0, 2, 0, 0, 0, []), (2, .imul, 3, 0, 0, 0, []), (3, .iload_n 1, 4, 1, 0, 0, []), (4, .iadd, 5, 0, 0, 0, []), (5, .bipush 60, 7, 0, 0, 0, []), (7, .imul, 8, 0, 0, 0, []), (8, .iload_n 2, 9, 2, 0, 0, []), (9, .iadd, 10, 0, 0, 0, []), (10, .iconst 1, 11, 0, 0, 0, []), (11, .isub, 12, 0, 0, 0, []), (12, .ireturn, 13, 0, 0, 0, [])]
def ai_c148 : List (Nat × ai_I) := ai_c148_0
-- PenPageModel.say(I)I
def ai_c149_0 : List (Nat × ai_I) := [(0, .aload_n 0, 1, 0, 0, 0, []), (1, .iconst 0, 2, 0, 0, 0, []), (2, .putfield 85, 5, 8, 0, 0, []), (5, .aload_n 0, 6, 0, 0, 0, []), (6, .getfield 106, 9, 8, 23, 0, []), (9, .bipush 12, 11, 0, 0, 0, []), (11, .if_icmp .eq 14, 14, 25, 0, 0, []), (14, .iload_n 1, 15, 1, 0, 0, []), (15, .bipush 32, 17, 0, 0, 0, []), (17, .bipush 126, 19, 0, 0, 0, []), (19, .invokestatic 88, 22, 127, 3, 0, []), (22, .ifCond .ne 15, 25, 37, 0, 0, []), (25, .aload_n 0, 26, 0, 0, 0, []), (26, .getfield 24, 29, 8, 5, 2, []), (29, .iconst 2, 30, 0, 0, 0, []), (30, .dup2, 31, 0, 0, 0, []), (31, .iaload, 32, 0, 0, 0, []), (32, .iconst 1, 33, 0, 0, 0, []), (33, .iadd, 34, 0, 0, 0, []), (34, .iastore, 35, 0, 0, 0, []), (35, .iconst (-1), 36, 0, 0, 0, []), (36, .ireturn, 37, 0, 0, 0, []), (37, .aload_n 0, 38, 0, 0, 0, []), (38, .getfield 55, 41, 8, 25, 2, []), (41, .aload_n 0, 42, 0, 0, 0, []), (42, .getfield 106, 45, 8, 23, 0, []), (45, .iload_n 1, 46, 1, 0, 0, []), (46, .iastore, 47, 0, 0, 0, []), (47, .aload_n 0, 48, 0, 0, 0, []), (48, .dup, 49, 0, 0, 0, []), (49, .getfield 106, 52, 8, 23, 0, []), (52, .iconst 1, 53, 0, 0, 0, []), (53, .iadd, 54, 0, 0, 0, []), (54, .putfield 106, 57, 8, 23, 0, []), (57, .aload_n 0, 58, 0, 0, 0, []), (58, .getfield 106, 61, 8, 23, 0, []), (61, .ireturn, 62, 0, 0, 0, [])]
def ai_c149 : List (Nat × ai_I) := ai_c149_0
-- PenPageModel.send(IIII)I
def ai_c150_0 : List (Nat × ai_I) := [(0, .aload_n 0, 1, 0, 0, 0, []), (1, .iconst 0, 2, 0, 0, 0, []), (2, .putfield 85, 5, 8, 0, 0, []), (5, .aload_n 0, 6, 0, 0, 0, []), (6, .iload_n 1, 7, 1, 0, 0, []), (7, .invokevirtual 92, 10, 128, 2, 0, [8, 0, 0]), (10, .ifCond .eq 22, 13, 32, 0, 0, []), (13, .aload_n 0, 14, 0, 0, 0, []), (14, .iload_n 2, 15, 2, 0, 0, []), (15, .invokevirtual 92, 18, 128, 2, 0, [8, 0, 0]), (18, .ifCond .eq 14, 21, 32, 0, 0, []), (21, .aload_n 0, 22, 0, 0, 0, []), (22, .iload_n 1, 23, 1, 0, 0, []), (23, .iload_n 3, 24, 3, 0, 0, []), (24, .iload 4, 26, 4, 0, 0, []), (26, .invokevirtual 113, 29, 124, 4, 0, [8, 0, 0]), (29, .ifCond .ne 9, 32, 38, 0, 0, []), (32, .aload_n 0, 33, 0, 0, 0, []), (33, .iconst 1, 34, 0, 0, 0, []), (34, .invokevirtual 109, 37, 118, 2, 0, [8, 0, 0]), (37, .ireturn, 38, 0, 0, 0, [])]
def ai_c150 : List (Nat × ai_I) := ai_c150_0
-- PenPageModel.set(III)I
def ai_c151_0 : List (Nat × ai_I) := [(0, .aload_n 0, 1, 0, 0, 0, []), (1, .iconst 0, 2, 0, 0, 0, []), (2, .putfield 85, 5, 8, 0, 0, []), (5, .aload_n 0, 6, 0, 0, 0, []), (6, .iload_n 1, 7, 1, 0, 0, []), (7, .invokevirtual 92, 10, 128, 2, 0, [8, 0, 0]), (10, .ifCond .ne 9, 13, 19, 0, 0, []), (13, .aload_n 0, 14, 0, 0, 0, []), (14, .iconst 1, 15, 0, 0, 0, []), (15, .invokevirtual 109, 18, 118, 2, 0, [8, 0, 0]), (18, .ireturn, 19, 0, 0, 0, []), (19, .aload_n 0, 20, 0, 0, 0, []), (20, .iload_n 1, 21, 1, 0, 0, []), (21, .invokevirtual 172, 24, 157, 2, 0, [8, 0, 0]), (24, .iload_n 2, 25, 2, 0, 0, []), (25, .iconst 0, 26, 0, 0, 0, []), (26, .aload_n 0, 27, 0, 0, 0, []), (27, .getfield 143, 30, 8, 13, 0, []), (30, .invokestatic 88, 33, 127, 3, 0, []), (33, .ifCond .eq 23, 36, 56, 0, 0, []), (36, .iload_n 3, 37, 3, 0, 0, []), (37, .bipush 32, 39, 0, 0, 0, []), (39, .bipush 126, 41, 0, 0, 0, []), (41, .invokestatic 88, 44, 127, 3, 0, []), (44, .ifCond .eq 12, 47, 56, 0, 0, []), (47, .aload_n 0, 48, 0, 0, 0, []), (48, .iload_n 1, 49, 1, 0, 0, []), (49, .iconst 0, 50, 0, 0, 0, []), (50, .invokevirtual 201, 53, 113, 3, 0, [8, 0, 0]), (53, .ifCond .ne 8, 56, 61, 0, 0, []), (56, .aload_n 0, 57, 0, 0, 0, []), (57, .invokevirtual 204, 60, 145, 1, 0, [8, 0, 0]), (60, .ireturn, 61, 0, 0, 0, []), (61, .aload_n 0, 62, 0, 0, 0, []), (62, .sipush 3200, 65, 0, 0, 0, []), (65, .bipush 9, 67, 0, 0, 0, []), (67, .iload_n 3, 68, 3, 0, 0, []), (68, .invokevirtual 181, 71, 141, 4, 0, [8, 0, 0]), (71, .aload_n 0, 72, 0, 0, 0, []), (72, .aload_n 0, 73, 0, 0, 0, [])]
def ai_c151_1 : List (Nat × ai_I) := [(73, .iload_n 2, 74, 2, 0, 0, []), (74, .invokevirtual 198, 77, 129, 2, 0, [8, 0, 0]), (77, .aload_n 0, 78, 0, 0, 0, []), (78, .iload_n 2, 79, 2, 0, 0, []), (79, .invokevirtual 208, 82, 130, 2, 0, [8, 0, 0]), (82, .iload_n 1, 83, 1, 0, 0, []), (83, .ldc 211, 85, 531210, 0, 0, []), (85, .invokevirtual 212, 88, 136, 5, 0, [8, 0, 0]), (88, .istore 4, 90, 4, 0, 0, []), (90, .iload 4, 92, 4, 0, 0, []), (92, .ifCond .eq 11, 95, 103, 0, 0, []), (95, .aload_n 0, 96, 0, 0, 0, []), (96, .iload_n 1, 97, 1, 0, 0, []), (97, .invokevirtual 215, 100, 117, 2, 0, [8, 0, 0]), (100, .goto 7, 103, 107, 0, 0, []), (107, .ireturn, 108, 0, 0, 0, [])]
def ai_c151 : List (Nat × ai_I) := ai_c151_0 ++ ai_c151_1
-- PenPageModel.setNamed(II)I
def ai_c152_0 : List (Nat × ai_I) := [(0, .aload_n 0, 1, 0, 0, 0, []), (1, .iload_n 1, 2, 1, 0, 0, []), (2, .iload_n 2, 3, 2, 0, 0, []), (3, .invokevirtual 124, 6, 135, 3, 0, [8, 0, 0]), (6, .istore_n 3, 7, 3, 0, 0, []), (7, .iload_n 3, 8, 3, 0, 0, []), (8, .iconst (-1), 9, 0, 0, 0, []), (9, .if_icmp .eq 21, 12, 30, 0, 0, []), (30, .iconst (-1), 31, 0, 0, 0, []), (31, .ireturn, 32, 0, 0, 0, [])]
def ai_c152 : List (Nat × ai_I) := ai_c152_0
-- PenPageModel.step(IIII)I
def ai_c153_0 : List (Nat × ai_I) := [(0, .aload_n 0, 1, 0, 0, 0, []), (1, .iconst 0, 2, 0, 0, 0, []), (2, .putfield 85, 5, 8, 0, 0, []), (5, .aload_n 0, 6, 0, 0, 0, []), (6, .iload_n 1, 7, 1, 0, 0, []), (7, .invokevirtual 92, 10, 128, 2, 0, [8, 0, 0]), (10, .ifCond .eq 23, 13, 33, 0, 0, []), (13, .aload_n 0, 14, 0, 0, 0, []), (14, .iload_n 1, 15, 1, 0, 0, []), (15, .iload_n 2, 16, 2, 0, 0, []), (16, .iload_n 3, 17, 3, 0, 0, []), (17, .invokevirtual 113, 20, 124, 4, 0, [8, 0, 0]), (20, .ifCond .eq 13, 23, 33, 0, 0, []), (33, .aload_n 0, 34, 0, 0, 0, []), (34, .iconst 1, 35, 0, 0, 0, []), (35, .invokevirtual 109, 38, 118, 2, 0, [8, 0, 0]), (38, .ireturn, 39, 0, 0, 0, [])]
def ai_c153 : List (Nat × ai_I) := ai_c153_0
-- PenPageModel.story(I)I
def ai_c154_0 : List (Nat × ai_I) := [(0, .aload_n 0, 1, 0, 0, 0, []), (1, .iconst 0, 2, 0, 0, 0, []), (2, .putfield 85, 5, 8, 0, 0, []), (5, .aload_n 0, 6, 0, 0, 0, []), (6, .iconst 0, 7, 0, 0, 0, []), (7, .putfield 300, 10, 8, 32, 0, []), (10, .aload_n 0, 11, 0, 0, 0, []), (11, .iconst 0, 12, 0, 0, 0, []), (12, .putfield 297, 15, 8, 33, 0, []), (15, .aload_n 0, 16, 0, 0, 0, []), (16, .iconst 0, 17, 0, 0, 0, []), (17, .invokevirtual 309, 20, 138, 2, 0, [8, 0, 0]), (20, .iload_n 1, 21, 1, 0, 0, []), (21, .bipush 10, 23, 0, 0, 0, []), (23, .if_icmp .lt 39, 26, 62, 0, 0, []), (26, .aload_n 0, 27, 0, 0, 0, []), (27, .getfield 300, 30, 8, 32, 0, []), (30, .ifCond .le 26, 33, 56, 0, 0, []), (33, .iload_n 1, 34, 1, 0, 0, []), (34, .bipush 10, 36, 0, 0, 0, []), (36, .isub, 37, 0, 0, 0, []), (37, .aload_n 0, 38, 0, 0, 0, []), (38, .getfield 103, 41, 8, 24, 0, []), (41, .if_icmp .ge 15, 44, 56, 0, 0, []), (56, .aload_n 0, 57, 0, 0, 0, []), (57, .iconst 1, 58, 0, 0, 0, []), (58, .invokevirtual 109, 61, 118, 2, 0, [8, 0, 0]), (61, .ireturn, 62, 0, 0, 0, []), (62, .iload_n 1, 63, 1, 0, 0, []), (63, .ifCond .ne 10, 66, 73, 0, 0, []), (66, .aload_n 0, 67, 0, 0, 0, []), (67, .getfield 300, 70, 8, 32, 0, []), (70, .goto 20, 73, 90, 0, 0, []), (73, .iload_n 1, 74, 1, 0, 0, []), (74, .iconst 1, 75, 0, 0, 0, []), (75, .if_icmp .ne 10, 78, 85, 0, 0, []), (78, .aload_n 0, 79, 0, 0, 0, []), (79, .getfield 297, 82, 8, 33, 0, []), (82, .goto 8, 85, 90, 0, 0, []), (85, .aload_n 0, 86, 0, 0, 0, [])]
def ai_c154_1 : List (Nat × ai_I) := [(86, .iconst 1, 87, 0, 0, 0, []), (87, .invokevirtual 109, 90, 118, 2, 0, [8, 0, 0]), (90, .ireturn, 91, 0, 0, 0, [])]
def ai_c154 : List (Nat × ai_I) := ai_c154_0 ++ ai_c154_1
-- PenPageModel.strike(II)I
def ai_c155_0 : List (Nat × ai_I) := [(0, .aload_n 0, 1, 0, 0, 0, []), (1, .iconst 0, 2, 0, 0, 0, []), (2, .putfield 85, 5, 8, 0, 0, []), (5, .aload_n 0, 6, 0, 0, 0, []), (6, .iload_n 1, 7, 1, 0, 0, []), (7, .invokevirtual 92, 10, 128, 2, 0, [8, 0, 0]), (10, .ifCond .ne 9, 13, 19, 0, 0, []), (13, .aload_n 0, 14, 0, 0, 0, []), (14, .iconst 1, 15, 0, 0, 0, []), (15, .invokevirtual 109, 18, 118, 2, 0, [8, 0, 0]), (18, .ireturn, 19, 0, 0, 0, []), (19, .aload_n 0, 20, 0, 0, 0, []), (20, .iload_n 1, 21, 1, 0, 0, []), (21, .invokevirtual 172, 24, 157, 2, 0, [8, 0, 0]), (24, .iload_n 2, 25, 2, 0, 0, []), (25, .iconst 0, 26, 0, 0, 0, []), (26, .aload_n 0, 27, 0, 0, 0, []), (27, .getfield 143, 30, 8, 13, 0, []), (30, .iconst 1, 31, 0, 0, 0, []), (31, .isub, 32, 0, 0, 0, []), (32, .invokestatic 88, 35, 127, 3, 0, []), (35, .ifCond .eq 12, 38, 47, 0, 0, []), (47, .aload_n 0, 48, 0, 0, 0, []), (48, .invokevirtual 204, 51, 145, 1, 0, [8, 0, 0]), (51, .ireturn, 52, 0, 0, 0, [])]
def ai_c155 : List (Nat × ai_I) := ai_c155_0
-- PenPageModel.tellHolds(I)V
def ai_c156_0 : List (Nat × ai_I) := [(0, .iconst 0, 1, 0, 0, 0, []), (1, .istore_n 2, 2, 2, 0, 0, []), (2, .iload_n 2, 3, 2, 0, 0, []), (3, .aload_n 0, 4, 0, 0, 0, []), (4, .getfield 7, 7, 8, 1, 0, []), (7, .if_icmp .ge 114, 10, 121, 0, 0, []), (10, .aload_n 0, 11, 0, 0, 0, []), (11, .getfield 18, 14, 8, 3, 2, []), (14, .iconst 5, 15, 0, 0, 0, []), (15, .iload_n 1, 16, 1, 0, 0, []), (16, .imul, 17, 0, 0, 0, []), (17, .iload_n 2, 18, 2, 0, 0, []), (18, .iadd, 19, 0, 0, 0, []), (19, .iaload, 20, 0, 0, 0, []), (20, .istore_n 3, 21, 3, 0, 0, []), (21, .iload_n 3, 22, 3, 0, 0, []), (22, .iconst 1, 23, 0, 0, 0, []), (23, .if_icmp .lt 20, 26, 43, 0, 0, []), (43, .aload_n 0, 44, 0, 0, 0, []), (44, .getfield 18, 47, 8, 3, 2, []), (47, .iconst 5, 48, 0, 0, 0, []), (48, .iload_n 1, 49, 1, 0, 0, []), (49, .imul, 50, 0, 0, 0, []), (50, .iload_n 2, 51, 2, 0, 0, []), (51, .iadd, 52, 0, 0, 0, []), (52, .iaload, 53, 0, 0, 0, []), (53, .istore_n 3, 54, 3, 0, 0, []), (54, .iload_n 3, 55, 3, 0, 0, []), (55, .iconst 1, 56, 0, 0, 0, []), (56, .if_icmp .lt 59, 59, 115, 0, 0, []), (115, .iinc 2 1, 118, 2, 0, 0, []), (118, .goto (-116), 121, 2, 0, 0, []), (121, .return_, 122, 0, 0, 0, [])]
def ai_c156 : List (Nat × ai_I) := ai_c156_0
-- PenPageModel.tellPage(I)V
def ai_c157_0 : List (Nat × ai_I) := [(0, .aload_n 0, 1, 0, 0, 0, []), (1, .iload_n 1, 2, 1, 0, 0, []), (2, .invokevirtual 136, 5, 156, 2, 0, [8, 0, 0]), (5, .aload_n 0, 6, 0, 0, 0, []), (6, .iconst 0, 7, 0, 0, 0, []), (7, .putfield 140, 10, 8, 12, 0, []), (10, .aload_n 0, 11, 0, 0, 0, []), (11, .iconst 0, 12, 0, 0, 0, []), (12, .putfield 143, 15, 8, 13, 0, []), (15, .iconst 0, 16, 0, 0, 0, []), (16, .istore_n 2, 17, 2, 0, 0, []), (17, .iload_n 2, 18, 2, 0, 0, []), (18, .sipush 300, 21, 0, 0, 0, []), (21, .if_icmp .ge 23, 24, 44, 0, 0, []), (24, .aload_n 0, 25, 0, 0, 0, []), (25, .getfield 31, 28, 8, 7, 2, []), (28, .iload_n 2, 29, 2, 0, 0, []), (29, .iconst 0, 30, 0, 0, 0, []), (30, .bastore, 31, 0, 0, 0, []), (31, .aload_n 0, 32, 0, 0, 0, []), (32, .getfield 37, 35, 8, 9, 2, []), (35, .iload_n 2, 36, 2, 0, 0, []), (36, .iconst 0, 37, 0, 0, 0, []), (37, .iastore, 38, 0, 0, 0, []), (38, .iinc 2 1, 41, 2, 0, 0, []), (41, .goto (-24), 44, 17, 0, 0, []), (44, .iconst 0, 45, 0, 0, 0, []), (45, .istore_n 2, 46, 2, 0, 0, []), (46, .iload_n 2, 47, 2, 0, 0, []), (47, .aload_n 0, 48, 0, 0, 0, []), (48, .getfield 7, 51, 8, 1, 0, []), (51, .if_icmp .ge 54, 54, 105, 0, 0, []), (54, .iconst 1, 55, 0, 0, 0, []), (55, .istore_n 3, 56, 3, 0, 0, []), (56, .iload_n 3, 57, 3, 0, 0, []), (57, .aload_n 0, 58, 0, 0, 0, []), (58, .getfield 18, 61, 8, 3, 2, []), (61, .iconst 5, 62, 0, 0, 0, []), (62, .iload_n 1, 63, 1, 0, 0, []), (63, .imul, 64, 0, 0, 0, [])]
def ai_c157_1 : List (Nat × ai_I) := [(64, .iload_n 2, 65, 2, 0, 0, []), (65, .iadd, 66, 0, 0, 0, []), (66, .iaload, 67, 0, 0, 0, []), (67, .if_icmp .gt 32, 70, 99, 0, 0, []), (99, .iinc 2 1, 102, 2, 0, 0, []), (102, .goto (-56), 105, 46, 0, 0, []), (105, .iconst 0, 106, 0, 0, 0, []), (106, .istore_n 2, 107, 2, 0, 0, []), (107, .iload_n 2, 108, 2, 0, 0, []), (108, .aload_n 0, 109, 0, 0, 0, []), (109, .getfield 7, 112, 8, 1, 0, []), (112, .if_icmp .ge 120, 115, 232, 0, 0, []), (115, .iconst 1, 116, 0, 0, 0, []), (116, .istore_n 3, 117, 3, 0, 0, []), (117, .iload_n 3, 118, 3, 0, 0, []), (118, .aload_n 0, 119, 0, 0, 0, []), (119, .getfield 18, 122, 8, 3, 2, []), (122, .iconst 5, 123, 0, 0, 0, []), (123, .iload_n 1, 124, 1, 0, 0, []), (124, .imul, 125, 0, 0, 0, []), (125, .iload_n 2, 126, 2, 0, 0, []), (126, .iadd, 127, 0, 0, 0, []), (127, .iaload, 128, 0, 0, 0, []), (128, .if_icmp .gt 98, 131, 226, 0, 0, []), (226, .iinc 2 1, 229, 2, 0, 0, []), (229, .goto (-122), 232, 107, 0, 0, []), (232, .iconst 0, 233, 0, 0, 0, []), (233, .istore_n 2, 234, 2, 0, 0, []), (234, .iload_n 2, 235, 2, 0, 0, []), (235, .aload_n 0, 236, 0, 0, 0, []), (236, .getfield 7, 239, 8, 1, 0, []), (239, .if_icmp .ge 54, 242, 293, 0, 0, []), (242, .iconst 1, 243, 0, 0, 0, []), (243, .istore_n 3, 244, 3, 0, 0, []), (244, .iload_n 3, 245, 3, 0, 0, []), (245, .aload_n 0, 246, 0, 0, 0, []), (246, .getfield 18, 249, 8, 3, 2, []), (249, .iconst 5, 250, 0, 0, 0, []), (250, .iload_n 1, 251, 1, 0, 0, []), (251, .imul, 252, 0, 0, 0, [])]
def ai_c157_2 : List (Nat × ai_I) := [(252, .iload_n 2, 253, 2, 0, 0, []), (253, .iadd, 254, 0, 0, 0, []), (254, .iaload, 255, 0, 0, 0, []), (255, .if_icmp .gt 32, 258, 287, 0, 0, []), (287, .iinc 2 1, 290, 2, 0, 0, []), (290, .goto (-56), 293, 234, 0, 0, []), (293, .iconst 0, 294, 0, 0, 0, []), (294, .istore_n 2, 295, 2, 0, 0, []), (295, .iload_n 2, 296, 2, 0, 0, []), (296, .aload_n 0, 297, 0, 0, 0, []), (297, .getfield 140, 300, 8, 12, 0, []), (300, .if_icmp .ge 65, 303, 365, 0, 0, []), (365, .return_, 366, 0, 0, 0, [])]
def ai_c157 : List (Nat × ai_I) := ai_c157_0 ++ ai_c157_1 ++ ai_c157_2
-- PenPageModel.text(III)I
def ai_c158_0 : List (Nat × ai_I) := [(0, .aload_n 0, 1, 0, 0, 0, []), (1, .iconst 0, 2, 0, 0, 0, []), (2, .putfield 85, 5, 8, 0, 0, []), (5, .aload_n 0, 6, 0, 0, 0, []), (6, .iload_n 1, 7, 1, 0, 0, []), (7, .invokevirtual 92, 10, 128, 2, 0, [8, 0, 0]), (10, .ifCond .ne 9, 13, 19, 0, 0, []), (13, .aload_n 0, 14, 0, 0, 0, []), (14, .iconst 1, 15, 0, 0, 0, []), (15, .invokevirtual 109, 18, 118, 2, 0, [8, 0, 0]), (18, .ireturn, 19, 0, 0, 0, []), (19, .aload_n 0, 20, 0, 0, 0, []), (20, .iload_n 1, 21, 1, 0, 0, []), (21, .invokevirtual 172, 24, 157, 2, 0, [8, 0, 0]), (24, .iload_n 2, 25, 2, 0, 0, []), (25, .iconst 0, 26, 0, 0, 0, []), (26, .aload_n 0, 27, 0, 0, 0, []), (27, .getfield 143, 30, 8, 13, 0, []), (30, .iconst 1, 31, 0, 0, 0, []), (31, .isub, 32, 0, 0, 0, []), (32, .invokestatic 88, 35, 127, 3, 0, []), (35, .ifCond .ne 9, 38, 44, 0, 0, []), (38, .aload_n 0, 39, 0, 0, 0, []), (39, .iconst 1, 40, 0, 0, 0, []), (40, .invokevirtual 109, 43, 118, 2, 0, [8, 0, 0]), (43, .ireturn, 44, 0, 0, 0, [])]
def ai_c158 : List (Nat × ai_I) := ai_c158_0
-- PenPageModel.thrown()I
def ai_c159_0 : List (Nat × ai_I) := [(0, .aload_n 0, 1, 0, 0, 0, []), (1, .getfield 85, 4, 8, 0, 0, []), (4, .ireturn, 5, 0, 0, 0, [])]
def ai_c159 : List (Nat × ai_I) := ai_c159_0
-- PenPageModel.undo(II)I
def ai_c160_0 : List (Nat × ai_I) := [(0, .aload_n 0, 1, 0, 0, 0, []), (1, .iconst 0, 2, 0, 0, 0, []), (2, .putfield 85, 5, 8, 0, 0, []), (5, .aload_n 0, 6, 0, 0, 0, []), (6, .iload_n 1, 7, 1, 0, 0, []), (7, .invokevirtual 92, 10, 128, 2, 0, [8, 0, 0]), (10, .ifCond .ne 9, 13, 19, 0, 0, []), (13, .aload_n 0, 14, 0, 0, 0, []), (14, .iconst 1, 15, 0, 0, 0, []), (15, .invokevirtual 109, 18, 118, 2, 0, [8, 0, 0]), (18, .ireturn, 19, 0, 0, 0, []), (19, .aload_n 0, 20, 0, 0, 0, []), (20, .iload_n 1, 21, 1, 0, 0, []), (21, .invokevirtual 172, 24, 157, 2, 0, [8, 0, 0]), (24, .aload_n 0, 25, 0, 0, 0, []), (25, .iload_n 1, 26, 1, 0, 0, []), (26, .iload_n 2, 27, 2, 0, 0, []), (27, .invokevirtual 218, 30, 133, 3, 0, [8, 0, 0]), (30, .ifCond .eq 12, 33, 42, 0, 0, []), (42, .aload_n 0, 43, 0, 0, 0, []), (43, .invokevirtual 204, 46, 145, 1, 0, [8, 0, 0]), (46, .ireturn, 47, 0, 0, 0, [])]
def ai_c160 : List (Nat × ai_I) := ai_c160_0
-- PenPageModel.whose(II)I
def ai_c161_0 : List (Nat × ai_I) := [(0, .aload_n 0, 1, 0, 0, 0, []), (1, .iconst 0, 2, 0, 0, 0, []), (2, .putfield 85, 5, 8, 0, 0, []), (5, .aload_n 0, 6, 0, 0, 0, []), (6, .iload_n 1, 7, 1, 0, 0, []), (7, .invokevirtual 92, 10, 128, 2, 0, [8, 0, 0]), (10, .ifCond .eq 11, 13, 21, 0, 0, []), (13, .aload_n 0, 14, 0, 0, 0, []), (14, .iload_n 2, 15, 2, 0, 0, []), (15, .invokevirtual 92, 18, 128, 2, 0, [8, 0, 0]), (18, .ifCond .ne 9, 21, 27, 0, 0, []), (21, .aload_n 0, 22, 0, 0, 0, []), (22, .iconst 1, 23, 0, 0, 0, []), (23, .invokevirtual 109, 26, 118, 2, 0, [8, 0, 0]), (26, .ireturn, 27, 0, 0, 0, []), (27, .aload_n 0, 28, 0, 0, 0, []), (28, .iload_n 1, 29, 1, 0, 0, []), (29, .invokevirtual 172, 32, 157, 2, 0, [8, 0, 0]), (32, .iconst 0, 33, 0, 0, 0, []), (33, .istore_n 3, 34, 3, 0, 0, []), (34, .iconst 0, 35, 0, 0, 0, []), (35, .istore 4, 37, 4, 0, 0, []), (37, .iload 4, 39, 4, 0, 0, []), (39, .aload_n 0, 40, 0, 0, 0, []), (40, .getfield 143, 43, 8, 13, 0, []), (43, .if_icmp .ge 31, 46, 74, 0, 0, []), (74, .iload_n 3, 75, 3, 0, 0, []), (75, .ireturn, 76, 0, 0, 0, [])]
def ai_c161 : List (Nat × ai_I) := ai_c161_0
-- PenPageModel.write(I)I
def ai_c162_0 : List (Nat × ai_I) := [(0, .iconst 0, 1, 0, 0, 0, []), (1, .istore_n 2, 2, 2, 0, 0, []), (2, .iconst 0, 3, 0, 0, 0, []), (3, .istore_n 3, 4, 3, 0, 0, []), (4, .iconst 0, 5, 0, 0, 0, []), (5, .istore 4, 7, 4, 0, 0, []), (7, .iload 4, 9, 4, 0, 0, []), (9, .iload_n 1, 10, 1, 0, 0, []), (10, .if_icmp .ge 189, 13, 199, 0, 0, []), (199, .iload_n 2, 200, 2, 0, 0, []), (200, .ireturn, 201, 0, 0, 0, [])]
def ai_c162 : List (Nat × ai_I) := ai_c162_0
-- PenPageModel.writers(I)V
def ai_c163_0 : List (Nat × ai_I) := [(0, .aload_n 0, 1, 0, 0, 0, []), (1, .iconst 0, 2, 0, 0, 0, []), (2, .putfield 85, 5, 8, 0, 0, []), (5, .iload_n 1, 6, 1, 0, 0, []), (6, .iconst 1, 7, 0, 0, 0, []), (7, .iconst 5, 8, 0, 0, 0, []), (8, .invokestatic 88, 11, 127, 3, 0, []), (11, .ifCond .ne 9, 14, 20, 0, 0, []), (14, .aload_n 0, 15, 0, 0, 0, []), (15, .iconst 1, 16, 0, 0, 0, []), (16, .putfield 85, 19, 8, 0, 0, []), (19, .return_, 20, 0, 0, 0, []), (20, .aload_n 0, 21, 0, 0, 0, []), (21, .iload_n 1, 22, 1, 0, 0, []), (22, .putfield 7, 25, 8, 1, 0, []), (25, .iconst 0, 26, 0, 0, 0, []), (26, .istore_n 2, 27, 2, 0, 0, []), (27, .iload_n 2, 28, 2, 0, 0, []), (28, .bipush 25, 30, 0, 0, 0, []), (30, .if_icmp .ge 16, 33, 46, 0, 0, []), (33, .aload_n 0, 34, 0, 0, 0, []), (34, .getfield 18, 37, 8, 3, 2, []), (37, .iload_n 2, 38, 2, 0, 0, []), (38, .iconst 0, 39, 0, 0, 0, []), (39, .iastore, 40, 0, 0, 0, []), (40, .iinc 2 1, 43, 2, 0, 0, []), (43, .goto (-16), 46, 27, 0, 0, []), (46, .iconst 0, 47, 0, 0, 0, []), (47, .istore_n 2, 48, 2, 0, 0, []), (48, .iload_n 2, 49, 2, 0, 0, []), (49, .iconst 5, 50, 0, 0, 0, []), (50, .if_icmp .ge 16, 53, 66, 0, 0, []), (53, .aload_n 0, 54, 0, 0, 0, []), (54, .getfield 21, 57, 8, 4, 2, []), (57, .iload_n 2, 58, 2, 0, 0, []), (58, .iconst 0, 59, 0, 0, 0, []), (59, .iastore, 60, 0, 0, 0, []), (60, .iinc 2 1, 63, 2, 0, 0, []), (63, .goto (-15), 66, 48, 0, 0, []), (66, .aload_n 0, 67, 0, 0, 0, [])]
def ai_c163_1 : List (Nat × ai_I) := [(67, .iconst 0, 68, 0, 0, 0, []), (68, .putfield 96, 71, 8, 34, 1, []), (71, .return_, 72, 0, 0, 0, [])]
def ai_c163 : List (Nat × ai_I) := ai_c163_0 ++ ai_c163_1
-- PenPageModel.wrong(II)V
def ai_c164_0 : List (Nat × ai_I) := [(0, .aload_n 0, 1, 0, 0, 0, []), (1, .getfield 237, 4, 8, 21, 0, []), (4, .ifCond .eq 4, 7, 8, 0, 0, []), (8, .aload_n 0, 9, 0, 0, 0, []), (9, .iload_n 1, 10, 1, 0, 0, []), (10, .putfield 237, 13, 8, 21, 0, []), (13, .aload_n 0, 14, 0, 0, 0, []), (14, .iload_n 2, 15, 2, 0, 0, []), (15, .putfield 240, 18, 8, 22, 0, []), (18, .return_, 19, 0, 0, 0, [])]
def ai_c164 : List (Nat × ai_I) := ai_c164_0
-- java/util/Arrays.copyOf([II)[I
def ai_c165_0 : List (Nat × ai_I) := [(0, .iload_n 1, 1, 1, 0, 0, []), (1, .aload_n 0, 2, 0, 0, 0, []), (2, .arraylength, 3, 0, 0, 0, []), (3, .if_icmp .ne 11, 6, 14, 0, 0, []), (14, .iload_n 1, 15, 1, 0, 0, []), (15, .newarray .int, 17, 1, 0, 0, []), (17, .astore_n 2, 18, 2, 0, 0, []), (18, .aload_n 0, 19, 0, 0, 0, []), (19, .iconst 0, 20, 0, 0, 0, []), (20, .aload_n 2, 21, 2, 0, 0, []), (21, .iconst 0, 22, 0, 0, 0, []), (22, .aload_n 0, 23, 0, 0, 0, []), (23, .arraylength, 24, 0, 0, 0, []), (24, .iload_n 1, 25, 1, 0, 0, []), (25, .invokestatic 304, 28, 0, 2, 9, []), (28, .invokestatic 150, 31, 0, 5, 6, []), (31, .aload_n 2, 32, 2, 0, 0, []), (32, .areturn, 33, 0, 0, 0, [])]
def ai_c165 : List (Nat × ai_I) := ai_c165_0
-- java/util/Arrays.fill([II)V
def ai_c166_0 : List (Nat × ai_I) := [(0, .iconst 0, 1, 0, 0, 0, []), (1, .istore_n 2, 2, 2, 0, 0, []), (2, .aload_n 0, 3, 0, 0, 0, []), (3, .arraylength, 4, 0, 0, 0, []), (4, .istore_n 3, 5, 3, 0, 0, []), (5, .iload_n 2, 6, 2, 0, 0, []), (6, .iload_n 3, 7, 3, 0, 0, []), (7, .if_icmp .ge 13, 10, 20, 0, 0, []), (10, .aload_n 0, 11, 0, 0, 0, []), (11, .iload_n 2, 12, 2, 0, 0, []), (12, .iload_n 1, 13, 1, 0, 0, []), (13, .iastore, 14, 0, 0, 0, []), (14, .iinc 2 1, 17, 2, 0, 0, []), (17, .goto (-12), 20, 5, 0, 0, []), (20, .return_, 21, 0, 0, 0, [])]
def ai_c166 : List (Nat × ai_I) := ai_c166_0
-- PenPageModel.copyAll(II)V
def ai_c167_0 : List (Nat × ai_I) := [(0, .iconst 0, 1, 0, 0, 0, []), (1, .istore_n 3, 2, 3, 0, 0, []), (2, .iload_n 3, 3, 3, 0, 0, []), (3, .sipush 1600, 6, 0, 0, 0, []), (6, .if_icmp .ge 19, 9, 25, 0, 0, []), (9, .aload_n 0, 10, 0, 0, 0, []), (10, .iload_n 1, 11, 1, 0, 0, []), (11, .iload_n 3, 12, 3, 0, 0, []), (12, .iadd, 13, 0, 0, 0, []), (13, .iload_n 2, 14, 2, 0, 0, []), (14, .iload_n 3, 15, 3, 0, 0, []), (15, .iadd, 16, 0, 0, 0, []), (16, .invokevirtual 192, 19, 115, 3, 0, [8, 0, 0]), (19, .iinc 3 1, 22, 3, 0, 0, []), (22, .goto (-20), 25, 2, 0, 0, []), (25, .return_, 26, 0, 0, 0, [])]
def ai_c167 : List (Nat × ai_I) := ai_c167_0
def ai_jca : Nat := 115
def ai_m0 : ai_M := (⟨"PenPageLaw", "law", "([I)Z"⟩, code, 7, (some .boolean), 9, [], ai_c0)
def ai_m1 : ai_M := (⟨"PenPage", "<init>", "()V"⟩, prog_1_method_1_code, 2, none, 7, [], ai_c1)
def ai_m2 : ai_M := (⟨"PenPage", "act", "(III)I"⟩, prog_1_method_22_code, 5, (some .int), 7, [], ai_c2)
def ai_m3 : ai_M := (⟨"PenPage", "alike", "(II)Z"⟩, prog_1_method_18_code, 5, (some .boolean), 7, [], ai_c3)
def ai_m4 : ai_M := (⟨"PenPage", "canMove", "(IIII)Z"⟩, prog_1_method_35_code, 4, (some .boolean), 7, [], ai_c4)
def ai_m5 : ai_M := (⟨"PenPage", "clear", "()V"⟩, prog_1_method_23_code, 1, none, 7, [], ai_c5)
def ai_m6 : ai_M := (⟨"PenPage", "count", "(I)I"⟩, prog_1_method_3_code, 2, (some .int), 7, [], ai_c6)
def ai_m7 : ai_M := (⟨"PenPage", "countLacks", "(LPenPage$Page;LPenPage$Page;)I"⟩, prog_1_method_41_code, 4, (some .int), 7, [], ai_c7)
def ai_m8 : ai_M := (⟨"PenPage", "fault", "()I"⟩, prog_1_method_14_code, 1, (some .int), 7, [], ai_c8)
def ai_m9 : ai_M := (⟨"PenPage", "feed", "(IIIII)I"⟩, prog_1_method_12_code, 6, (some .int), 7, [], ai_c9)
def ai_m10 : ai_M := (⟨"PenPage", "feedFour", "(I)V"⟩, prog_1_method_37_code, 3, none, 7, [], ai_c10)
def ai_m11 : ai_M := (⟨"PenPage", "fewest", "(II)I"⟩, prog_1_method_17_code, 5, (some .int), 7, [], ai_c11)
def ai_m12 : ai_M := (⟨"PenPage", "findLack", "(LPenPage$Page;LPenPage$Page;I)I"⟩, prog_1_method_42_code, 5, (some .int), 7, [], ai_c12)
def ai_m13 : ai_M := (⟨"PenPage", "gone", "(II)Z"⟩, prog_1_method_20_code, 5, (some .boolean), 7, [], ai_c13)
def ai_m14 : ai_M := (⟨"PenPage", "hear", "(II)I"⟩, prog_1_method_13_code, 6, (some .int), 7, [], ai_c14)
def ai_m15 : ai_M := (⟨"PenPage", "image", "()V"⟩, prog_1_method_25_code, 2, none, 7, [], ai_c15)
def ai_m16 : ai_M := (⟨"PenPage", "isLack", "(LPenPage$Page;LPenPage$Page;I)Z"⟩, prog_1_method_43_code, 5, (some .boolean), 7, [], ai_c16)
def ai_m17 : ai_M := (⟨"PenPage", "isSign", "(I)Z"⟩, prog_1_method_38_code, 1, (some .boolean), 7, [], ai_c17)
def ai_m18 : ai_M := (⟨"PenPage", "lacks", "(III)I"⟩, prog_1_method_16_code, 7, (some .int), 7, [], ai_c18)
def ai_m19 : ai_M := (⟨"PenPage", "move", "(IIII)I"⟩, prog_1_method_10_code, 8, (some .int), 7, [], ai_c19)
def ai_m20 : ai_M := (⟨"PenPage", "packet", "(IIII)I"⟩, prog_1_method_11_code, 6, (some .int), 7, [], ai_c20)
def ai_m21 : ai_M := (⟨"PenPage", "page", "(II)I"⟩, prog_1_method_4_code, 4, (some .int), 7, [], ai_c21)
def ai_m22 : ai_M := (⟨"PenPage", "pageAt", "(I)LPenPage$Page;"⟩, prog_1_method_27_code, 2, (some (.object "PenPage$Page")), 7, [], ai_c22)
def ai_m23 : ai_M := (⟨"PenPage", "perform", "(LPenPage$Page;)I"⟩, prog_1_method_36_code, 3, (some .int), 7, [], ai_c23)
def ai_m24 : ai_M := (⟨"PenPage", "refuse", "(I)I"⟩, prog_1_method_32_code, 2, (some .int), 7, [], ai_c24)
def ai_m25 : ai_M := (⟨"PenPage", "refuseHeard", "(II)I"⟩, prog_1_method_33_code, 3, (some .int), 7, [], ai_c25)
def ai_m26 : ai_M := (⟨"PenPage", "restore", "()Z"⟩, prog_1_method_26_code, 2, (some .boolean), 7, [], ai_c26)
def ai_m27 : ai_M := (⟨"PenPage", "say", "(I)I"⟩, prog_1_method_21_code, 2, (some .int), 7, [], ai_c27)
def ai_m28 : ai_M := (⟨"PenPage", "send", "(IIII)I"⟩, prog_1_method_15_code, 8, (some .int), 7, [], ai_c28)
def ai_m29 : ai_M := (⟨"PenPage", "set", "(III)I"⟩, prog_1_method_7_code, 6, (some .int), 7, [], ai_c29)
def ai_m30 : ai_M := (⟨"PenPage", "slotOf", "(II)I"⟩, prog_1_method_39_code, 2, (some .int), 7, [], ai_c30)
def ai_m31 : ai_M := (⟨"PenPage", "step", "(IIII)I"⟩, prog_1_method_6_code, 6, (some .int), 7, [], ai_c31)
def ai_m32 : ai_M := (⟨"PenPage", "stepAt", "(III)LPenPage$Step;"⟩, prog_1_method_28_code, 5, (some (.object "PenPage$Step")), 7, [], ai_c32)
def ai_m33 : ai_M := (⟨"PenPage", "story", "(I)I"⟩, prog_1_method_24_code, 2, (some .int), 7, [], ai_c33)
def ai_m34 : ai_M := (⟨"PenPage", "strike", "(II)I"⟩, prog_1_method_8_code, 5, (some .int), 7, [], ai_c34)
def ai_m35 : ai_M := (⟨"PenPage", "text", "(III)I"⟩, prog_1_method_5_code, 7, (some .int), 7, [], ai_c35)
def ai_m36 : ai_M := (⟨"PenPage", "undo", "(II)I"⟩, prog_1_method_9_code, 6, (some .int), 7, [], ai_c36)
def ai_m37 : ai_M := (⟨"PenPage", "viewOf", "(I)LPenPage$View;"⟩, prog_1_method_29_code, 2, (some (.object "PenPage$View")), 7, [], ai_c37)
def ai_m38 : ai_M := (⟨"PenPage", "whose", "(II)I"⟩, prog_1_method_19_code, 3, (some .int), 7, [], ai_c38)
def ai_m39 : ai_M := (⟨"PenPage", "writers", "(I)V"⟩, prog_1_method_2_code, 3, none, 7, [], ai_c39)
def ai_m40 : ai_M := (⟨"PenPage$Checker", "<init>", "()V"⟩, prog_2_method_1_code, 1, none, 0, [], ai_c40)
def ai_m41 : ai_M := (⟨"PenPage$Checker", "check", "([III)I"⟩, prog_2_method_2_code, 8, (some .int), 0, [], ai_c41)
def ai_m42 : ai_M := (⟨"PenPage$Checker", "fail", "(II)V"⟩, prog_2_method_3_code, 3, none, 0, [], ai_c42)
def ai_m43 : ai_M := (⟨"PenPage$Checker", "read", "()I"⟩, prog_2_method_4_code, 2, (some .int), 0, [], ai_c43)
def ai_m44 : ai_M := (⟨"PenPage$Checker", "take", "(II)I"⟩, prog_2_method_5_code, 5, (some .int), 0, [], ai_c44)
def ai_m45 : ai_M := (⟨"PenPage$Checker", "takeBody", "(II)V"⟩, prog_2_method_8_code, 3, none, 0, [], ai_c45)
def ai_m46 : ai_M := (⟨"PenPage$Checker", "takePair", "(II)V"⟩, prog_2_method_6_code, 5, none, 0, [], ai_c46)
def ai_m47 : ai_M := (⟨"PenPage$Checker", "takeSeen", "(III)I"⟩, prog_2_method_7_code, 4, (some .int), 0, [], ai_c47)
def ai_m48 : ai_M := (⟨"PenPage$Checker", "takeSum", "()V"⟩, prog_2_method_12_code, 3, none, 0, [], ai_c48)
def ai_m49 : ai_M := (⟨"PenPage$NewKey", "<init>", "()V"⟩, prog_3_method_1_code, 1, none, 1, [], ai_c49)
def ai_m50 : ai_M := (⟨"PenPage$NewKey", "aim", "(LPenPage$View;I)V"⟩, prog_3_method_2_code, 5, none, 1, [], ai_c50)
def ai_m51 : ai_M := (⟨"PenPage$NewKey", "grow", "(I)Z"⟩, prog_3_method_3_code, 8, (some .boolean), 1, [], ai_c51)
def ai_m52 : ai_M := (⟨"PenPage$Packer", "<init>", "()V"⟩, prog_4_method_1_code, 1, none, 2, [], ai_c52)
def ai_m53 : ai_M := (⟨"PenPage$Packer", "begin", "(ILPenPage$Page;)V"⟩, prog_4_method_2_code, 4, none, 2, [], ai_c53)
def ai_m54 : ai_M := (⟨"PenPage$Packer", "finish", "()LPenPage$Step;"⟩, prog_4_method_7_code, 3, (some (.object "PenPage$Step")), 2, [], ai_c54)
def ai_m55 : ai_M := (⟨"PenPage$Packer", "put", "(I)V"⟩, prog_4_method_3_code, 2, none, 2, [], ai_c55)
def ai_m56 : ai_M := (⟨"PenPage$Packer", "putKey", "(LPenPage$NewKey;)V"⟩, prog_4_method_6_code, 3, none, 2, [], ai_c56)
def ai_m57 : ai_M := (⟨"PenPage$Packer", "putPair", "(I)V"⟩, prog_4_method_4_code, 2, none, 2, [], ai_c57)
def ai_m58 : ai_M := (⟨"PenPage$Page", "<init>", "(I)V"⟩, prog_5_method_1_code, 2, none, 3, [], ai_c58)
def ai_m59 : ai_M := (⟨"PenPage$Page", "canStep", "()Z"⟩, prog_5_method_6_code, 1, (some .boolean), 3, [], ai_c59)
def ai_m60 : ai_M := (⟨"PenPage$Page", "copy", "(LPenPage$Page;)V"⟩, prog_5_method_3_code, 3, none, 3, [], ai_c60)
def ai_m61 : ai_M := (⟨"PenPage$Page", "dropOvertaken", "()V"⟩, prog_5_method_12_code, 3, none, 3, [], ai_c61)
def ai_m62 : ai_M := (⟨"PenPage$Page", "empty", "()V"⟩, prog_5_method_2_code, 2, none, 3, [], ai_c62)
def ai_m63 : ai_M := (⟨"PenPage$Page", "have", "(LPenPage$Step;)V"⟩, prog_5_method_8_code, 3, none, 3, [], ai_c63)
def ai_m64 : ai_M := (⟨"PenPage$Page", "leastReady", "()I"⟩, prog_5_method_13_code, 5, (some .int), 3, [], ai_c64)
def ai_m65 : ai_M := (⟨"PenPage$Page", "settle", "()V"⟩, prog_5_method_9_code, 3, none, 3, [], ai_c65)
def ai_m66 : ai_M := (⟨"PenPage$Page", "stepOf", "(II)LPenPage$Step;"⟩, prog_5_method_5_code, 3, (some (.object "PenPage$Step")), 3, [], ai_c66)
def ai_m67 : ai_M := (⟨"PenPage$Page", "stepsOf", "(I)I"⟩, prog_5_method_4_code, 2, (some .int), 3, [], ai_c67)
def ai_m68 : ai_M := (⟨"PenPage$Step", "<init>", "([II)V"⟩, prog_6_method_1_code, 3, none, 4, [], ai_c68)
def ai_m69 : ai_M := (⟨"PenPage$Step", "age", "()I"⟩, prog_6_method_9_code, 1, (some .int), 4, [], ai_c69)
def ai_m70 : ai_M := (⟨"PenPage$Step", "byteAt", "(I)I"⟩, prog_6_method_3_code, 2, (some .int), 4, [], ai_c70)
def ai_m71 : ai_M := (⟨"PenPage$Step", "number", "()I"⟩, prog_6_method_7_code, 1, (some .int), 4, [], ai_c71)
def ai_m72 : ai_M := (⟨"PenPage$Step", "pairAt", "(I)I"⟩, prog_6_method_4_code, 2, (some .int), 4, [], ai_c72)
def ai_m73 : ai_M := (⟨"PenPage$Step", "writer", "()I"⟩, prog_6_method_6_code, 1, (some .int), 4, [], ai_c73)
def ai_m74 : ai_M := (⟨"PenPage$Story", "<init>", "()V"⟩, prog_7_method_1_code, 1, none, 5, [], ai_c74)
def ai_m75 : ai_M := (⟨"PenPage$Story", "addAct", "(III)Z"⟩, prog_7_method_4_code, 4, (some .boolean), 5, [], ai_c75)
def ai_m76 : ai_M := (⟨"PenPage$Story", "addSign", "(I)Z"⟩, prog_7_method_3_code, 2, (some .boolean), 5, [], ai_c76)
def ai_m77 : ai_M := (⟨"PenPage$Story", "empty", "()V"⟩, prog_7_method_2_code, 1, none, 5, [], ai_c77)
def ai_m78 : ai_M := (⟨"PenPage$Story", "finishOrder", "(I)V"⟩, prog_7_method_7_code, 3, none, 5, [], ai_c78)
def ai_m79 : ai_M := (⟨"PenPage$Story", "solve", "()V"⟩, prog_7_method_5_code, 1, none, 5, [], ai_c79)
def ai_m80 : ai_M := (⟨"PenPage$Story", "walk", "(I)V"⟩, prog_7_method_6_code, 4, none, 5, [], ai_c80)
def ai_m81 : ai_M := (⟨"PenPage$View", "<init>", "()V"⟩, prog_8_method_1_code, 1, none, 6, [], ai_c81)
def ai_m82 : ai_M := (⟨"PenPage$View", "applySteps", "(LPenPage$Page;)V"⟩, prog_8_method_13_code, 4, none, 6, [], ai_c82)
def ai_m83 : ai_M := (⟨"PenPage$View", "countGone", "(LPenPage$Page;I)I"⟩, prog_8_method_8_code, 5, (some .int), 6, [], ai_c83)
def ai_m84 : ai_M := (⟨"PenPage$View", "countOf", "(I)I"⟩, prog_8_method_7_code, 4, (some .int), 6, [], ai_c84)
def ai_m85 : ai_M := (⟨"PenPage$View", "look", "(LPenPage$Page;)V"⟩, prog_8_method_2_code, 4, none, 6, [], ai_c85)
def ai_m86 : ai_M := (⟨"PenPage$View", "makeRow", "()V"⟩, prog_8_method_18_code, 2, none, 6, [], ai_c86)
def ai_m87 : ai_M := (⟨"PenPage$View", "makeText", "()V"⟩, prog_8_method_20_code, 2, none, 6, [], ai_c87)
def ai_m88 : ai_M := (⟨"PenPage$View", "slotAt", "(I)I"⟩, prog_8_method_4_code, 2, (some .int), 6, [], ai_c88)
def ai_m89 : ai_M := (⟨"PenPage$View", "undoSteps", "(LPenPage$Page;)V"⟩, prog_8_method_11_code, 5, none, 6, [], ai_c89)
def ai_m90 : ai_M := (⟨"PenPageLaw", "alike", "(LPenPage;II[J)I"⟩, method_17_code, 5, (some .int), 9, [(0, 17, 20, 19)], ai_c90)
def ai_m91 : ai_M := (⟨"PenPageLaw", "count", "(LPenPage;I[J)I"⟩, method_4_code, 4, (some .int), 9, [(0, 9, 12, 19)], ai_c91)
def ai_m92 : ai_M := (⟨"PenPageLaw", "fewest", "(LPenPage;II[J)I"⟩, method_16_code, 5, (some .int), 9, [(0, 10, 13, 19)], ai_c92)
def ai_m93 : ai_M := (⟨"PenPageLaw", "gone", "(LPenPage;II[J)I"⟩, method_19_code, 5, (some .int), 9, [(0, 17, 20, 19)], ai_c93)
def ai_m94 : ai_M := (⟨"PenPageLaw", "hear", "(LPenPage;II[J)I"⟩, method_13_code, 5, (some .int), 9, [(0, 10, 13, 19), (0, 10, 17, 13)], ai_c94)
def ai_m95 : ai_M := (⟨"PenPageLaw", "lacks", "(LPenPage;III[J)I"⟩, method_15_code, 6, (some .int), 9, [(0, 12, 15, 19)], ai_c95)
def ai_m96 : ai_M := (⟨"PenPageLaw", "move", "(LPenPage;IIII[J)I"⟩, method_11_code, 7, (some .int), 9, [(0, 14, 17, 19)], ai_c96)
def ai_m97 : ai_M := (⟨"PenPageLaw", "packet", "(LPenPage;IIII[J)I"⟩, method_12_code, 7, (some .int), 9, [(0, 14, 17, 19)], ai_c97)
def ai_m98 : ai_M := (⟨"PenPageLaw", "page", "(LPenPage;II[J)I"⟩, method_5_code, 5, (some .int), 9, [(0, 10, 13, 19)], ai_c98)
def ai_m99 : ai_M := (⟨"PenPageLaw", "send", "(LPenPage;IIII[J)I"⟩, method_14_code, 7, (some .int), 9, [(0, 14, 17, 19)], ai_c99)
def ai_m100 : ai_M := (⟨"PenPageLaw", "set", "(LPenPage;III[J)I"⟩, method_8_code, 6, (some .int), 9, [(0, 12, 15, 19)], ai_c100)
def ai_m101 : ai_M := (⟨"PenPageLaw", "step", "(LPenPage;IIII[J)I"⟩, method_7_code, 7, (some .int), 9, [(0, 14, 17, 19)], ai_c101)
def ai_m102 : ai_M := (⟨"PenPageLaw", "story", "(LPenPage;I[J)I"⟩, method_20_code, 4, (some .int), 9, [(0, 9, 12, 19)], ai_c102)
def ai_m103 : ai_M := (⟨"PenPageLaw", "strike", "(LPenPage;II[J)I"⟩, method_9_code, 5, (some .int), 9, [(0, 10, 13, 19)], ai_c103)
def ai_m104 : ai_M := (⟨"PenPageLaw", "text", "(LPenPage;III[J)I"⟩, method_6_code, 6, (some .int), 9, [(0, 12, 15, 19)], ai_c104)
def ai_m105 : ai_M := (⟨"PenPageLaw", "undo", "(LPenPage;II[J)I"⟩, method_10_code, 5, (some .int), 9, [(0, 10, 13, 19)], ai_c105)
def ai_m106 : ai_M := (⟨"PenPageLaw", "whose", "(LPenPage;II[J)I"⟩, method_18_code, 5, (some .int), 9, [(0, 10, 13, 19)], ai_c106)
def ai_m107 : ai_M := (⟨"PenPageLaw", "writers", "(LPenPage;I)I"⟩, method_3_code, 3, (some .int), 9, [(0, 5, 8, 13)], ai_c107)
def ai_m108 : ai_M := (⟨"PenPageModel", "<init>", "()V"⟩, prog_10_method_1_code, 1, none, 8, [], ai_c108)
def ai_m109 : ai_M := (⟨"PenPageModel", "act", "(III)I"⟩, prog_10_method_74_code, 5, (some .int), 8, [], ai_c109)
def ai_m110 : ai_M := (⟨"PenPageModel", "add", "(II)V"⟩, prog_10_method_34_code, 4, none, 8, [], ai_c110)
def ai_m111 : ai_M := (⟨"PenPageModel", "ageOf", "(I)I"⟩, prog_10_method_24_code, 5, (some .int), 8, [], ai_c111)
def ai_m112 : ai_M := (⟨"PenPageModel", "alike", "(II)Z"⟩, prog_10_method_70_code, 3, (some .boolean), 8, [], ai_c112)
def ai_m113 : ai_M := (⟨"PenPageModel", "beginStep", "(II)Z"⟩, prog_10_method_31_code, 4, (some .boolean), 8, [], ai_c113)
def ai_m114 : ai_M := (⟨"PenPageModel", "clear", "()V"⟩, prog_10_method_75_code, 1, none, 8, [], ai_c114)
def ai_m115 : ai_M := (⟨"PenPageModel", "copy", "(II)V"⟩, prog_10_method_9_code, 4, none, 8, [], ai_c115)
def ai_m116 : ai_M := (⟨"PenPageModel", "count", "(I)I"⟩, prog_10_method_13_code, 2, (some .int), 8, [], ai_c116)
def ai_m117 : ai_M := (⟨"PenPageModel", "endStep", "(I)I"⟩, prog_10_method_33_code, 2, (some .int), 8, [], ai_c117)
def ai_m118 : ai_M := (⟨"PenPageModel", "fail", "(I)I"⟩, prog_10_method_3_code, 2, (some .int), 8, [], ai_c118)
def ai_m119 : ai_M := (⟨"PenPageModel", "fault", "()I"⟩, prog_10_method_58_code, 1, (some .int), 8, [], ai_c119)
def ai_m120 : ai_M := (⟨"PenPageModel", "feed", "(IIIII)I"⟩, prog_10_method_49_code, 8, (some .int), 8, [], ai_c120)
def ai_m121 : ai_M := (⟨"PenPageModel", "fewest", "(II)I"⟩, prog_10_method_69_code, 3, (some .int), 8, [], ai_c121)
def ai_m122 : ai_M := (⟨"PenPageModel", "gone", "(II)Z"⟩, prog_10_method_72_code, 4, (some .boolean), 8, [], ai_c122)
def ai_m123 : ai_M := (⟨"PenPageModel", "goneOf", "(I)I"⟩, prog_10_method_27_code, 4, (some .int), 8, [], ai_c123)
def ai_m124 : ai_M := (⟨"PenPageModel", "hasStep", "(III)Z"⟩, prog_10_method_11_code, 4, (some .boolean), 8, [], ai_c124)
def ai_m125 : ai_M := (⟨"PenPageModel", "hear", "(II)I"⟩, prog_10_method_57_code, 4, (some .int), 8, [], ai_c125)
def ai_m126 : ai_M := (⟨"PenPageModel", "image", "()V"⟩, prog_10_method_82_code, 2, none, 8, [], ai_c126)
def ai_m127 : ai_M := (⟨"PenPageModel", "isIn", "(III)Z"⟩, prog_10_method_4_code, 3, (some .boolean), 8, [], ai_c127)
def ai_m128 : ai_M := (⟨"PenPageModel", "isWriter", "(I)Z"⟩, prog_10_method_5_code, 2, (some .boolean), 8, [], ai_c128)
def ai_m129 : ai_M := (⟨"PenPageModel", "keyAhead", "(I)I"⟩, prog_10_method_37_code, 2, (some .int), 8, [], ai_c129)
def ai_m130 : ai_M := (⟨"PenPageModel", "keyBehind", "(I)I"⟩, prog_10_method_38_code, 3, (some .int), 8, [], ai_c130)
def ai_m131 : ai_M := (⟨"PenPageModel", "lackOf", "(III)I"⟩, prog_10_method_67_code, 7, (some .int), 8, [], ai_c131)
def ai_m132 : ai_M := (⟨"PenPageModel", "lacks", "(III)I"⟩, prog_10_method_68_code, 5, (some .int), 8, [], ai_c132)
def ai_m133 : ai_M := (⟨"PenPageModel", "mayUndo", "(II)Z"⟩, prog_10_method_41_code, 5, (some .boolean), 8, [], ai_c133)
def ai_m134 : ai_M := (⟨"PenPageModel", "move", "(IIII)I"⟩, prog_10_method_43_code, 10, (some .int), 8, [], ai_c134)
def ai_m135 : ai_M := (⟨"PenPageModel", "named", "(II)I"⟩, prog_10_method_16_code, 3, (some .int), 8, [], ai_c135)
def ai_m136 : ai_M := (⟨"PenPageModel", "newKey", "(IIII)Z"⟩, prog_10_method_35_code, 9, (some .boolean), 8, [], ai_c136)
def ai_m137 : ai_M := (⟨"PenPageModel", "of", "(II)I"⟩, prog_10_method_7_code, 3, (some .int), 8, [], ai_c137)
def ai_m138 : ai_M := (⟨"PenPageModel", "orderOn", "(I)V"⟩, prog_10_method_79_code, 5, none, 8, [], ai_c138)
def ai_m139 : ai_M := (⟨"PenPageModel", "packet", "(IIII)I"⟩, prog_10_method_48_code, 5, (some .int), 8, [], ai_c139)
def ai_m140 : ai_M := (⟨"PenPageModel", "page", "(II)I"⟩, prog_10_method_28_code, 3, (some .int), 8, [], ai_c140)
def ai_m141 : ai_M := (⟨"PenPageModel", "put", "(III)V"⟩, prog_10_method_8_code, 4, none, 8, [], ai_c141)
def ai_m142 : ai_M := (⟨"PenPageModel", "readByte", "(II)I"⟩, prog_10_method_51_code, 4, (some .int), 8, [], ai_c142)
def ai_m143 : ai_M := (⟨"PenPageModel", "readPacket", "()V"⟩, prog_10_method_56_code, 4, none, 8, [], ai_c143)
def ai_m144 : ai_M := (⟨"PenPageModel", "readTwo", "(II)I"⟩, prog_10_method_52_code, 5, (some .int), 8, [], ai_c144)
def ai_m145 : ai_M := (⟨"PenPageModel", "refuse", "()I"⟩, prog_10_method_32_code, 1, (some .int), 8, [], ai_c145)
def ai_m146 : ai_M := (⟨"PenPageModel", "release", "(I)V"⟩, prog_10_method_64_code, 5, none, 8, [], ai_c146)
def ai_m147 : ai_M := (⟨"PenPageModel", "restore", "()Z"⟩, prog_10_method_83_code, 2, (some .boolean), 8, [], ai_c147)
def ai_m148 : ai_M := (⟨"PenPageModel", "rowOf", "(III)I"⟩, prog_10_method_6_code, 3, (some .int), 8, [], ai_c148)
def ai_m149 : ai_M := (⟨"PenPageModel", "say", "(I)I"⟩, prog_10_method_73_code, 2, (some .int), 8, [], ai_c149)
def ai_m150 : ai_M := (⟨"PenPageModel", "send", "(IIII)I"⟩, prog_10_method_65_code, 6, (some .int), 8, [], ai_c150)
def ai_m151 : ai_M := (⟨"PenPageModel", "set", "(III)I"⟩, prog_10_method_39_code, 5, (some .int), 8, [], ai_c151)
def ai_m152 : ai_M := (⟨"PenPageModel", "setNamed", "(II)I"⟩, prog_10_method_18_code, 4, (some .int), 8, [], ai_c152)
def ai_m153 : ai_M := (⟨"PenPageModel", "step", "(IIII)I"⟩, prog_10_method_30_code, 7, (some .int), 8, [], ai_c153)
def ai_m154 : ai_M := (⟨"PenPageModel", "story", "(I)I"⟩, prog_10_method_80_code, 2, (some .int), 8, [], ai_c154)
def ai_m155 : ai_M := (⟨"PenPageModel", "strike", "(II)I"⟩, prog_10_method_40_code, 3, (some .int), 8, [], ai_c155)
def ai_m156 : ai_M := (⟨"PenPageModel", "tellHolds", "(I)V"⟩, prog_10_method_19_code, 4, none, 8, [], ai_c156)
def ai_m157 : ai_M := (⟨"PenPageModel", "tellPage", "(I)V"⟩, prog_10_method_21_code, 5, none, 8, [], ai_c157)
def ai_m158 : ai_M := (⟨"PenPageModel", "text", "(III)I"⟩, prog_10_method_29_code, 5, (some .int), 8, [], ai_c158)
def ai_m159 : ai_M := (⟨"PenPageModel", "thrown", "()I"⟩, prog_10_method_2_code, 1, (some .int), 8, [], ai_c159)
def ai_m160 : ai_M := (⟨"PenPageModel", "undo", "(II)I"⟩, prog_10_method_42_code, 3, (some .int), 8, [], ai_c160)
def ai_m161 : ai_M := (⟨"PenPageModel", "whose", "(II)I"⟩, prog_10_method_71_code, 5, (some .int), 8, [], ai_c161)
def ai_m162 : ai_M := (⟨"PenPageModel", "write", "(I)I"⟩, prog_10_method_76_code, 8, (some .int), 8, [], ai_c162)
def ai_m163 : ai_M := (⟨"PenPageModel", "writers", "(I)V"⟩, prog_10_method_12_code, 3, none, 8, [], ai_c163)
def ai_m164 : ai_M := (⟨"PenPageModel", "wrong", "(II)V"⟩, prog_10_method_50_code, 3, none, 8, [], ai_c164)
def ai_m165 : ai_M := (⟨"java/util/Arrays", "copyOf", "([II)[I"⟩, prog_20_method_123_code, 3, (some (.array .int)), 11, [], ai_c165)
def ai_m166 : ai_M := (⟨"java/util/Arrays", "fill", "([II)V"⟩, prog_20_method_103_code, 4, none, 11, [], ai_c166)
def ai_m167 : ai_M := (⟨"PenPageModel", "copyAll", "(II)V"⟩, prog_10_method_81_code, 4, none, 8, [], ai_c167)
def ai_ms0 : List ai_M := [ai_m0, ai_m1, ai_m2, ai_m3, ai_m4, ai_m5, ai_m6, ai_m7, ai_m8, ai_m9]
def ai_ms1 : List ai_M := [ai_m10, ai_m11, ai_m12, ai_m13, ai_m14, ai_m15, ai_m16, ai_m17, ai_m18, ai_m19]
def ai_ms2 : List ai_M := [ai_m20, ai_m21, ai_m22, ai_m23, ai_m24, ai_m25, ai_m26, ai_m27, ai_m28, ai_m29]
def ai_ms3 : List ai_M := [ai_m30, ai_m31, ai_m32, ai_m33, ai_m34, ai_m35, ai_m36, ai_m37, ai_m38, ai_m39]
def ai_ms4 : List ai_M := [ai_m40, ai_m41, ai_m42, ai_m43, ai_m44, ai_m45, ai_m46, ai_m47, ai_m48, ai_m49]
def ai_ms5 : List ai_M := [ai_m50, ai_m51, ai_m52, ai_m53, ai_m54, ai_m55, ai_m56, ai_m57, ai_m58, ai_m59]
def ai_ms6 : List ai_M := [ai_m60, ai_m61, ai_m62, ai_m63, ai_m64, ai_m65, ai_m66, ai_m67, ai_m68, ai_m69]
def ai_ms7 : List ai_M := [ai_m70, ai_m71, ai_m72, ai_m73, ai_m74, ai_m75, ai_m76, ai_m77, ai_m78, ai_m79]
def ai_ms8 : List ai_M := [ai_m80, ai_m81, ai_m82, ai_m83, ai_m84, ai_m85, ai_m86, ai_m87, ai_m88, ai_m89]
def ai_ms9 : List ai_M := [ai_m90, ai_m91, ai_m92, ai_m93, ai_m94, ai_m95, ai_m96, ai_m97, ai_m98, ai_m99]
def ai_ms10 : List ai_M := [ai_m100, ai_m101, ai_m102, ai_m103, ai_m104, ai_m105, ai_m106, ai_m107, ai_m108, ai_m109]
def ai_ms11 : List ai_M := [ai_m110, ai_m111, ai_m112, ai_m113, ai_m114, ai_m115, ai_m116, ai_m117, ai_m118, ai_m119]
def ai_ms12 : List ai_M := [ai_m120, ai_m121, ai_m122, ai_m123, ai_m124, ai_m125, ai_m126, ai_m127, ai_m128, ai_m129]
def ai_ms13 : List ai_M := [ai_m130, ai_m131, ai_m132, ai_m133, ai_m134, ai_m135, ai_m136, ai_m137, ai_m138, ai_m139]
def ai_ms14 : List ai_M := [ai_m140, ai_m141, ai_m142, ai_m143, ai_m144, ai_m145, ai_m146, ai_m147, ai_m148, ai_m149]
def ai_ms15 : List ai_M := [ai_m150, ai_m151, ai_m152, ai_m153, ai_m154, ai_m155, ai_m156, ai_m157, ai_m158, ai_m159]
def ai_ms16 : List ai_M := [ai_m160, ai_m161, ai_m162, ai_m163, ai_m164, ai_m165, ai_m166, ai_m167]
def ai_meths : List ai_M := ai_ms0 ++ (ai_ms1 ++ (ai_ms2 ++ (ai_ms3 ++ (ai_ms4 ++ (ai_ms5 ++ (ai_ms6 ++ (ai_ms7 ++ (ai_ms8 ++ (ai_ms9 ++ (ai_ms10 ++ (ai_ms11 ++ (ai_ms12 ++ (ai_ms13 ++ (ai_ms14 ++ (ai_ms15 ++ (ai_ms16))))))))))))))))
noncomputable def ai_at {α : Type} (l : List α) : Nat → Option α :=
  List.rec (motive := fun _ => Nat → Option α) (fun _ => none) (fun a _ ih n => Nat.casesOn n (some a) ih) l
noncomputable def ai_pad (n : Nat) (a : List ai_V) : List ai_V := a ++ List.replicate (n - a.length) ai_un
/-- a method whose loop is summed up: PenPageModel.copy over a row that holds zeros alone -/
def ai_z0 (v : ai_V) : Bool := Nat.beq (Prod.fst v) (nat_lit 0) && ai_ieq (Prod.fst (Prod.snd v)) 0 && ai_ieq (Prod.snd (Prod.snd v)) 0
noncomputable def ai_sum (a : List ai_V) (g : ai_G) : Option ai_R := match a with
  | [r, x, y] => match ai_cell g r with
    | some (_, t, c, fs, _) => cond (Nat.beq t (nat_lit 0) && Nat.beq c (nat_lit 8) && Nat.blt (nat_lit 2) fs.length) (match ai_cell g (ai_nth ai_un fs (nat_lit 2)) with
      | some (_, t2, n, dd, us) => cond (Nat.beq t2 (nat_lit 1) && us.isEmpty && ai_z0 (ai_nth ai_un dd (nat_lit 0)) && Nat.ble (nat_lit 531200) n) (match ai_one (ai_x g) x with
        | some cx => match ai_one (ai_x g) y with
          | some cy => cond (ai_ile 0 cx && ai_ile cx 3199 && ai_ile 0 cy && ai_ile cy 3199) (ai_end (nat_lit 0) ai_nul g) none
          | none => none
        | none => none) none
      | none => none) none
    | none => none
  | _ => none
/-- arguments that a method of n locals may be called with -/
def ai_argok (a : List ai_V) (n : Nat) : Bool := Nat.ble a.length n && a.all (fun v => ai_isr v.1 || Nat.ble v.1 1)
noncomputable def ai_ev (sl : Int × Int) (d : Nat) : ai_K :=
  Nat.rec (motive := fun _ => ai_K) (fun _ _ _ => none) (fun _ ih j a g => match ai_at ai_meths j with
    | none => none
    | some M => match cond (Nat.beq j ai_jca) (ai_sum a g) none with
      | some r => some r
      | none => cond (ai_argok a M.2.2.1) (ai_run (ai_find M.2.2.2.2.2.2 sl) ih (nat_lit 100000) (nat_lit 0) (ai_pad M.2.2.1 a) [] g) none) d
def ai_fl : Int × Int := (ai_lo, ai_hi)
def ai_full8 : ai_E := [ai_fl, ai_fl, ai_fl, ai_fl, ai_fl, ai_fl, ai_fl, ai_fl]
noncomputable def ai_g0 (x : ai_E) : ai_G := (ai_rep 7 (99, 0, [], []), 0, 0, 0, x)
noncomputable def ai_law (sl : Int × Int) (x : ai_E) : Option ai_R := ai_run (ai_find ai_c0 sl) (ai_ev sl 9) (nat_lit 100000) (nat_lit 0) (ai_pad 7 [(6, 0, 0)]) [] (ai_g0 x)
def ai_yes (r : Option ai_R) : Bool := match r with
  | none => false
  | some (os, a, b) => os.all (fun q => Nat.beq q.1 1 && ai_ieq q.2.1.2.1 1 && ai_ieq q.2.1.2.2 1 && Nat.beq q.2.1.1 0) && Nat.ble a 600002 && Nat.ble b 7302232
end
section
/-! ===== what the interpreter's words mean: lists, trees, numbers ===== -/
theorem ai_nth_eq {α : Type} (a0 : α) (l : List α) (n : Nat) : ai_nth a0 l n = (l[n]?).getD a0 := by
  induction l generalizing n with
  | nil => rfl
  | cons a t ih =>
    cases n with
    | zero => rfl
    | succ n => exact ih n
theorem ai_upd_eq {α : Type} (l : List α) (n : Nat) (v : α) : ai_upd l n v = l.set n v := by
  induction l generalizing n with
  | nil => rfl
  | cons a t ih =>
    cases n with
    | zero => rfl
    | succ n => exact congrArg (List.cons a) (ih n)
theorem ai_lk_nil (dv : ai_V) (j : Nat) : ai_lk [] dv j = dv := rfl
theorem ai_lk_cons (q : Nat × ai_V) (l : List (Nat × ai_V)) (dv : ai_V) (j : Nat) : ai_lk (q :: l) dv j = if q.1 = j then q.2 else ai_lk l dv j := by
  show cond (Nat.beq q.1 j) q.2 (ai_lk l dv j) = _
  by_cases h : q.1 = j
  · rw [if_pos h, h, Nat.beq_refl]; rfl
  · rw [if_neg h]
    cases hb : Nat.beq q.1 j with
    | false => rfl
    | true => exact absurd (Nat.eq_of_beq_eq_true hb) h
theorem ai_get_z {α : Type} (t : ai_T α 0) (i : Nat) : ai_get 0 t i = t := rfl
def ai_t1 {α : Type} {d : Nat} (t : ai_T α (d + 1)) : ai_T α d := Prod.fst (α := ai_T α d) (β := ai_T α d) t
def ai_t2 {α : Type} {d : Nat} (t : ai_T α (d + 1)) : ai_T α d := Prod.snd (α := ai_T α d) (β := ai_T α d) t
def ai_tp {α : Type} {d : Nat} (a b : ai_T α d) : ai_T α (d + 1) := Prod.mk (α := ai_T α d) (β := ai_T α d) a b
theorem ai_t1_tp {α : Type} {d : Nat} (a b : ai_T α d) : ai_t1 (ai_tp a b) = a := rfl
theorem ai_t2_tp {α : Type} {d : Nat} (a b : ai_T α d) : ai_t2 (ai_tp a b) = b := rfl
theorem ai_condb {α : Type} {a b : Nat} (x y : α) : cond (Nat.ble a b) x y = if a ≤ b then x else y := by
  by_cases h : a ≤ b
  · rw [if_pos h, Nat.ble_eq_true_of_le h]; rfl
  · rw [if_neg h]
    cases hb : Nat.ble a b with
    | false => rfl
    | true => exact absurd (Nat.le_of_ble_eq_true hb) h
theorem ai_get_s {α : Type} (d : Nat) (t : ai_T α (d + 1)) (i : Nat) : ai_get (d + 1) t i = if 2 ^ d ≤ i then ai_get d (ai_t2 t) (i - 2 ^ d) else ai_get d (ai_t1 t) i :=
  (show ai_get (d + 1) t i = cond (Nat.ble (2 ^ d) i) (ai_get d (ai_t2 t) (i - 2 ^ d)) (ai_get d (ai_t1 t) i) from rfl).trans (ai_condb _ _)
theorem ai_set_s {α : Type} (d : Nat) (t : ai_T α (d + 1)) (i : Nat) (c : α) : ai_set (d + 1) t i c = if 2 ^ d ≤ i then ai_tp (ai_t1 t) (ai_set d (ai_t2 t) (i - 2 ^ d) c) else ai_tp (ai_set d (ai_t1 t) i c) (ai_t2 t) :=
  (show ai_set (d + 1) t i c = cond (Nat.ble (2 ^ d) i) (ai_tp (ai_t1 t) (ai_set d (ai_t2 t) (i - 2 ^ d) c)) (ai_tp (ai_set d (ai_t1 t) i c) (ai_t2 t)) from rfl).trans (ai_condb _ _)
theorem ai_get_set {α : Type} (d : Nat) : ∀ (t : ai_T α d) (i j : Nat) (c : α), i < 2 ^ d → j < 2 ^ d → ai_get d (ai_set d t i c) j = if j = i then c else ai_get d t j := by
  induction d with
  | zero =>
    intro t i j c hi hj
    have e : j = i := by have : 2 ^ 0 = 1 := rfl; omega
    rw [if_pos e]
    rfl
  | succ d ih =>
    intro t i j c hi hj
    rw [ai_set_s, ai_get_s, ai_get_s]
    have hp : 2 ^ (d + 1) = 2 ^ d + 2 ^ d := by rw [Nat.pow_succ]; omega
    by_cases h1 : 2 ^ d ≤ i <;> by_cases h2 : 2 ^ d ≤ j
    · rw [if_pos h1, if_pos h2, if_pos h2, ai_t2_tp]
      rw [ih _ _ _ _ (by omega) (by omega)]
      by_cases h : j = i
      · rw [if_pos (by omega), if_pos h]
      · rw [if_neg (by omega), if_neg h]
    · rw [if_pos h1, if_neg h2, if_neg h2, if_neg (by omega), ai_t1_tp]
    · rw [if_neg h1, if_pos h2, if_pos h2, if_neg (by omega), ai_t2_tp]
    · rw [if_neg h1, if_neg h2, if_neg h2, ai_t1_tp]
      rw [ih _ _ _ _ (by omega) (by omega)]
theorem ai_ile_iff (a b : Int) : ai_ile a b = true ↔ a ≤ b := by
  cases a <;> cases b <;> simp only [ai_ile, Int.ofNat_eq_natCast, Nat.ble_eq, reduceCtorEq, false_iff, true_iff] <;> omega
theorem ai_ieq_iff (a b : Int) : ai_ieq a b = true ↔ a = b := by
  cases a <;> cases b <;> simp only [ai_ieq, Int.ofNat_eq_natCast, Nat.beq_eq, reduceCtorEq, false_iff, true_iff] <;> omega
theorem ai_ilt_iff (a b : Int) : ai_ilt a b = true ↔ a < b := by
  unfold ai_ilt
  cases h : ai_ile b a with
  | true =>
    have := (ai_ile_iff b a).mp h
    constructor
    · intro h; cases h
    · intro h; omega
  | false =>
    have : ¬ b ≤ a := fun q => by rw [(ai_ile_iff b a).mpr q] at h; cases h
    constructor
    · intro _; omega
    · intro _; rfl
theorem ai_lo_eq : ai_lo = -2147483648 := rfl
theorem ai_hi_eq : ai_hi = 2147483647 := rfl
theorem ai_ok_iff (a b : Int) : ai_ok a b = true ↔ -2147483648 ≤ a ∧ b ≤ 2147483647 := by
  unfold ai_ok
  rw [Bool.and_eq_true, ai_ile_iff, ai_ile_iff, ai_lo_eq, ai_hi_eq]
theorem ai_le32 (z : Int32) : -2147483648 ≤ z.toInt ∧ z.toInt ≤ 2147483647 := ⟨Int32.le_toInt z, by have := Int32.toInt_lt z; omega⟩
theorem ai_of_lt {a : Int} (h1 : -2147483648 ≤ a) (h2 : a ≤ 2147483647) : (Int32.ofInt a).toInt = a := Int32.toInt_ofInt_of_le h1 (by omega)
theorem ai_ofInt_toInt (z : Int32) : Int32.ofInt z.toInt = z := Int32.ofInt_toInt z
/-- what a number of the interpreter stands for -/
def ai_num (rho : Nat → Int32) (v : ai_V) (z : Int32) : Prop := (v.1 = 0 ∧ v.2.1 ≤ z.toInt ∧ z.toInt ≤ v.2.2) ∨ (v.1 = 1 ∧ z = rho v.2.1.toNat + Int32.ofInt v.2.2)
def ai_EV (rho : Nat → Int32) (x : ai_E) : Prop := ∀ k, (ai_env x k).1 ≤ (rho k).toInt ∧ (rho k).toInt ≤ (ai_env x k).2
theorem ai_num_i {rho : Nat → Int32} {z : Int32} {n : Int} (h : z.toInt = n) : ai_num rho (ai_i n) z := Or.inl ⟨rfl, by show n ≤ _; omega, by show _ ≤ n; omega⟩
theorem ai_num_full {rho : Nat → Int32} (z : Int32) : ai_num rho ai_full z := Or.inl ⟨rfl, by show ai_lo ≤ _; rw [ai_lo_eq]; exact (ai_le32 z).1, by show _ ≤ ai_hi; rw [ai_hi_eq]; exact (ai_le32 z).2⟩
theorem ai_num_norm {rho : Nat → Int32} {z : Int32} {a b : Int} {y : Int} (hz : z = Int32.ofInt y) (h1 : a ≤ y) (h2 : y ≤ b) : ai_num rho (ai_norm a b) z := by
  unfold ai_norm
  cases h : ai_ok a b with
  | false => exact ai_num_full z
  | true =>
    obtain ⟨q1, q2⟩ := (ai_ok_iff a b).mp h
    have e : z.toInt = y := by rw [hz]; exact ai_of_lt (by omega) (by omega)
    exact Or.inl ⟨rfl, by show a ≤ _; omega, by show _ ≤ b; omega⟩
theorem ai_var_toInt {rho : Nat → Int32} {k : Nat} {o : Int} (h1 : -2147483648 ≤ (rho k).toInt + o) (h2 : (rho k).toInt + o ≤ 2147483647) : (rho k + Int32.ofInt o).toInt = (rho k).toInt + o := by
  have e : rho k + Int32.ofInt o = Int32.ofInt ((rho k).toInt + o) := by rw [Int32.ofInt_add, Int32.ofInt_toInt]
  rw [e]
  exact ai_of_lt h1 h2
theorem ai_rng_ok {rho : Nat → Int32} {x : ai_E} {v : ai_V} {z : Int32} {a b : Int} (hE : ai_EV rho x) (hv : ai_num rho v z) (h : ai_rng x v = some (a, b)) : a ≤ z.toInt ∧ z.toInt ≤ b := by
  obtain ⟨t, c, d⟩ := v
  rcases hv with ⟨h0, h1, h2⟩ | ⟨h0, h1⟩
  · have e : t = 0 := h0
    subst e
    simp only [ai_rng, Option.some.injEq, Prod.mk.injEq] at h
    obtain ⟨rfl, rfl⟩ := h
    exact ⟨h1, h2⟩
  · have e : t = 1 := h0
    subst e
    have h1 : z = rho c.toNat + Int32.ofInt d := h1
    have hk := hE c.toNat
    simp only [ai_rng, Option.some.injEq] at h
    cases hok : ai_ok ((ai_env x c.toNat).1 + d) ((ai_env x c.toNat).2 + d) with
    | false =>
      rw [hok] at h
      simp only [cond_false, Prod.mk.injEq] at h
      obtain ⟨rfl, rfl⟩ := h
      exact ai_le32 z
    | true =>
      rw [hok] at h
      simp only [cond_true, Prod.mk.injEq] at h
      obtain ⟨rfl, rfl⟩ := h
      obtain ⟨q1, q2⟩ := (ai_ok_iff _ _).mp hok
      rw [h1, ai_var_toInt (by omega) (by omega)]
      omega
theorem ai_env_upd {x : ai_E} {k j : Nat} {q : Int × Int} : ai_env (ai_upd x k q) j = if j = k ∧ k < x.length then q else ai_env x j := by
  unfold ai_env
  rw [ai_nth_eq, ai_upd_eq, ai_nth_eq, List.getElem?_set]
  by_cases h : k = j
  · subst h
    by_cases h2 : k < x.length
    · simp [h2]
    · have h3 : x[k]? = none := List.getElem?_eq_none (by omega)
      simp [h2, h3]
  · have h3 : ¬ j = k := fun q => h q.symm
    simp [h, h3]
theorem ai_ref_ok {rho : Nat → Int32} {x : ai_E} {v : ai_V} {z : Int32} {lo hi : Int} (hE : ai_EV rho x) (hv : ai_num rho v z) (h1 : lo ≤ z.toInt) (h2 : z.toInt ≤ hi) : ai_EV rho (ai_ref x v lo hi) := by
  obtain ⟨t, c, d⟩ := v
  rcases hv with ⟨h0, -, -⟩ | ⟨h0, hz⟩
  · have e : t = 0 := h0
    subst e
    exact hE
  · have e : t = 1 := h0
    subst e
    have hz : z = rho c.toNat + Int32.ofInt d := hz
    have hk := hE c.toNat
    simp only [ai_ref]
    cases hok : ai_ok ((ai_env x c.toNat).1 + d) ((ai_env x c.toNat).2 + d) with
    | false => exact hE
    | true =>
      obtain ⟨q1, q2⟩ := (ai_ok_iff _ _).mp hok
      have ez : z.toInt = (rho c.toNat).toInt + d := by rw [hz, ai_var_toInt (by omega) (by omega)]
      intro k
      show (ai_env (ai_upd x c.toNat _) k).1 ≤ _ ∧ _ ≤ (ai_env (ai_upd x c.toNat _) k).2
      rw [ai_env_upd]
      by_cases hkk : k = c.toNat ∧ c.toNat < x.length
      · rw [if_pos hkk]
        rw [hkk.1]
        constructor
        · show max _ _ ≤ _; omega
        · show _ ≤ min _ _; omega
      · rw [if_neg hkk]
        exact hE k
theorem ai_one_ok {rho : Nat → Int32} {x : ai_E} {v : ai_V} {z : Int32} {a : Int} (hE : ai_EV rho x) (hv : ai_num rho v z) (h : ai_one x v = some a) : z.toInt = a ∧ z = Int32.ofInt a := by
  unfold ai_one at h
  cases hr : ai_rng x v with
  | none => rw [hr] at h; cases h
  | some q =>
    obtain ⟨c, d⟩ := q
    rw [hr] at h
    have h2 := ai_rng_ok hE hv hr
    cases he : ai_ieq c d with
    | false => simp only [he, cond_false] at h; cases h
    | true =>
      simp only [he, cond_true, Option.some.injEq] at h
      have e := (ai_ieq_iff c d).mp he
      have e2 : z.toInt = a := by omega
      exact ⟨e2, by rw [← e2, Int32.ofInt_toInt]⟩
theorem ai_isn_iff (v : ai_V) : ai_isn v = true ↔ v.1 ≤ 1 := by unfold ai_isn; rw [Nat.ble_eq]
theorem ai_one_none {rho : Nat → Int32} {x : ai_E} {v : ai_V} {a : Int} (h : ai_one x v = some a) : v.1 ≤ 1 := by
  unfold ai_one at h
  obtain ⟨t, c, d⟩ := v
  match t with
  | 0 => exact Nat.zero_le _
  | 1 => exact Nat.le_refl _
  | t + 2 => simp [ai_rng] at h
theorem ai_add_ok {rho : Nat → Int32} {u v w : ai_V} {y z : Int32} (hu : ai_num rho u y) (hv : ai_num rho v z) (h : ai_add u v = some w) : ai_num rho w (y + z) := by
  obtain ⟨t1, a, b⟩ := u
  obtain ⟨t2, c, d⟩ := v
  have es : y + z = Int32.ofInt (y.toInt + z.toInt) := by rw [Int32.ofInt_add, Int32.ofInt_toInt, Int32.ofInt_toInt]
  rcases hu with ⟨h0, h1, h2⟩ | ⟨h0, hy⟩ <;> rcases hv with ⟨k0, k1, k2⟩ | ⟨k0, hz⟩
  · have e1 : t1 = 0 := h0
    have e2 : t2 = 0 := k0
    subst e1; subst e2
    simp only [ai_add, Option.some.injEq] at h
    subst h
    have h1 : a ≤ y.toInt := h1
    have h2 : y.toInt ≤ b := h2
    have k1 : c ≤ z.toInt := k1
    have k2 : z.toInt ≤ d := k2
    exact ai_num_norm es (by omega) (by omega)
  · have e1 : t1 = 0 := h0
    have e2 : t2 = 1 := k0
    subst e1; subst e2
    have h1 : a ≤ y.toInt := h1
    have h2 : y.toInt ≤ b := h2
    have hz : z = rho c.toNat + Int32.ofInt d := hz
    simp only [ai_add, Option.some.injEq] at h
    cases he : ai_ieq a b with
    | false => rw [he] at h; simp only [cond_false] at h; subst h; exact ai_num_full _
    | true =>
      rw [he] at h
      simp only [cond_true] at h
      subst h
      have e := (ai_ieq_iff a b).mp he
      have ey : y = Int32.ofInt a := by rw [show a = y.toInt by omega, Int32.ofInt_toInt]
      refine Or.inr ⟨rfl, ?_⟩
      show y + z = rho c.toNat + Int32.ofInt (d + a)
      rw [hz, ey, Int32.ofInt_add, Int32.add_comm (Int32.ofInt a), Int32.add_assoc]
  · have e1 : t1 = 1 := h0
    have e2 : t2 = 0 := k0
    subst e1; subst e2
    have k1 : c ≤ z.toInt := k1
    have k2 : z.toInt ≤ d := k2
    have hy : y = rho a.toNat + Int32.ofInt b := hy
    simp only [ai_add, Option.some.injEq] at h
    cases he : ai_ieq c d with
    | false => rw [he] at h; simp only [cond_false] at h; subst h; exact ai_num_full _
    | true =>
      rw [he] at h
      simp only [cond_true] at h
      subst h
      have e := (ai_ieq_iff c d).mp he
      have ez : z = Int32.ofInt c := by rw [show c = z.toInt by omega, Int32.ofInt_toInt]
      refine Or.inr ⟨rfl, ?_⟩
      show y + z = rho a.toNat + Int32.ofInt (b + c)
      rw [hy, ez, Int32.ofInt_add, Int32.add_assoc]
  · have e1 : t1 = 1 := h0
    have e2 : t2 = 1 := k0
    subst e1; subst e2
    simp only [ai_add, Option.some.injEq] at h
    subst h
    exact ai_num_full _
theorem ai_sub_ok {rho : Nat → Int32} {u v w : ai_V} {y z : Int32} (hu : ai_num rho u y) (hv : ai_num rho v z) (h : ai_sub u v = some w) : ai_num rho w (y - z) := by
  obtain ⟨t1, a, b⟩ := u
  obtain ⟨t2, c, d⟩ := v
  have es : y - z = Int32.ofInt (y.toInt - z.toInt) := by rw [Int32.ofInt_sub, Int32.ofInt_toInt, Int32.ofInt_toInt]
  rcases hu with ⟨h0, h1, h2⟩ | ⟨h0, hy⟩ <;> rcases hv with ⟨k0, k1, k2⟩ | ⟨k0, hz⟩
  · have e1 : t1 = 0 := h0
    have e2 : t2 = 0 := k0
    subst e1; subst e2
    simp only [ai_sub, Option.some.injEq] at h
    subst h
    have h1 : a ≤ y.toInt := h1
    have h2 : y.toInt ≤ b := h2
    have k1 : c ≤ z.toInt := k1
    have k2 : z.toInt ≤ d := k2
    exact ai_num_norm es (by omega) (by omega)
  · have e1 : t1 = 0 := h0
    have e2 : t2 = 1 := k0
    subst e1; subst e2
    simp only [ai_sub, Option.some.injEq] at h
    subst h
    exact ai_num_full _
  · have e1 : t1 = 1 := h0
    have e2 : t2 = 0 := k0
    subst e1; subst e2
    have k1 : c ≤ z.toInt := k1
    have k2 : z.toInt ≤ d := k2
    have hy : y = rho a.toNat + Int32.ofInt b := hy
    simp only [ai_sub, Option.some.injEq] at h
    cases he : ai_ieq c d with
    | false => rw [he] at h; simp only [cond_false] at h; subst h; exact ai_num_full _
    | true =>
      rw [he] at h
      simp only [cond_true] at h
      subst h
      have e := (ai_ieq_iff c d).mp he
      have ez : z = Int32.ofInt c := by rw [show c = z.toInt by omega, Int32.ofInt_toInt]
      refine Or.inr ⟨rfl, ?_⟩
      show y - z = rho a.toNat + Int32.ofInt (b - c)
      rw [hy, ez, Int32.ofInt_sub, Int32.sub_eq_add_neg, Int32.sub_eq_add_neg, Int32.add_assoc]
  · have e1 : t1 = 1 := h0
    have e2 : t2 = 1 := k0
    subst e1; subst e2
    simp only [ai_sub, Option.some.injEq] at h
    subst h
    exact ai_num_full _
theorem ai_con_ok {f : Int32 → Int32 → Int32} {rho : Nat → Int32} {x : ai_E} {u v w : ai_V} {y z : Int32} (hE : ai_EV rho x) (hu : ai_num rho u y) (hv : ai_num rho v z) (h : ai_con f x u v = some w) : ai_num rho w (f y z) := by
  unfold ai_con at h
  cases h1 : ai_one x u with
  | none =>
    simp only [h1] at h
    cases hb : (ai_isn u && ai_isn v) with
    | false => rw [hb] at h; cases h
    | true => rw [hb] at h; cases h; exact ai_num_full _
  | some a =>
    cases h2 : ai_one x v with
    | none =>
      simp only [h1, h2] at h
      cases hb : (ai_isn u && ai_isn v) with
      | false => rw [hb] at h; cases h
      | true => rw [hb] at h; cases h; exact ai_num_full _
    | some b =>
      simp only [h1, h2, Option.some.injEq] at h
      subst h
      rw [← (ai_one_ok hE hu h1).2, ← (ai_one_ok hE hv h2).2]
      exact ai_num_i rfl
theorem ai_mul_ok {rho : Nat → Int32} {x : ai_E} {u v w : ai_V} {y z : Int32} (hE : ai_EV rho x) (hu : ai_num rho u y) (hv : ai_num rho v z) (h : ai_mul x u v = some w) : ai_num rho w (y * z) := by
  unfold ai_mul at h
  cases h1 : ai_one x u with
  | none =>
    simp only [h1] at h
    cases hb : (ai_isn u && ai_isn v) with
    | false => rw [hb] at h; cases h
    | true => rw [hb] at h; cases h; exact ai_num_full _
  | some a =>
    cases h2 : ai_one x v with
    | none =>
      simp only [h1, h2] at h
      cases hb : (ai_isn u && ai_isn v) with
      | false => rw [hb] at h; cases h
      | true => rw [hb] at h; cases h; exact ai_num_full _
    | some b =>
      simp only [h1, h2, Option.some.injEq] at h
      subst h
      have e1 := (ai_one_ok hE hu h1).2
      have e2 := (ai_one_ok hE hv h2).2
      exact ai_num_norm (y := a * b) (by rw [e1, e2, Int32.ofInt_mul]) (Int.le_refl _) (Int.le_refl _)
theorem ai_and_mask (y : Int32) {b : Int} (h0 : 0 ≤ b) (h1 : b ≤ 2147483647) : 0 ≤ (y &&& Int32.ofInt b).toInt ∧ (y &&& Int32.ofInt b).toInt ≤ b := by
  obtain ⟨k, rfl⟩ : ∃ k : Nat, b = (k : Int) := ⟨b.toNat, by omega⟩
  have ek : Int32.ofInt (k : Int) = nI k := rfl
  rw [ek]
  have e : (y &&& nI k) = nI (y.toBitVec.toNat &&& k) := by
    apply Int32.toBitVec_inj.mp
    rw [Int32.toBitVec_and]
    apply BitVec.eq_of_toNat_eq
    rw [BitVec.toNat_and]
    have e1 : (nI k).toBitVec.toNat = k := pk_tn (by omega)
    have hle : y.toBitVec.toNat &&& k ≤ k := Nat.and_le_right
    have e2 : (nI (y.toBitVec.toNat &&& k)).toBitVec.toNat = y.toBitVec.toNat &&& k := pk_tn (by omega)
    rw [e1, e2]
  have hle : y.toBitVec.toNat &&& k ≤ k := Nat.and_le_right
  rw [e, nI_toInt (by omega)]
  omega
theorem ai_one_rng {x : ai_E} {v : ai_V} {a : Int} (h : ai_one x v = some a) : ∃ q, ai_rng x v = some q ∧ q.1 = a := by
  unfold ai_one at h
  cases hr : ai_rng x v with
  | none => rw [hr] at h; cases h
  | some q =>
    obtain ⟨c, d⟩ := q
    rw [hr] at h
    cases he : ai_ieq c d with
    | false => simp only [he, cond_false] at h; cases h
    | true => simp only [he, cond_true, Option.some.injEq] at h; exact ⟨_, rfl, h⟩
def ai_D (rho : Nat → Int32) : Prop := rho 6 = rho 2 / 100 ∧ rho 7 = rho 2 - rho 2 / 100 * 100 ∧ rho 8 = rho 0 &&& 31
theorem ai_and_ok {rho : Nat → Int32} (hD : ai_D rho) {x : ai_E} {u v w : ai_V} {y z : Int32} (hE : ai_EV rho x) (hu : ai_num rho u y) (hv : ai_num rho v z) (h : ai_and x u v = some w) : ai_num rho w (y &&& z) := by
  unfold ai_and at h
  cases h1 : ai_one x u with
  | none =>
    cases h2 : ai_one x v with
    | none =>
      simp only [h1, h2] at h
      cases hb : (ai_isn u && ai_isn v) with
      | false => rw [hb] at h; cases h
      | true => rw [hb] at h; cases h; exact ai_num_full _
    | some b =>
      simp only [h1, h2] at h
      obtain ⟨ez, e2⟩ := ai_one_ok hE hv h2
      have hz := ai_le32 z
      cases hv0 : (ai_v0 u && ai_ieq b 31) with
      | true =>
        rw [hv0] at h
        simp only [cond_true, Option.some.injEq] at h
        subst h
        unfold ai_v0 at hv0
        simp only [Bool.and_eq_true, ai_ieq_iff] at hv0
        obtain ⟨⟨⟨u1, u2⟩, u3⟩, u4⟩ := hv0
        have u1 : u.1 = 1 := Nat.eq_of_beq_eq_true u1
        rcases hu with ⟨q1, -⟩ | ⟨-, q2⟩
        · omega
        · refine Or.inr ⟨rfl, ?_⟩
          rw [u2, u3] at q2
          have q3 : y = rho 0 := by
            rw [q2]
            apply Int32.toInt_inj.mp
            have := ai_le32 (rho 0)
            show (rho 0 + Int32.ofInt 0).toInt = (rho 0).toInt
            rw [ai_var_toInt (by omega) (by omega)]
            omega
          show y &&& z = rho 8 + Int32.ofInt 0
          have q4 : rho 8 + Int32.ofInt 0 = rho 8 := by
            apply Int32.toInt_inj.mp
            have := ai_le32 (rho 8)
            rw [ai_var_toInt (by omega) (by omega)]
            omega
          rw [q4, hD.2.2, q3, e2, u4]
          rfl
      | false =>
        rw [hv0] at h
        simp only [cond_false] at h
        cases hb : (ai_isn u && ai_ile 0 b) with
        | false =>
          rw [hb] at h
          simp only [cond_false] at h
          cases hc : ai_isn u with
          | false => rw [hc] at h; cases h
          | true => rw [hc] at h; cases h; exact ai_num_full _
        | true =>
          rw [hb] at h
          simp only [cond_true, Option.some.injEq] at h
          subst h
          rw [Bool.and_eq_true, ai_ile_iff] at hb
          rw [e2]
          obtain ⟨q1, q2⟩ := ai_and_mask y (b := b) hb.2 (by omega)
          exact Or.inl ⟨rfl, q1, q2⟩
  | some a =>
    cases h2 : ai_one x v with
    | none =>
      simp only [h1, h2] at h
      cases hb : (ai_isn u && ai_isn v) with
      | false => rw [hb] at h; cases h
      | true => rw [hb] at h; cases h; exact ai_num_full _
    | some b =>
      simp only [h1, h2, Option.some.injEq] at h
      subst h
      rw [← (ai_one_ok hE hu h1).2, ← (ai_one_ok hE hv h2).2]
      exact ai_num_i rfl
end
section
/-! ===== division, comparisons, values one by one ===== -/
/-- the two numbers that are made of the script's third: by 100 -/
theorem ai_ofInt100 : Int32.ofInt 100 = 100 := by decide
theorem ai_ofInt0 (x : Int32) : x + Int32.ofInt 0 = x := by
  have : Int32.ofInt 0 = 0 := by decide
  rw [this, Int32.add_zero]
theorem ai_div_ne {rho : Nat → Int32} {x : ai_E} {u v w : ai_V} {z : Int32} (hE : ai_EV rho x) (hv : ai_num rho v z) (h : ai_div x u v = some w) : ¬ z = 0 := by
  unfold ai_div at h
  cases h2 : ai_one x v with
  | none => simp only [h2] at h; cases h
  | some b =>
    simp only [h2] at h
    obtain ⟨ez, -⟩ := ai_one_ok hE hv h2
    cases hb : ai_ieq b 0 with
    | true => rw [hb] at h; cases h
    | false =>
      intro q
      have : b = 0 := by rw [← ez, q]; rfl
      rw [(ai_ieq_iff b 0).mpr this] at hb
      cases hb
theorem ai_div_ok {rho : Nat → Int32} (hD : ai_D rho) {x : ai_E} {u v w : ai_V} {y z : Int32} (hE : ai_EV rho x) (hu : ai_num rho u y) (hv : ai_num rho v z) (h : ai_div x u v = some w) : ai_num rho w (y / z) := by
  unfold ai_div at h
  cases h2 : ai_one x v with
  | none => simp only [h2] at h; cases h
  | some b =>
    simp only [h2] at h
    obtain ⟨ez, e2⟩ := ai_one_ok hE hv h2
    cases hb : ai_ieq b 0 with
    | true => rw [hb] at h; cases h
    | false =>
      rw [hb] at h
      simp only [cond_false] at h
      split at h
      · cases hc : ai_ieq b 100 with
        | false => rw [hc] at h; cases h; exact ai_num_full _
        | true =>
          rw [hc] at h
          cases h
          rcases hu with ⟨h0, -, -⟩ | ⟨-, hy⟩
          · cases h0
          · have hy : y = rho 2 + Int32.ofInt 0 := hy
            rw [ai_ofInt0] at hy
            refine Or.inr ⟨rfl, ?_⟩
            show y / z = rho 6 + Int32.ofInt 0
            rw [ai_ofInt0, hD.1, hy, e2, (ai_ieq_iff b 100).mp hc, ai_ofInt100]
      · cases h1 : ai_one x u with
        | none =>
          simp only [h1] at h
          cases hc : ai_isn u with
          | false => rw [hc] at h; cases h
          | true => rw [hc] at h; cases h; exact ai_num_full _
        | some a =>
          simp only [h1, Option.some.injEq] at h
          subst h
          rw [← (ai_one_ok hE hu h1).2, ← e2]
          exact ai_num_i rfl
theorem ai_rem_ne {rho : Nat → Int32} {x : ai_E} {u v w : ai_V} {z : Int32} (hE : ai_EV rho x) (hv : ai_num rho v z) (h : ai_rem x u v = some w) : ¬ z = 0 := by
  unfold ai_rem at h
  cases h2 : ai_one x v with
  | none => simp only [h2] at h; cases h
  | some b =>
    simp only [h2] at h
    obtain ⟨ez, -⟩ := ai_one_ok hE hv h2
    cases hb : ai_ieq b 0 with
    | true => rw [hb] at h; cases h
    | false =>
      intro q
      have : b = 0 := by rw [← ez, q]; rfl
      rw [(ai_ieq_iff b 0).mpr this] at hb
      cases hb
theorem ai_rem_ok {rho : Nat → Int32} (hD : ai_D rho) {x : ai_E} {u v w : ai_V} {y z : Int32} (hE : ai_EV rho x) (hu : ai_num rho u y) (hv : ai_num rho v z) (h : ai_rem x u v = some w) : ai_num rho w (y - y / z * z) := by
  unfold ai_rem at h
  cases h2 : ai_one x v with
  | none => simp only [h2] at h; cases h
  | some b =>
    simp only [h2] at h
    obtain ⟨ez, e2⟩ := ai_one_ok hE hv h2
    cases hb : ai_ieq b 0 with
    | true => rw [hb] at h; cases h
    | false =>
      rw [hb] at h
      simp only [cond_false] at h
      split at h
      · cases hc : ai_ieq b 100 with
        | false => rw [hc] at h; cases h; exact ai_num_full _
        | true =>
          rw [hc] at h
          cases h
          rcases hu with ⟨h0, -, -⟩ | ⟨-, hy⟩
          · cases h0
          · have hy : y = rho 2 + Int32.ofInt 0 := hy
            rw [ai_ofInt0] at hy
            refine Or.inr ⟨rfl, ?_⟩
            show y - y / z * z = rho 7 + Int32.ofInt 0
            rw [ai_ofInt0, hD.2.1, hy, e2, (ai_ieq_iff b 100).mp hc, ai_ofInt100]
      · cases h1 : ai_one x u with
        | none =>
          simp only [h1] at h
          cases hc : ai_isn u with
          | false => rw [hc] at h; cases h
          | true => rw [hc] at h; cases h; exact ai_num_full _
        | some a =>
          simp only [h1, Option.some.injEq] at h
          subst h
          rw [← (ai_one_ok hE hu h1).2, ← e2]
          exact ai_num_i rfl
/-- a list of ways: if the thing holds, some way says so, and so if it doesn't -/
def ai_way (rho : Nat → Int32) (l : ai_B) (c : Prop) : Prop := (c → ∃ q ∈ l, q.1 = true ∧ ai_EV rho q.2) ∧ (¬ c → ∃ q ∈ l, q.1 = false ∧ ai_EV rho q.2)
theorem ai_lt_ok {rho : Nat → Int32} {x : ai_E} {u v : ai_V} {y z : Int32} {l : ai_B} (hE : ai_EV rho x) (hu : ai_num rho u y) (hv : ai_num rho v z) (h : ai_lt x u v = some l) : ai_way rho l (y < z) := by
  unfold ai_lt at h
  cases h1 : ai_rng x u with
  | none => simp only [h1] at h; cases h
  | some q1 =>
    obtain ⟨a, b⟩ := q1
    cases h2 : ai_rng x v with
    | none => simp only [h1, h2] at h; cases h
    | some q2 =>
      obtain ⟨c, d⟩ := q2
      simp only [h1, h2, Option.some.injEq] at h
      subst h
      obtain ⟨r1, r2⟩ := ai_rng_ok hE hu h1
      obtain ⟨r3, r4⟩ := ai_rng_ok hE hv h2
      have by1 := ai_le32 y
      have bz1 := ai_le32 z
      rw [ai_way, Int32.lt_iff_toInt_lt]
      constructor
      · intro hc
        refine ⟨(true, ai_ref (ai_ref x u ai_lo (d - 1)) v (a + 1) ai_hi), List.mem_append_left _ ?_, rfl, ?_⟩
        · rw [(ai_ilt_iff a d).mpr (by omega)]; exact List.mem_singleton.mpr rfl
        · exact ai_ref_ok (ai_ref_ok hE hu (by rw [ai_lo_eq]; omega) (by omega)) hv (by omega) (by rw [ai_hi_eq]; omega)
      · intro hc
        refine ⟨(false, ai_ref (ai_ref x u c ai_hi) v ai_lo b), List.mem_append_right _ ?_, rfl, ?_⟩
        · rw [(ai_ile_iff c b).mpr (by omega)]; exact List.mem_singleton.mpr rfl
        · exact ai_ref_ok (ai_ref_ok hE hu (by omega) (by rw [ai_hi_eq]; omega)) hv (by rw [ai_lo_eq]; omega) (by omega)
theorem ai_le_ok {rho : Nat → Int32} {x : ai_E} {u v : ai_V} {y z : Int32} {l : ai_B} (hE : ai_EV rho x) (hu : ai_num rho u y) (hv : ai_num rho v z) (h : ai_le x u v = some l) : ai_way rho l (y ≤ z) := by
  unfold ai_le at h
  cases h1 : ai_rng x u with
  | none => simp only [h1] at h; cases h
  | some q1 =>
    obtain ⟨a, b⟩ := q1
    cases h2 : ai_rng x v with
    | none => simp only [h1, h2] at h; cases h
    | some q2 =>
      obtain ⟨c, d⟩ := q2
      simp only [h1, h2, Option.some.injEq] at h
      subst h
      obtain ⟨r1, r2⟩ := ai_rng_ok hE hu h1
      obtain ⟨r3, r4⟩ := ai_rng_ok hE hv h2
      have by1 := ai_le32 y
      have bz1 := ai_le32 z
      rw [ai_way, Int32.le_iff_toInt_le]
      constructor
      · intro hc
        refine ⟨(true, ai_ref (ai_ref x u ai_lo d) v a ai_hi), List.mem_append_left _ ?_, rfl, ?_⟩
        · rw [(ai_ile_iff a d).mpr (by omega)]; exact List.mem_singleton.mpr rfl
        · exact ai_ref_ok (ai_ref_ok hE hu (by rw [ai_lo_eq]; omega) (by omega)) hv (by omega) (by rw [ai_hi_eq]; omega)
      · intro hc
        refine ⟨(false, ai_ref (ai_ref x u (c + 1) ai_hi) v ai_lo (b - 1)), List.mem_append_right _ ?_, rfl, ?_⟩
        · rw [(ai_ilt_iff c b).mpr (by omega)]; exact List.mem_singleton.mpr rfl
        · exact ai_ref_ok (ai_ref_ok hE hu (by omega) (by rw [ai_hi_eq]; omega)) hv (by rw [ai_lo_eq]; omega) (by omega)
theorem ai_eq_ok {rho : Nat → Int32} {x : ai_E} {u v : ai_V} {y z : Int32} {l : ai_B} (hE : ai_EV rho x) (hu : ai_num rho u y) (hv : ai_num rho v z) (h : ai_eq x u v = some l) : ai_way rho l (y = z) := by
  unfold ai_eq at h
  cases h1 : ai_rng x u with
  | none => simp only [h1] at h; cases h
  | some q1 =>
    obtain ⟨a, b⟩ := q1
    cases h2 : ai_rng x v with
    | none => simp only [h1, h2] at h; cases h
    | some q2 =>
      obtain ⟨c, d⟩ := q2
      simp only [h1, h2, Option.some.injEq] at h
      subst h
      obtain ⟨r1, r2⟩ := ai_rng_ok hE hu h1
      obtain ⟨r3, r4⟩ := ai_rng_ok hE hv h2
      have by1 := ai_le32 y
      have bz1 := ai_le32 z
      constructor
      · intro hc
        subst hc
        refine ⟨(true, ai_ref (ai_ref x u c d) v a b), List.mem_append_left _ ?_, rfl, ?_⟩
        · rw [(ai_ile_iff a d).mpr (by omega), (ai_ile_iff c b).mpr (by omega)]; exact List.mem_singleton.mpr rfl
        · exact ai_ref_ok (ai_ref_ok hE hu (by omega) (by omega)) hv (by omega) (by omega)
      · intro hc
        have hne : ¬ y.toInt = z.toInt := fun q => hc (Int32.toInt_inj.mp q)
        cases hs : (Nat.beq u.1 1 && Nat.beq v.1 1 && ai_ieq u.2.1 v.2.1 && ai_ieq u.2.2 v.2.2) with
        | true =>
          exfalso
          simp only [Bool.and_eq_true, Nat.beq_eq, ai_ieq_iff] at hs
          obtain ⟨⟨⟨s1, s2⟩, s3⟩, s4⟩ := hs
          rcases hu with ⟨k0, -, -⟩ | ⟨-, hy⟩
          · omega
          · rcases hv with ⟨k0, -, -⟩ | ⟨-, hz⟩
            · omega
            · exact hc (by rw [hy, hz, s3, s4])
        | false =>
          cases hcd : ai_ieq c d with
          | false => exact ⟨(false, x), List.mem_append_right _ (by exact List.mem_singleton.mpr rfl), rfl, hE⟩
          | true =>
            have e := (ai_ieq_iff c d).mp hcd
            have ez : z.toInt = c := by omega
            by_cases hlt : y.toInt < c
            · refine ⟨(false, ai_ref x u ai_lo (c - 1)), List.mem_append_right _ ?_, rfl, ?_⟩
              · show _ ∈ (cond (ai_ilt a c) _ _) ++ _
                rw [(ai_ilt_iff a c).mpr (by omega)]
                exact List.mem_append_left _ (List.mem_singleton.mpr rfl)
              · exact ai_ref_ok hE hu (by rw [ai_lo_eq]; omega) (by omega)
            · refine ⟨(false, ai_ref x u (c + 1) ai_hi), List.mem_append_right _ ?_, rfl, ?_⟩
              · show _ ∈ _ ++ (cond (ai_ilt c b) _ _)
                rw [(ai_ilt_iff c b).mpr (by omega)]
                exact List.mem_append_right _ (List.mem_singleton.mpr rfl)
              · exact ai_ref_ok hE hu (by omega) (by rw [ai_hi_eq]; omega)
theorem ai_neg_ok {rho : Nat → Int32} {l : Option ai_B} {l' : ai_B} {c : Prop} (h0 : ∀ l0, l = some l0 → ai_way rho l0 c) (h : ai_neg l = some l') : ai_way rho l' (¬ c) := by
  cases l with
  | none => cases h
  | some l0 =>
    simp only [ai_neg, Option.some.injEq] at h
    subst h
    obtain ⟨k1, k2⟩ := h0 l0 rfl
    constructor
    · intro hc
      obtain ⟨q, hq, e1, e2⟩ := k2 hc
      exact ⟨_, List.mem_map.mpr ⟨q, hq, rfl⟩, by rw [e1]; rfl, e2⟩
    · intro hc
      obtain ⟨q, hq, e1, e2⟩ := k1 (Classical.byContradiction hc)
      exact ⟨_, List.mem_map.mpr ⟨q, hq, rfl⟩, by rw [e1]; rfl, e2⟩
theorem ai_way.iff {rho : Nat → Int32} {l : ai_B} {c d : Prop} (h : ai_way rho l c) (e : c ↔ d) : ai_way rho l d := ⟨fun q => h.1 (e.mpr q), fun q => h.2 (fun z => q (e.mp z))⟩
def ai_cd (k : ClassFile.Cond) (y z : Int32) : Prop := match k with
  | .eq => y = z
  | .ne => ¬ y = z
  | .lt => y < z
  | .ge => ¬ y < z
  | .gt => ¬ y ≤ z
  | .le => y ≤ z
theorem ai_cmp_ok {rho : Nat → Int32} {k : ClassFile.Cond} {x : ai_E} {u v : ai_V} {y z : Int32} {l : ai_B} (hE : ai_EV rho x) (hu : ai_num rho u y) (hv : ai_num rho v z) (h : ai_cmp k x u v = some l) : ai_way rho l (ai_cd k y z) := by
  cases k with
  | eq => exact ai_eq_ok hE hu hv h
  | ne => exact ai_neg_ok (fun l0 h0 => ai_eq_ok hE hu hv h0) h
  | lt => exact ai_lt_ok hE hu hv h
  | ge => exact ai_neg_ok (fun l0 h0 => ai_lt_ok hE hu hv h0) h
  | gt => exact ai_neg_ok (fun l0 h0 => ai_le_ok hE hu hv h0) h
  | le => exact ai_le_ok hE hu hv h
theorem ai_vals_ok {rho : Nat → Int32} {x : ai_E} {v : ai_V} {z : Int32} {l : List (Nat × ai_E)} (hE : ai_EV rho x) (hv : ai_num rho v z) (h : ai_vals x v = some l) : ∃ q ∈ l, z.toInt = (q.1 : Int) ∧ z.toNatClampNeg = q.1 ∧ ¬ z < 0 ∧ ai_EV rho q.2 := by
  unfold ai_vals at h
  cases h1 : ai_rng x v with
  | none => simp only [h1] at h; cases h
  | some q1 =>
    obtain ⟨a, b⟩ := q1
    simp only [h1] at h
    obtain ⟨r1, r2⟩ := ai_rng_ok hE hv h1
    cases hc : (ai_ile 0 a && ai_ile b (a + 12)) with
    | false => rw [hc] at h; cases h
    | true =>
      rw [hc] at h
      simp only [cond_true, Option.some.injEq] at h
      subst h
      rw [Bool.and_eq_true, ai_ile_iff, ai_ile_iff] at hc
      have e1 : z.toInt = ((a.toNat + (z.toInt - a).toNat : Nat) : Int) := by omega
      refine ⟨_, List.mem_map.mpr ⟨(z.toInt - a).toNat, List.mem_range.mpr (by omega), rfl⟩, e1, ?_, ?_, ?_⟩
      · show z.toInt.toNat = a.toNat + (z.toInt - a).toNat
        omega
      · rw [Int32.lt_iff_toInt_lt]
        show ¬ z.toInt < 0
        omega
      · exact ai_ref_ok hE hv (by omega) (by omega)
end
section
/-! ===== how the interpreter's values, stacks, locals and cells stand for the machine's ===== -/
def ai_AD (ws ws' : va_W) : Prop := ∀ (i a : Nat) (e : va_E), ws[i]? = some (a, e) → ∃ e', ws'[i]? = some (a, e')
theorem ai_AD.rf {ws : va_W} : ai_AD ws ws := fun _ _ e h => ⟨e, h⟩
theorem ai_AD.tr {w1 w2 w3 : va_W} (h1 : ai_AD w1 w2) (h2 : ai_AD w2 w3) : ai_AD w1 w3 := fun i a e h => by
  obtain ⟨e', h'⟩ := h1 i a e h
  exact h2 i a e' h'
theorem ai_AD.set {ws : va_W} {i a : Nat} {e0 e : va_E} (h : ws[i]? = some (a, e0)) : ai_AD ws (ws.set i (a, e)) := fun j b e1 hj => by
  rw [List.getElem?_set]
  by_cases hij : i = j
  · subst hij
    cases Option.some.inj (h.symm.trans hj)
    have hl : i < ws.length := (List.getElem?_eq_some_iff.mp h).1
    exact ⟨e, by simp [hl]⟩
  · exact ⟨e1, by simp [hij, hj]⟩
theorem ai_AD.app {ws w2 : va_W} : ai_AD ws (ws ++ w2) := fun i a e h => ⟨e, by rw [List.getElem?_append_left (List.getElem?_eq_some_iff.mp h).1]; exact h⟩
def ai_Rv (b0 : Nat) (rho : Nat → Int32) (ws : va_W) (v : ai_V) (w : Value) : Prop :=
  (v.1 ≤ 1 ∧ ∃ z : Int32, w = .int z ∧ ai_num rho v z) ∨ (v.1 = 2 ∧ w = .null) ∨ (v.1 = 3 ∧ ∃ (a : Nat) (e : va_E), ws[v.2.1.toNat]? = some (a, e) ∧ w = .ref a) ∨
  ((v.1 = 4 ∨ v.1 = 5) ∧ ∃ z : Int32, w = .long z.toInt64 ∧ ai_num rho (v.1 - 4, v.2) z) ∨ (v.1 = 6 ∧ w = .ref b0) ∨ (v.1 = 7 ∧ ∃ a : Nat, w = .ref a)
section RV
variable {b0 : Nat} {rho : Nat → Int32} {ws ws' : va_W} {v : ai_V} {w : Value}
theorem ai_Rv.mono (h : ai_Rv b0 rho ws v w) (hA : ai_AD ws ws') : ai_Rv b0 rho ws' v w := by
  rcases h with h | h | ⟨h, a, e, h1, h2⟩ | h | h | h
  · exact Or.inl h
  · exact Or.inr (Or.inl h)
  · obtain ⟨e', h1'⟩ := hA _ _ _ h1
    exact Or.inr (Or.inr (Or.inl ⟨h, a, e', h1', h2⟩))
  · exact Or.inr (Or.inr (Or.inr (Or.inl h)))
  · exact Or.inr (Or.inr (Or.inr (Or.inr (Or.inl h))))
  · exact Or.inr (Or.inr (Or.inr (Or.inr (Or.inr h))))
theorem ai_Rv.int (h : ai_Rv b0 rho ws v w) (hv : v.1 ≤ 1) : ∃ z : Int32, w = .int z ∧ ai_num rho v z := by
  rcases h with h | h | h | h | h | h
  · exact h.2
  all_goals (exfalso; omega)
theorem ai_Rv.nul (h : ai_Rv b0 rho ws v w) (hv : v.1 = 2) : w = .null := by
  rcases h with h | h | h | h | h | h
  · exfalso; omega
  · exact h.2
  all_goals (exfalso; omega)
theorem ai_Rv.rfr (h : ai_Rv b0 rho ws v w) (hv : v.1 = 3) : ∃ (a : Nat) (e : va_E), ws[v.2.1.toNat]? = some (a, e) ∧ w = .ref a := by
  rcases h with h | h | h | h | h | h
  · exfalso; omega
  · exfalso; omega
  · exact h.2
  all_goals (exfalso; omega)
theorem ai_Rv.lng (h : ai_Rv b0 rho ws v w) (hv : v.1 = 4 ∨ v.1 = 5) : ∃ z : Int32, w = .long z.toInt64 ∧ ai_num rho (v.1 - 4, v.2) z := by
  rcases h with h | h | h | h | h | h
  · exfalso; omega
  · exfalso; omega
  · exfalso; omega
  · exact h.2
  all_goals (exfalso; omega)
theorem ai_Rv.scr (h : ai_Rv b0 rho ws v w) (hv : v.1 = 6) : w = .ref b0 := by
  rcases h with h | h | h | h | h | h
  · exfalso; omega
  · exfalso; omega
  · exfalso; omega
  · exfalso; omega
  · exact h.2
  · exfalso; omega
/-- a value that is no number: null or a reference -/
theorem ai_Rv.rn (h : ai_Rv b0 rho ws v w) (hv : v.1 = 2 ∨ v.1 = 3) : w = .null ∨ ∃ a : Nat, w = .ref a := by
  rcases hv with hv | hv
  · exact Or.inl (h.nul hv)
  · obtain ⟨a, e, -, h2⟩ := h.rfr hv
    exact Or.inr ⟨a, h2⟩
theorem ai_Rv.cat (h : ai_Rv b0 rho ws v w) (hv : ¬ (v.1 = 4 ∨ v.1 = 5)) : w.category = 1 := by
  rcases h with ⟨-, z, rfl, -⟩ | ⟨-, rfl⟩ | ⟨-, a, e, -, rfl⟩ | ⟨h, -⟩ | ⟨-, rfl⟩ | ⟨-, a, rfl⟩
  · rfl
  · rfl
  · rfl
  · exact absurd h hv
  · rfl
  · rfl
/-- what a load or a store may meet -/
theorem ai_Rv.kind (h : ai_Rv b0 rho ws v w) : (∃ z : Int32, w = .int z) ∨ w = .null ∨ (∃ a : Nat, w = .ref a) ∨ (∃ z : Int64, w = .long z) := by
  rcases h with ⟨-, z, rfl, -⟩ | ⟨-, rfl⟩ | ⟨-, a, e, -, rfl⟩ | ⟨-, z, rfl, -⟩ | ⟨-, rfl⟩ | ⟨-, a, rfl⟩
  · exact Or.inl ⟨z, rfl⟩
  · exact Or.inr (Or.inl rfl)
  · exact Or.inr (Or.inr (Or.inl ⟨_, rfl⟩))
  · exact Or.inr (Or.inr (Or.inr ⟨_, rfl⟩))
  · exact Or.inr (Or.inr (Or.inl ⟨_, rfl⟩))
  · exact Or.inr (Or.inr (Or.inl ⟨_, rfl⟩))
theorem ai_Rv.mkI {z : Int32} (h : ai_num rho v z) : ai_Rv b0 rho ws v (.int z) := Or.inl ⟨by rcases h with h | h <;> omega, z, rfl, h⟩
theorem ai_Rv.mkN {a b : Int} : ai_Rv b0 rho ws (2, a, b) .null := Or.inr (Or.inl ⟨rfl, rfl⟩)
end RV
/-- stacks, fields -/
def ai_SR (b0 : Nat) (rho : Nat → Int32) (ws : va_W) : List ai_V → List Value → Prop
  | [], [] => True
  | v :: st, w :: vs => ai_Rv b0 rho ws v w ∧ ai_SR b0 rho ws st vs
  | [], _ :: _ => False
  | _ :: _, [] => False
section SR
variable {b0 : Nat} {rho : Nat → Int32} {ws ws' : va_W}
theorem ai_SR.mono : ∀ {st : List ai_V} {vs : List Value}, ai_SR b0 rho ws st vs → ai_AD ws ws' → ai_SR b0 rho ws' st vs
  | [], [], _, _ => trivial
  | _ :: _, _ :: _, h, hA => ⟨h.1.mono hA, ai_SR.mono h.2 hA⟩
theorem ai_SR.cons {v : ai_V} {st : List ai_V} {vs : List Value} (h : ai_SR b0 rho ws (v :: st) vs) : ∃ w r, vs = w :: r ∧ ai_Rv b0 rho ws v w ∧ ai_SR b0 rho ws st r := by
  cases vs with
  | nil => exact h.elim
  | cons w r => exact ⟨w, r, rfl, h.1, h.2⟩
theorem ai_SR.nil {vs : List Value} (h : ai_SR b0 rho ws [] vs) : vs = [] := by
  cases vs with
  | nil => rfl
  | cons w r => exact h.elim
theorem ai_SR.len : ∀ {st : List ai_V} {vs : List Value}, ai_SR b0 rho ws st vs → vs.length = st.length
  | [], [], _ => rfl
  | _ :: _, _ :: _, h => congrArg Nat.succ (ai_SR.len h.2)
theorem ai_SR.at : ∀ {st : List ai_V} {vs : List Value} {k : Nat} {v : ai_V}, ai_SR b0 rho ws st vs → st[k]? = some v → ∃ w, vs[k]? = some w ∧ ai_Rv b0 rho ws v w
  | _ :: _, w :: _, 0, _, h, hk => by cases hk; exact ⟨w, rfl, h.1⟩
  | _ :: _, _ :: _, k + 1, _, h, hk => ai_SR.at (k := k) h.2 hk
theorem ai_SR.set : ∀ {st : List ai_V} {vs : List Value} {k : Nat} {v : ai_V} {w : Value}, ai_SR b0 rho ws st vs → ai_Rv b0 rho ws v w → ai_SR b0 rho ws (st.set k v) (vs.set k w)
  | [], [], _, _, _, _, _ => trivial
  | _ :: _, _ :: _, 0, _, _, h, hv => ⟨hv, h.2⟩
  | _ :: _, _ :: _, k + 1, _, _, h, hv => ⟨h.1, ai_SR.set (k := k) h.2 hv⟩
theorem ai_SR.app : ∀ {st s2 : List ai_V} {vs v2 : List Value}, ai_SR b0 rho ws st vs → ai_SR b0 rho ws s2 v2 → ai_SR b0 rho ws (st ++ s2) (vs ++ v2)
  | [], _, [], _, _, h2 => h2
  | _ :: _, _, _ :: _, _, h, h2 => ⟨h.1, ai_SR.app h.2 h2⟩
theorem ai_SR.rev : ∀ {st : List ai_V} {vs : List Value}, ai_SR b0 rho ws st vs → ai_SR b0 rho ws st.reverse vs.reverse
  | [], [], _ => trivial
  | v :: st, w :: vs, h => by
    rw [List.reverse_cons, List.reverse_cons]
    exact ai_SR.app (ai_SR.rev h.2) ⟨h.1, trivial⟩
theorem ai_SR.take : ∀ {st : List ai_V} {vs : List Value} (n : Nat), ai_SR b0 rho ws st vs → ai_SR b0 rho ws (st.take n) (vs.take n)
  | [], [], n, _ => by simp [ai_SR]
  | _ :: _, _ :: _, 0, _ => trivial
  | _ :: _, _ :: _, n + 1, h => ⟨h.1, ai_SR.take n h.2⟩
theorem ai_SR.drop : ∀ {st : List ai_V} {vs : List Value} (n : Nat), ai_SR b0 rho ws st vs → ai_SR b0 rho ws (st.drop n) (vs.drop n)
  | [], [], n, _ => by simp [ai_SR]
  | _ :: _, _ :: _, 0, h => h
  | _ :: _, _ :: _, n + 1, h => ai_SR.drop n h.2
end SR
/-- locals -/
def ai_LR (b0 : Nat) (rho : Nat → Int32) (ws : va_W) (loc : List ai_V) (ls : Array Slot) (nL : Nat) : Prop :=
  loc.length = nL ∧ ∃ lv, lv_has ls nL lv ∧ ∀ (i : Nat) (v : ai_V), loc[i]? = some v → v.1 ≠ 9 → ∃ w, ai_Rv b0 rho ws v w ∧ w.category = 1 ∧ (i, w) ∈ lv
section LR
variable {b0 : Nat} {rho : Nat → Int32} {ws ws' : va_W} {loc : List ai_V} {ls : Array Slot} {nL : Nat}
theorem ai_LR.mono (h : ai_LR b0 rho ws loc ls nL) (hA : ai_AD ws ws') : ai_LR b0 rho ws' loc ls nL := by
  obtain ⟨h1, lv, h2, h3⟩ := h
  exact ⟨h1, lv, h2, fun i v hi hv => by
    obtain ⟨w, q1, q2, q3⟩ := h3 i v hi hv
    exact ⟨w, q1.mono hA, q2, q3⟩⟩
theorem ai_LR.sz (h : ai_LR b0 rho ws loc ls nL) : ls.size = nL := by
  obtain ⟨-, lv, h2, -⟩ := h
  exact h2.1
theorem ai_LR.at (h : ai_LR b0 rho ws loc ls nL) {k : Nat} (hk : (ai_nth ai_un loc k).1 ≠ 9) : ∃ w, ai_Rv b0 rho ws (ai_nth ai_un loc k) w ∧ w.category = 1 ∧ ls[k]? = some (.val w) := by
  obtain ⟨-, lv, h2, h3⟩ := h
  rw [ai_nth_eq] at hk ⊢
  cases hl : loc[k]? with
  | none => rw [hl] at hk; exact absurd rfl hk
  | some v =>
    rw [hl] at hk
    obtain ⟨w, q1, q2, q3⟩ := h3 k v hl hk
    exact ⟨w, q1, q2, h2.2.2 (k, w) q3⟩
/-- the new list of locals behind a store -/
theorem ai_LR.upd {lv : List (Nat × Value)} {ls' : Array Slot} {k : Nat} {v : ai_V} {w : Value} (hl : loc.length = nL) (h3 : ∀ (i : Nat) (v : ai_V), loc[i]? = some v → v.1 ≠ 9 → ∃ w, ai_Rv b0 rho ws v w ∧ w.category = 1 ∧ (i, w) ∈ lv)
    (h' : lv_has ls' nL ((k, w) :: lv.filter (fun q => !(q.1 == k) && !(q.1 + 1 == k && q.2.category == 2)))) (hv : ai_Rv b0 rho ws v w) (hc : w.category = 1) : ai_LR b0 rho ws (ai_upd loc k v) ls' nL := by
  rw [ai_upd_eq]
  refine ⟨by rw [List.length_set]; exact hl, _, h', fun i u hi hu => ?_⟩
  rw [List.getElem?_set] at hi
  by_cases hik : k = i
  · subst hik
    rw [if_pos rfl] at hi
    by_cases hlt : k < loc.length
    · rw [if_pos hlt] at hi
      cases hi
      exact ⟨w, hv, hc, List.mem_cons_self⟩
    · rw [if_neg hlt] at hi
      cases hi
  · rw [if_neg hik] at hi
    obtain ⟨w1, q1, q2, q3⟩ := h3 i u hi hu
    refine ⟨w1, q1, q2, List.mem_cons_of_mem _ (List.mem_filter.mpr ⟨q3, ?_⟩)⟩
    have e1 : (i == k) = false := by simpa using fun h => hik h.symm
    have e2 : (w1.category == 2) = false := by rw [q2]; rfl
    simp [e1, e2]
end LR
/-- cells -/
noncomputable def ai_el (c : ai_C) (j : Nat) : ai_V := ai_lk c.2.2.2 (ai_nth ai_un c.2.2.1 0) j
def ai_RC (b0 : Nat) (rho : Nat → Int32) (tc : Nat → ClassId) (ws : va_W) (c : ai_C) (e : va_E) : Prop :=
  (c.1 = 0 ∧ ∃ vs, e = .inr (c.2.1, vs) ∧ ai_SR b0 rho ws c.2.2.1 vs) ∨
  ((c.1 = 1 ∨ c.1 = 2) ∧ c.2.1 < 2 ^ 31 ∧ ∃ f : Nat → Int32, e = .inl (tc c.1, c.2.1, .inl f) ∧ ∀ j, j < c.2.1 → ai_Rv b0 rho ws (ai_el c j) (.int (f j))) ∨
  (c.1 = 3 ∧ c.2.1 < 2 ^ 31 ∧ ∃ f : Nat → Int64, e = .inl (tc c.1, c.2.1, .inr (.inl f)) ∧ ∀ j, j < c.2.1 → ai_Rv b0 rho ws (ai_el c j) (.long (f j))) ∨
  ((c.1 = 4 ∨ c.1 = 5 ∨ c.1 = 6) ∧ c.2.1 < 2 ^ 31 ∧ ∃ f : Nat → Option Nat, e = .inl (tc c.1, c.2.1, .inr (.inr (.inr (.inr f)))) ∧ ∀ j, j < c.2.1 → ai_Rv b0 rho ws (ai_el c j) (va_rf (f j)))
def ai_WR (b0 : Nat) (rho : Nat → Int32) (tc : Nat → ClassId) (ws : va_W) (h : ai_H) (nx : Nat) : Prop :=
  ws.length = nx ∧ nx ≤ 128 ∧ ∀ i, i < nx → ∃ a e, ws[i]? = some (a, e) ∧ ai_RC b0 rho tc ws (ai_get 7 h i) e
section WR
variable {b0 : Nat} {rho : Nat → Int32} {tc : Nat → ClassId} {ws ws' : va_W} {h : ai_H} {nx : Nat}
theorem ai_RC.mono {c : ai_C} {e : va_E} (q : ai_RC b0 rho tc ws c e) (hA : ai_AD ws ws') : ai_RC b0 rho tc ws' c e := by
  rcases q with ⟨h1, vs, h2, h3⟩ | ⟨h1, hl, f, h2, h3⟩ | ⟨h1, hl, f, h2, h3⟩ | ⟨h1, hl, f, h2, h3⟩
  · exact Or.inl ⟨h1, vs, h2, h3.mono hA⟩
  · exact Or.inr (Or.inl ⟨h1, hl, f, h2, fun j hj => (h3 j hj).mono hA⟩)
  · exact Or.inr (Or.inr (Or.inl ⟨h1, hl, f, h2, fun j hj => (h3 j hj).mono hA⟩))
  · exact Or.inr (Or.inr (Or.inr ⟨h1, hl, f, h2, fun j hj => (h3 j hj).mono hA⟩))
/-- an array's cell, whatever it holds -/
theorem ai_RC.arr {c : ai_C} {e : va_E} (q : ai_RC b0 rho tc ws c e) (hc : 1 ≤ c.1) : c.2.1 < 2 ^ 31 ∧ c.1 ≤ 6 ∧ ∃ y, e = .inl (tc c.1, c.2.1, y) := by
  rcases q with ⟨h1, vs, h2, h3⟩ | ⟨h1, hl, f, h2, h3⟩ | ⟨h1, hl, f, h2, h3⟩ | ⟨h1, hl, f, h2, h3⟩
  · exfalso; omega
  · exact ⟨hl, by omega, _, h2⟩
  · exact ⟨hl, by omega, _, h2⟩
  · exact ⟨hl, by omega, _, h2⟩
theorem ai_WR.put {i a : Nat} {e e' : va_E} {c : ai_C} (q : ai_WR b0 rho tc ws h nx) (hi : ws[i]? = some (a, e)) (hc : ai_RC b0 rho tc (ws.set i (a, e')) c e') : ai_WR b0 rho tc (ws.set i (a, e')) (ai_set 7 h i c) nx := by
  obtain ⟨h1, h2, h3⟩ := q
  have hil : i < ws.length := (List.getElem?_eq_some_iff.mp hi).1
  refine ⟨by rw [List.length_set]; exact h1, h2, fun j hj => ?_⟩
  rw [ai_get_set 7 h i j c (by show i < 128; omega) (by show j < 128; omega)]
  by_cases hij : j = i
  · subst hij
    refine ⟨a, e', ?_, by rw [if_pos rfl]; exact hc⟩
    rw [List.getElem?_set, if_pos rfl, if_pos hil]
  · obtain ⟨b, e1, k1, k2⟩ := h3 j hj
    refine ⟨b, e1, ?_, by rw [if_neg hij]; exact k2.mono (ai_AD.set hi)⟩
    rw [List.getElem?_set, if_neg (fun z => hij z.symm)]
    exact k1
theorem ai_WR.push {a : Nat} {e : va_E} {c : ai_C} (q : ai_WR b0 rho tc ws h nx) (hn : nx < 128) (hc : ai_RC b0 rho tc (ws ++ [(a, e)]) c e) : ai_WR b0 rho tc (ws ++ [(a, e)]) (ai_set 7 h nx c) (nx + 1) := by
  obtain ⟨h1, h2, h3⟩ := q
  refine ⟨by rw [List.length_append, h1]; rfl, by omega, fun j hj => ?_⟩
  rw [ai_get_set 7 h nx j c (by show nx < 128; omega) (by show j < 128; omega)]
  by_cases hij : j = nx
  · subst hij
    refine ⟨a, e, ?_, by rw [if_pos rfl]; exact hc⟩
    rw [List.getElem?_append_right (by omega), h1, Nat.sub_self]
    rfl
  · obtain ⟨b, e1, k1, k2⟩ := h3 j (by omega)
    refine ⟨b, e1, ?_, by rw [if_neg hij]; exact k2.mono ai_AD.app⟩
    rw [List.getElem?_append_left (by omega)]
    exact k1
/-- the cell that a reference names -/
theorem ai_cell_ok {x : Nat × Nat × ai_E} {v : ai_V} {i : Nat} {c : ai_C} (q : ai_WR b0 rho tc ws h nx) (hc : ai_cell (h, nx, x) v = some (i, c)) {w : Value} (hw : ai_Rv b0 rho ws v w) : ∃ a e, w = .ref a ∧ ws[i]? = some (a, e) ∧ i < nx ∧ c = ai_get 7 h i ∧ ai_RC b0 rho tc ws c e := by
  unfold ai_cell at hc
  cases hb : (Nat.beq (Prod.fst v) 3 && Nat.blt (Prod.fst (Prod.snd v)).toNat (ai_nx (h, nx, x))) with
  | false => rw [hb] at hc; cases hc
  | true =>
    rw [hb] at hc
    simp only [cond_true, Option.some.injEq, Prod.mk.injEq] at hc
    obtain ⟨rfl, rfl⟩ := hc
    rw [Bool.and_eq_true] at hb
    have h3 : v.1 = 3 := Nat.eq_of_beq_eq_true hb.1
    have hlt : v.2.1.toNat < nx := Nat.le_of_ble_eq_true hb.2
    obtain ⟨a, e, k1, k2⟩ := hw.rfr h3
    obtain ⟨a', e', k3, k4⟩ := q.2.2 _ hlt
    cases Option.some.inj (k1.symm.trans k3)
    exact ⟨a, e, k2, k1, hlt, rfl, k4⟩
end WR
end
section
/-! ===== a frame of the interpreter and the machine's frame; what a way on owes ===== -/
theorem ai_all_ok {α : Type} {k : α → Option ai_R} : ∀ {l : List α} {r : ai_R}, ai_all k l = some r → l ≠ [] ∧ ∀ q ∈ l, ∃ rq, k q = some rq ∧ (∀ o ∈ rq.1, o ∈ r.1) ∧ rq.2.1 ≤ r.2.1 ∧ rq.2.2 ≤ r.2.2
  | [], _, h => by cases h
  | [q], r, h => ⟨by simp, fun q' hq => by
      rw [List.mem_singleton.mp hq]
      exact ⟨r, h, fun o ho => ho, Nat.le_refl _, Nat.le_refl _⟩⟩
  | q :: q2 :: l, r, h => by
    have h : ai_join (k q) (ai_all k (q2 :: l)) = some r := h
    cases h1 : k q with
    | none => rw [h1] at h; cases h
    | some r1 =>
      obtain ⟨o1, a1, b1⟩ := r1
      cases h2 : ai_all k (q2 :: l) with
      | none => rw [h1, h2] at h; cases h
      | some r2 =>
        obtain ⟨o2, a2, b2⟩ := r2
        rw [h1, h2] at h
        simp only [ai_join, Option.some.injEq] at h
        subst h
        obtain ⟨-, ih⟩ := ai_all_ok h2
        refine ⟨by simp, fun q' hq => ?_⟩
        rcases List.mem_cons.mp hq with rfl | hq
        · exact ⟨_, h1, fun o ho => List.mem_append_left _ ho, Nat.le_max_left _ _, Nat.le_max_left _ _⟩
        · obtain ⟨rq, k1, k2, k3, k4⟩ := ih q' hq
          exact ⟨rq, k1, fun o ho => List.mem_append_right _ (k2 o ho), Nat.le_trans k3 (Nat.le_max_right _ _), Nat.le_trans k4 (Nat.le_max_right _ _)⟩
def ai_A (base : Nat) : Nat → Prop := fun q => base ≤ q
/-- the interpreter's frame loc, st, g stands for the machine's: heap H, locals ls, stack vs; ws: the cells -/
def ai_Fr (s : State) (nL b0 : Nat) (rho : Nat → Int32) (tc dC : Nat → ClassId) (dI : Nat → Nat → Nat) (base : Nat) (ws0 : va_W) (kE sE : Nat) (loc st : List ai_V) (g : ai_G)
    (H : Heap) (locs : List Loc) (cells slots : Nat) (ls : Array Slot) (vs : List Value) (ws : va_W) : Prop :=
  ai_AD ws0 ws ∧ ai_LR b0 rho ws loc ls nL ∧ ai_SR b0 rho ws st vs ∧ ai_WR b0 rho tc ws g.1 (ai_nx g) ∧ va_P (dC, dI) vwCl ws H ∧ va_D (ai_A base) ws ∧ va_S (ai_A base) s.heap H locs ∧ ai_EV rho (ai_x g) ∧ kE + cells = ai_kc g ∧ sE + slots = ai_ks g
/-- from this frame the method comes to its end as r says -/
def ai_At (p : Program) (l : Launch) (e : Env) (R : Room) (s : State) (m : MethodId) (args : Array Value) (below : List Frame) (meth : Method) (c : Code) (nL b0 : Nat) (rho : Nat → Int32) (tc dC : Nat → ClassId) (dI : Nat → Nat → Nat) (base : Nat) (ws0 : va_W) (kE sE mk0 ms0 : Nat) (os0 : List ai_O) (Q : State → Prop)
    (pc : Nat) (loc st : List ai_V) (g : ai_G) (r : ai_R) : Prop :=
  (ai_kc g ≤ r.2.1 ∧ ai_ks g ≤ r.2.2) ∧ ((∀ o ∈ r.1, o ∈ os0) → r.2.1 ≤ mk0 → r.2.2 ≤ ms0 → ∀ (H : Heap) (locs : List Loc) (cells slots : Nat) (ls : Array Slot) (vs : List Value) (ws : va_W),
    ai_Fr s nL b0 rho tc dC dI base ws0 kE sE loc st g H locs cells slots ls vs ws → W p l e R s m args below meth c H locs cells slots Q (F0 m pc ls vs))
def ai_KS (p : Program) (l : Launch) (e : Env) (R : Room) (s : State) (m : MethodId) (args : Array Value) (below : List Frame) (meth : Method) (c : Code) (nL b0 : Nat) (rho : Nat → Int32) (tc dC : Nat → ClassId) (dI : Nat → Nat → Nat) (base : Nat) (ws0 : va_W) (kE sE mk0 ms0 : Nat) (os0 : List ai_O) (Q : State → Prop) (K : ai_K4) : Prop :=
  ∀ (pc : Nat) (loc st : List ai_V) (g : ai_G) (r : ai_R), K pc loc st g = some r → ai_At p l e R s m args below meth c nL b0 rho tc dC dI base ws0 kE sE mk0 ms0 os0 Q pc loc st g r
section FRM
variable {p : Program} {l : Launch} {e : Env} {R : Room} {s : State} {m : MethodId} {args : Array Value} {below : List Frame} {meth : Method} {c : Code} {nL b0 : Nat} {rho : Nat → Int32} {tc dC : Nat → ClassId} {dI : Nat → Nat → Nat} {base : Nat} {ws0 : va_W} {kE sE mk0 ms0 : Nat} {os0 : List ai_O} {Q : State → Prop}
theorem ai_At.step {pc pc' : Nat} {loc loc' st st' : List ai_V} {g g' : ai_G} {r : ai_R} (hK : ai_At p l e R s m args below meth c nL b0 rho tc dC dI base ws0 kE sE mk0 ms0 os0 Q pc' loc' st' g' r) (hm : ai_kc g ≤ ai_kc g' ∧ ai_ks g ≤ ai_ks g')
    (hw : ∀ (H : Heap) (locs : List Loc) (cells slots : Nat) (ls : Array Slot) (vs : List Value) (ws : va_W), ai_Fr s nL b0 rho tc dC dI base ws0 kE sE loc st g H locs cells slots ls vs ws → r.2.1 ≤ mk0 → r.2.2 ≤ ms0 →
      (∀ (H1 : Heap) (locs1 : List Loc) (cells1 slots1 : Nat) (ls1 : Array Slot) (vs1 : List Value) (ws1 : va_W), ai_Fr s nL b0 rho tc dC dI base ws0 kE sE loc' st' g' H1 locs1 cells1 slots1 ls1 vs1 ws1 → W p l e R s m args below meth c H1 locs1 cells1 slots1 Q (F0 m pc' ls1 vs1)) →
      W p l e R s m args below meth c H locs cells slots Q (F0 m pc ls vs)) : ai_At p l e R s m args below meth c nL b0 rho tc dC dI base ws0 kE sE mk0 ms0 os0 Q pc loc st g r :=
  ⟨⟨Nat.le_trans hm.1 hK.1.1, Nat.le_trans hm.2 hK.1.2⟩, fun h1 h2 h3 H locs cells slots ls vs ws hF => hw H locs cells slots ls vs ws hF h2 h3 (hK.2 h1 h2 h3)⟩
theorem ai_At.all {α : Type} {k : α → Option ai_R} {l0 : List α} {pc : Nat} {loc st : List ai_V} {g : ai_G} {r : ai_R} (h : ai_all k l0 = some r) (pcq : α → Nat) (lq sq : α → List ai_V) (gq : α → ai_G)
    (hk : ∀ q ∈ l0, ∀ rq, k q = some rq → ai_At p l e R s m args below meth c nL b0 rho tc dC dI base ws0 kE sE mk0 ms0 os0 Q (pcq q) (lq q) (sq q) (gq q) rq) (hm : ∀ q, ai_kc g ≤ ai_kc (gq q) ∧ ai_ks g ≤ ai_ks (gq q))
    (hw : ∀ (H : Heap) (locs : List Loc) (cells slots : Nat) (ls : Array Slot) (vs : List Value) (ws : va_W), ai_Fr s nL b0 rho tc dC dI base ws0 kE sE loc st g H locs cells slots ls vs ws →
      (∀ q ∈ l0, ∀ (H1 : Heap) (locs1 : List Loc) (cells1 slots1 : Nat) (ls1 : Array Slot) (vs1 : List Value) (ws1 : va_W), ai_Fr s nL b0 rho tc dC dI base ws0 kE sE (lq q) (sq q) (gq q) H1 locs1 cells1 slots1 ls1 vs1 ws1 → W p l e R s m args below meth c H1 locs1 cells1 slots1 Q (F0 m (pcq q) ls1 vs1)) →
      W p l e R s m args below meth c H locs cells slots Q (F0 m pc ls vs)) : ai_At p l e R s m args below meth c nL b0 rho tc dC dI base ws0 kE sE mk0 ms0 os0 Q pc loc st g r := by
  obtain ⟨hne, hall⟩ := ai_all_ok h
  refine ⟨?_, fun h1 h2 h3 H locs cells slots ls vs ws hF => hw H locs cells slots ls vs ws hF fun q hq => ?_⟩
  · cases l0 with
    | nil => exact absurd rfl hne
    | cons q l1 =>
      obtain ⟨rq, k1, -, k3, k4⟩ := hall q List.mem_cons_self
      have := (hk q List.mem_cons_self rq k1).1
      have := hm q
      omega
  · obtain ⟨rq, k1, k2, k3, k4⟩ := hall q hq
    exact (hk q hq rq k1).2 (fun o ho => h1 o (k2 o ho)) (Nat.le_trans k3 h2) (Nat.le_trans k4 h3)
end FRM
end
section
/-! ===== the simple instructions ===== -/
section OPS
variable {p : Program} {l : Launch} {e : Env} {R : Room} {s : State} {m : MethodId} {args : Array Value} {below : List Frame} {meth : Method} {c : Code} {nL b0 : Nat} {rho : Nat → Int32} {tc dC : Nat → ClassId} {dI : Nat → Nat → Nat} {base : Nat} {ws0 : va_W} {kE sE mk0 ms0 : Nat} {os0 : List ai_O} {Q : State → Prop}
variable {cc : ByteArray} {call : ai_K} {K : ai_K4} {pc npc : Nat} {loc st : List ai_V} {g : ai_G} {r : ai_R}
theorem so_const {n : Int} {v : Int32} (hv : v.toInt = n) (row : ∀ {H : Heap} {locs : List Loc} {cells slots : Nat} {ls : Array Slot} {rest : List Value}, W p l e R s m args below meth c H locs cells slots Q (F0 m npc ls (.int v :: rest)) → W p l e R s m args below meth c H locs cells slots Q (F0 m pc ls rest))
    (hK : ai_KS p l e R s m args below meth c nL b0 rho tc dC dI base ws0 kE sE mk0 ms0 os0 Q K) (h : ai_o_const n npc call K loc st g = some r) : ai_At p l e R s m args below meth c nL b0 rho tc dC dI base ws0 kE sE mk0 ms0 os0 Q pc loc st g r :=
  ai_At.step (hK _ _ _ _ _ h) ⟨Nat.le_refl _, Nat.le_refl _⟩ fun H locs cells slots ls vs ws ⟨f0, f1, f2, f3⟩ _ _ kk => row (kk _ _ _ _ _ _ ws ⟨f0, f1, ⟨ai_Rv.mkI (ai_num_i hv), f2⟩, f3⟩)
theorem so_lconst {n : Int} {v : Int64} {z : Int32} (hv : z.toInt = n) (hz : z.toInt64 = v) (row : ∀ {H : Heap} {locs : List Loc} {cells slots : Nat} {ls : Array Slot} {rest : List Value}, W p l e R s m args below meth c H locs cells slots Q (F0 m npc ls (.long v :: rest)) → W p l e R s m args below meth c H locs cells slots Q (F0 m pc ls rest))
    (hK : ai_KS p l e R s m args below meth c nL b0 rho tc dC dI base ws0 kE sE mk0 ms0 os0 Q K) (h : ai_o_lconst n npc call K loc st g = some r) : ai_At p l e R s m args below meth c nL b0 rho tc dC dI base ws0 kE sE mk0 ms0 os0 Q pc loc st g r :=
  ai_At.step (hK _ _ _ _ _ h) ⟨Nat.le_refl _, Nat.le_refl _⟩ fun H locs cells slots ls vs ws ⟨f0, f1, f2, f3⟩ _ _ kk => row (kk _ _ _ _ _ _ ws ⟨f0, f1, ⟨Or.inr (Or.inr (Or.inr (Or.inl ⟨Or.inl rfl, z, by rw [hz], ai_num_i hv⟩))), f2⟩, f3⟩)
theorem so_null (row : ∀ {H : Heap} {locs : List Loc} {cells slots : Nat} {ls : Array Slot} {rest : List Value}, W p l e R s m args below meth c H locs cells slots Q (F0 m npc ls (.null :: rest)) → W p l e R s m args below meth c H locs cells slots Q (F0 m pc ls rest))
    (hK : ai_KS p l e R s m args below meth c nL b0 rho tc dC dI base ws0 kE sE mk0 ms0 os0 Q K) (h : ai_o_null npc call K loc st g = some r) : ai_At p l e R s m args below meth c nL b0 rho tc dC dI base ws0 kE sE mk0 ms0 os0 Q pc loc st g r :=
  ai_At.step (hK _ _ _ _ _ h) ⟨Nat.le_refl _, Nat.le_refl _⟩ fun H locs cells slots ls vs ws ⟨f0, f1, f2, f3⟩ _ _ kk => row (kk _ _ _ _ _ _ ws ⟨f0, f1, ⟨ai_Rv.mkN, f2⟩, f3⟩)
theorem so_iload {k : Nat} (row : ∀ {H : Heap} {locs : List Loc} {cells slots : Nat} {ls : Array Slot} {rest : List Value} {z : Int32}, ls[k]? = some (.val (.int z)) → W p l e R s m args below meth c H locs cells slots Q (F0 m npc ls (.int z :: rest)) → W p l e R s m args below meth c H locs cells slots Q (F0 m pc ls rest))
    (hK : ai_KS p l e R s m args below meth c nL b0 rho tc dC dI base ws0 kE sE mk0 ms0 os0 Q K) (h : ai_o_iload k npc call K loc st g = some r) : ai_At p l e R s m args below meth c nL b0 rho tc dC dI base ws0 kE sE mk0 ms0 os0 Q pc loc st g r := by
  unfold ai_o_iload at h
  cases hb : Nat.ble (Prod.fst (ai_nth ai_un loc k)) 1 with
  | false => rw [hb] at h; cases h
  | true =>
    rw [hb] at h
    have ht : (ai_nth ai_un loc k).1 ≤ 1 := Nat.le_of_ble_eq_true hb
    refine ai_At.step (hK _ _ _ _ _ h) ⟨Nat.le_refl _, Nat.le_refl _⟩ fun H locs cells slots ls vs ws ⟨f0, f1, f2, f3⟩ _ _ kk => ?_
    obtain ⟨w, q1, -, q3⟩ := f1.at (k := k) (by omega)
    obtain ⟨z, rfl, -⟩ := q1.int ht
    exact row q3 (kk _ _ _ _ _ _ ws ⟨f0, f1, ⟨q1, f2⟩, f3⟩)
theorem ai_isr_ok {b0 : Nat} {rho : Nat → Int32} {ws : va_W} {v : ai_V} {w : Value} (hb : ai_isr v.1 = true) (h : ai_Rv b0 rho ws v w) : (w = .null ∨ ∃ a : Nat, w = .ref a) ∧ w.category = 1 := by
  unfold ai_isr at hb
  have hv : v.1 = 2 ∨ v.1 = 3 ∨ v.1 = 6 ∨ v.1 = 7 := by
    cases h1 : Nat.ble v.1 3 with
    | true =>
      rw [h1] at hb
      have q1 : v.1 ≤ 3 := Nat.le_of_ble_eq_true h1
      have q2 : 2 ≤ v.1 := Nat.le_of_ble_eq_true hb
      omega
    | false =>
      rw [h1] at hb
      simp only [cond_false, Bool.or_eq_true, Nat.beq_eq] at hb
      omega
  rcases h with ⟨h1, -⟩ | ⟨-, rfl⟩ | ⟨-, a, e, -, rfl⟩ | ⟨h1, -⟩ | ⟨-, rfl⟩ | ⟨-, a, rfl⟩
  · exfalso; omega
  · exact ⟨Or.inl rfl, rfl⟩
  · exact ⟨Or.inr ⟨_, rfl⟩, rfl⟩
  · exfalso; omega
  · exact ⟨Or.inr ⟨_, rfl⟩, rfl⟩
  · exact ⟨Or.inr ⟨_, rfl⟩, rfl⟩
theorem so_aload {k : Nat} (row : ∀ {H : Heap} {locs : List Loc} {cells slots : Nat} {ls : Array Slot} {rest : List Value} {a : Nat}, ls[k]? = some (.val (.ref a)) → W p l e R s m args below meth c H locs cells slots Q (F0 m npc ls (.ref a :: rest)) → W p l e R s m args below meth c H locs cells slots Q (F0 m pc ls rest))
    (rowN : ∀ {H : Heap} {locs : List Loc} {cells slots : Nat} {ls : Array Slot} {rest : List Value}, ls[k]? = some (.val .null) → W p l e R s m args below meth c H locs cells slots Q (F0 m npc ls (.null :: rest)) → W p l e R s m args below meth c H locs cells slots Q (F0 m pc ls rest))
    (hK : ai_KS p l e R s m args below meth c nL b0 rho tc dC dI base ws0 kE sE mk0 ms0 os0 Q K) (h : ai_o_aload k npc call K loc st g = some r) : ai_At p l e R s m args below meth c nL b0 rho tc dC dI base ws0 kE sE mk0 ms0 os0 Q pc loc st g r := by
  unfold ai_o_aload at h
  cases hb : ai_isr (Prod.fst (ai_nth ai_un loc k)) with
  | false => rw [hb] at h; cases h
  | true =>
    rw [hb] at h
    have h9 : (ai_nth ai_un loc k).1 ≠ 9 := fun q => by rw [q] at hb; cases hb
    refine ai_At.step (hK _ _ _ _ _ h) ⟨Nat.le_refl _, Nat.le_refl _⟩ fun H locs cells slots ls vs ws ⟨f0, f1, f2, f3⟩ _ _ kk => ?_
    obtain ⟨w, q1, -, q3⟩ := f1.at (k := k) h9
    rcases (ai_isr_ok hb q1).1 with rfl | ⟨a, rfl⟩
    · exact rowN q3 (kk _ _ _ _ _ _ ws ⟨f0, f1, ⟨q1, f2⟩, f3⟩)
    · exact row q3 (kk _ _ _ _ _ _ ws ⟨f0, f1, ⟨q1, f2⟩, f3⟩)
theorem so_istore {k : Nat} (hk : k < nL) (row : ∀ {H : Heap} {locs : List Loc} {cells slots : Nat} {ls : Array Slot} {rest : List Value} {z : Int32} {lv : List (Nat × Value)}, lv_has ls nL lv →
      (∀ ls' : Array Slot, lv_has ls' nL ((k, Value.int z) :: lv.filter (fun q => !(q.1 == k) && !(q.1 + 1 == k && q.2.category == 2))) → W p l e R s m args below meth c H locs cells slots Q (F0 m npc ls' rest)) → W p l e R s m args below meth c H locs cells slots Q (F0 m pc ls (.int z :: rest)))
    (hK : ai_KS p l e R s m args below meth c nL b0 rho tc dC dI base ws0 kE sE mk0 ms0 os0 Q K) (h : ai_o_istore k npc call K loc st g = some r) : ai_At p l e R s m args below meth c nL b0 rho tc dC dI base ws0 kE sE mk0 ms0 os0 Q pc loc st g r := by
  unfold ai_o_istore at h
  cases st with
  | nil => cases h
  | cons v st =>
    simp only at h
    cases hb : Nat.ble (Prod.fst v) 1 with
    | false => rw [hb] at h; cases h
    | true =>
      rw [hb] at h
      have ht : v.1 ≤ 1 := Nat.le_of_ble_eq_true hb
      refine ai_At.step (hK _ _ _ _ _ h) ⟨Nat.le_refl _, Nat.le_refl _⟩ fun H locs cells slots ls vs ws ⟨f0, f1, f2, f3⟩ _ _ kk => ?_
      obtain ⟨w, rest, rfl, q1, q2⟩ := f2.cons
      obtain ⟨z, rfl, q3⟩ := q1.int ht
      obtain ⟨hl, lv, h2, h3⟩ := f1
      exact row h2 (fun ls' h' => kk _ _ _ _ _ _ ws ⟨f0, ai_LR.upd hl h3 h' q1 rfl, q2, f3⟩)
theorem so_astore {k : Nat} (hk : k < nL) (row : ∀ {H : Heap} {locs : List Loc} {cells slots : Nat} {ls : Array Slot} {rest : List Value} {z : Nat} {lv : List (Nat × Value)}, lv_has ls nL lv →
      (∀ ls' : Array Slot, lv_has ls' nL ((k, Value.ref z) :: lv.filter (fun q => !(q.1 == k) && !(q.1 + 1 == k && q.2.category == 2))) → W p l e R s m args below meth c H locs cells slots Q (F0 m npc ls' rest)) → W p l e R s m args below meth c H locs cells slots Q (F0 m pc ls (.ref z :: rest)))
    (rowN : ∀ {H : Heap} {locs : List Loc} {cells slots : Nat} {ls : Array Slot} {rest : List Value} {lv : List (Nat × Value)}, lv_has ls nL lv →
      (∀ ls' : Array Slot, lv_has ls' nL ((k, Value.null) :: lv.filter (fun q => !(q.1 == k) && !(q.1 + 1 == k && q.2.category == 2))) → W p l e R s m args below meth c H locs cells slots Q (F0 m npc ls' rest)) → W p l e R s m args below meth c H locs cells slots Q (F0 m pc ls (.null :: rest)))
    (hK : ai_KS p l e R s m args below meth c nL b0 rho tc dC dI base ws0 kE sE mk0 ms0 os0 Q K) (h : ai_o_astore k npc call K loc st g = some r) : ai_At p l e R s m args below meth c nL b0 rho tc dC dI base ws0 kE sE mk0 ms0 os0 Q pc loc st g r := by
  unfold ai_o_astore at h
  cases st with
  | nil => cases h
  | cons v st =>
    simp only at h
    cases hb : ai_isr (Prod.fst v) with
    | false => rw [hb] at h; cases h
    | true =>
      rw [hb] at h
      refine ai_At.step (hK _ _ _ _ _ h) ⟨Nat.le_refl _, Nat.le_refl _⟩ fun H locs cells slots ls vs ws ⟨f0, f1, f2, f3⟩ _ _ kk => ?_
      obtain ⟨w, rest, rfl, q1, q2⟩ := f2.cons
      obtain ⟨hl, lv, h2, h3⟩ := f1
      rcases ai_isr_ok hb q1 with ⟨rfl | ⟨a, rfl⟩, hc⟩
      · exact rowN h2 (fun ls' h' => kk _ _ _ _ _ _ ws ⟨f0, ai_LR.upd hl h3 h' q1 hc, q2, f3⟩)
      · exact row h2 (fun ls' h' => kk _ _ _ _ _ _ ws ⟨f0, ai_LR.upd hl h3 h' q1 hc, q2, f3⟩)
theorem ai_add_tags {u v w : ai_V} (h : ai_add u v = some w) : u.1 ≤ 1 ∧ v.1 ≤ 1 := by
  unfold ai_add at h
  split at h <;> first | exact ⟨Nat.le_of_ble_eq_true rfl, Nat.le_of_ble_eq_true rfl⟩ | cases h
theorem ai_sub_tags {u v w : ai_V} (h : ai_sub u v = some w) : u.1 ≤ 1 ∧ v.1 ≤ 1 := by
  unfold ai_sub at h
  split at h <;> first | exact ⟨Nat.le_of_ble_eq_true rfl, Nat.le_of_ble_eq_true rfl⟩ | cases h
theorem so_inc {k : Nat} {n : Int} {x2 : Int32} (hn : x2.toInt = n) (hk : k < nL) (row : ∀ {H : Heap} {locs : List Loc} {cells slots : Nat} {ls : Array Slot} {rest : List Value} {z : Int32} {lv : List (Nat × Value)} {kk : Nat}, lv_has ls nL lv → lv[kk]? = some (k, .int z) →
      (∀ ls' : Array Slot, lv_has ls' nL ((k, Value.int (z + x2)) :: lv.filter (fun q => !(q.1 == k) && !(q.1 + 1 == k && q.2.category == 2))) → W p l e R s m args below meth c H locs cells slots Q (F0 m npc ls' rest)) → W p l e R s m args below meth c H locs cells slots Q (F0 m pc ls rest))
    (hK : ai_KS p l e R s m args below meth c nL b0 rho tc dC dI base ws0 kE sE mk0 ms0 os0 Q K) (h : ai_o_inc k n npc call K loc st g = some r) : ai_At p l e R s m args below meth c nL b0 rho tc dC dI base ws0 kE sE mk0 ms0 os0 Q pc loc st g r := by
  unfold ai_o_inc at h
  cases ha : ai_add (ai_nth ai_un loc k) (ai_i n) with
  | none => rw [ha] at h; cases h
  | some v =>
    rw [ha] at h
    have ht := (ai_add_tags ha).1
    refine ai_At.step (hK _ _ _ _ _ h) ⟨Nat.le_refl _, Nat.le_refl _⟩ fun H locs cells slots ls vs ws ⟨f0, f1, f2, f3⟩ _ _ kk => ?_
    obtain ⟨hl, lv, h2, h3⟩ := f1
    have e := ai_nth_eq ai_un loc k
    cases hlk : loc[k]? with
    | none => rw [hlk] at e; rw [e] at ht; exact absurd ht (by decide)
    | some u =>
      rw [hlk] at e
      have e : ai_nth ai_un loc k = u := e
      rw [e] at ht ha
      obtain ⟨w, q1, q2, q3⟩ := h3 k u hlk (by omega)
      obtain ⟨z, rfl, q4⟩ := q1.int ht
      obtain ⟨kk2, hkk⟩ := List.getElem?_of_mem q3
      exact row h2 hkk (fun ls' h' => kk _ _ _ _ _ _ ws ⟨f0, ai_LR.upd hl h3 h' (ai_Rv.mkI (ai_add_ok q4 (ai_num_i hn) ha)) rfl, f2, f3⟩)
theorem so_bin {f : ai_E → ai_V → ai_V → Option ai_V} {op : Int32 → Int32 → Int32} {ok : Int32 → Prop} (ht : ∀ {x : ai_E} {u v w : ai_V}, f x u v = some w → u.1 ≤ 1 ∧ v.1 ≤ 1)
    (hf : ∀ {x : ai_E} {u v w : ai_V} {y z : Int32}, ai_EV rho x → ai_num rho u y → ai_num rho v z → f x u v = some w → ai_num rho w (op y z))
    (ho : ∀ {x : ai_E} {u v w : ai_V} {z : Int32}, ai_EV rho x → ai_num rho v z → f x u v = some w → ok z)
    (row : ∀ {H : Heap} {locs : List Loc} {cells slots : Nat} {ls : Array Slot} {rest : List Value} {y z : Int32}, ok z → W p l e R s m args below meth c H locs cells slots Q (F0 m npc ls (.int (op y z) :: rest)) → W p l e R s m args below meth c H locs cells slots Q (F0 m pc ls (.int z :: .int y :: rest)))
    (hK : ai_KS p l e R s m args below meth c nL b0 rho tc dC dI base ws0 kE sE mk0 ms0 os0 Q K) (h : ai_o_bin f npc call K loc st g = some r) : ai_At p l e R s m args below meth c nL b0 rho tc dC dI base ws0 kE sE mk0 ms0 os0 Q pc loc st g r := by
  unfold ai_o_bin at h
  cases st with
  | nil => cases h
  | cons v st =>
    cases st with
    | nil => cases h
    | cons u st =>
      simp only at h
      cases ha : f (ai_x g) u v with
      | none => rw [ha] at h; cases h
      | some w =>
        rw [ha] at h
        obtain ⟨t1, t2⟩ := ht ha
        refine ai_At.step (hK _ _ _ _ _ h) ⟨Nat.le_refl _, Nat.le_refl _⟩ fun H locs cells slots ls vs ws ⟨f0, f1, f2, f3, f4, f5, f6, f7, f8⟩ _ _ kk => ?_
        obtain ⟨w1, rest, rfl, q1, q2⟩ := f2.cons
        obtain ⟨w2, rest, rfl, q3, q4⟩ := q2.cons
        obtain ⟨z, rfl, nz⟩ := q1.int t2
        obtain ⟨y, rfl, ny⟩ := q3.int t1
        exact row (ho f7 nz ha) (kk _ _ _ _ _ _ ws ⟨f0, f1, ⟨ai_Rv.mkI (hf f7 ny nz ha), q4⟩, f3, f4, f5, f6, f7, f8⟩)
theorem so_i2l (row : ∀ {H : Heap} {locs : List Loc} {cells slots : Nat} {ls : Array Slot} {rest : List Value} {z : Int32}, W p l e R s m args below meth c H locs cells slots Q (F0 m npc ls (.long z.toInt64 :: rest)) → W p l e R s m args below meth c H locs cells slots Q (F0 m pc ls (.int z :: rest)))
    (hK : ai_KS p l e R s m args below meth c nL b0 rho tc dC dI base ws0 kE sE mk0 ms0 os0 Q K) (h : ai_o_i2l npc call K loc st g = some r) : ai_At p l e R s m args below meth c nL b0 rho tc dC dI base ws0 kE sE mk0 ms0 os0 Q pc loc st g r := by
  unfold ai_o_i2l at h
  cases st with
  | nil => cases h
  | cons v st =>
    simp only at h
    cases hb : ai_isn v with
    | false => rw [hb] at h; cases h
    | true =>
      rw [hb] at h
      have ht := (ai_isn_iff v).mp hb
      refine ai_At.step (hK _ _ _ _ _ h) ⟨Nat.le_refl _, Nat.le_refl _⟩ fun H locs cells slots ls vs ws ⟨f0, f1, f2, f3⟩ _ _ kk => ?_
      obtain ⟨w1, rest, rfl, q1, q2⟩ := f2.cons
      obtain ⟨z, rfl, nz⟩ := q1.int ht
      refine row (kk _ _ _ _ _ _ ws ⟨f0, f1, ⟨Or.inr (Or.inr (Or.inr (Or.inl ⟨?_, z, rfl, ?_⟩))), q2⟩, f3⟩)
      · show v.1 + 4 = 4 ∨ v.1 + 4 = 5; omega
      · show ai_num rho (v.1 + 4 - 4, v.2) z
        rw [Nat.add_sub_cancel]; exact nz
theorem so_dup (row : ∀ {H : Heap} {locs : List Loc} {cells slots : Nat} {ls : Array Slot} {rest : List Value} {w : Value}, w.category = 1 → W p l e R s m args below meth c H locs cells slots Q (F0 m npc ls (w :: w :: rest)) → W p l e R s m args below meth c H locs cells slots Q (F0 m pc ls (w :: rest)))
    (hK : ai_KS p l e R s m args below meth c nL b0 rho tc dC dI base ws0 kE sE mk0 ms0 os0 Q K) (h : ai_o_dup npc call K loc st g = some r) : ai_At p l e R s m args below meth c nL b0 rho tc dC dI base ws0 kE sE mk0 ms0 os0 Q pc loc st g r := by
  unfold ai_o_dup at h
  cases st with
  | nil => cases h
  | cons v st =>
    simp only at h
    cases hb : Nat.ble (Prod.fst v) 3 with
    | false => rw [hb] at h; cases h
    | true =>
      rw [hb] at h
      have ht : v.1 ≤ 3 := Nat.le_of_ble_eq_true hb
      refine ai_At.step (hK _ _ _ _ _ h) ⟨Nat.le_refl _, Nat.le_refl _⟩ fun H locs cells slots ls vs ws ⟨f0, f1, f2, f3⟩ _ _ kk => ?_
      obtain ⟨w1, rest, rfl, q1, q2⟩ := f2.cons
      exact row (q1.cat (by omega)) (kk _ _ _ _ _ _ ws ⟨f0, f1, ⟨q1, q1, q2⟩, f3⟩)
theorem so_dup2 (row : ∀ {H : Heap} {locs : List Loc} {cells slots : Nat} {ls : Array Slot} {rest : List Value} {w u : Value}, w.category = 1 → u.category = 1 → W p l e R s m args below meth c H locs cells slots Q (F0 m npc ls (w :: u :: w :: u :: rest)) → W p l e R s m args below meth c H locs cells slots Q (F0 m pc ls (w :: u :: rest)))
    (hK : ai_KS p l e R s m args below meth c nL b0 rho tc dC dI base ws0 kE sE mk0 ms0 os0 Q K) (h : ai_o_dup2 npc call K loc st g = some r) : ai_At p l e R s m args below meth c nL b0 rho tc dC dI base ws0 kE sE mk0 ms0 os0 Q pc loc st g r := by
  unfold ai_o_dup2 at h
  cases st with
  | nil => cases h
  | cons v st =>
    cases st with
    | nil => cases h
    | cons u st =>
      simp only at h
      cases hb : (Nat.ble (Prod.fst v) 3 && Nat.ble (Prod.fst u) 3) with
      | false => rw [hb] at h; cases h
      | true =>
        rw [hb] at h
        rw [Bool.and_eq_true] at hb
        have ht : v.1 ≤ 3 := Nat.le_of_ble_eq_true hb.1
        have hu : u.1 ≤ 3 := Nat.le_of_ble_eq_true hb.2
        refine ai_At.step (hK _ _ _ _ _ h) ⟨Nat.le_refl _, Nat.le_refl _⟩ fun H locs cells slots ls vs ws ⟨f0, f1, f2, f3⟩ _ _ kk => ?_
        obtain ⟨w1, rest, rfl, q1, q2⟩ := f2.cons
        obtain ⟨w2, rest, rfl, q3, q4⟩ := q2.cons
        exact row (q1.cat (by omega)) (q3.cat (by omega)) (kk _ _ _ _ _ _ ws ⟨f0, f1, ⟨q1, q3, q1, q3, q4⟩, f3⟩)
theorem so_pop (row : ∀ {H : Heap} {locs : List Loc} {cells slots : Nat} {ls : Array Slot} {rest : List Value} {w : Value}, w.category = 1 → W p l e R s m args below meth c H locs cells slots Q (F0 m npc ls rest) → W p l e R s m args below meth c H locs cells slots Q (F0 m pc ls (w :: rest)))
    (hK : ai_KS p l e R s m args below meth c nL b0 rho tc dC dI base ws0 kE sE mk0 ms0 os0 Q K) (h : ai_o_pop npc call K loc st g = some r) : ai_At p l e R s m args below meth c nL b0 rho tc dC dI base ws0 kE sE mk0 ms0 os0 Q pc loc st g r := by
  unfold ai_o_pop at h
  cases st with
  | nil => cases h
  | cons v st =>
    simp only at h
    cases hb : Nat.ble (Prod.fst v) 3 with
    | false => rw [hb] at h; cases h
    | true =>
      rw [hb] at h
      have ht : v.1 ≤ 3 := Nat.le_of_ble_eq_true hb
      refine ai_At.step (hK _ _ _ _ _ h) ⟨Nat.le_refl _, Nat.le_refl _⟩ fun H locs cells slots ls vs ws ⟨f0, f1, f2, f3⟩ _ _ kk => ?_
      obtain ⟨w1, rest, rfl, q1, q2⟩ := f2.cons
      exact row (q1.cat (by omega)) (kk _ _ _ _ _ _ ws ⟨f0, f1, q2, f3⟩)
theorem so_goto {pt : Nat} (row : ∀ {H : Heap} {locs : List Loc} {cells slots : Nat} {ls : Array Slot} {rest : List Value}, W p l e R s m args below meth c H locs cells slots Q (F0 m pt ls rest) → W p l e R s m args below meth c H locs cells slots Q (F0 m pc ls rest))
    (hK : ai_KS p l e R s m args below meth c nL b0 rho tc dC dI base ws0 kE sE mk0 ms0 os0 Q K) (h : ai_o_goto pt call K loc st g = some r) : ai_At p l e R s m args below meth c nL b0 rho tc dC dI base ws0 kE sE mk0 ms0 os0 Q pc loc st g r :=
  ai_At.step (hK _ _ _ _ _ h) ⟨Nat.le_refl _, Nat.le_refl _⟩ fun H locs cells slots ls vs ws hF _ _ kk => row (kk _ _ _ _ _ _ ws hF)
theorem so_isnull {pt pf : Nat} (rowN : ∀ {H : Heap} {locs : List Loc} {cells slots : Nat} {ls : Array Slot} {rest : List Value}, W p l e R s m args below meth c H locs cells slots Q (F0 m pt ls rest) → W p l e R s m args below meth c H locs cells slots Q (F0 m pc ls (.null :: rest)))
    (row : ∀ {H : Heap} {locs : List Loc} {cells slots : Nat} {ls : Array Slot} {rest : List Value} {a : Nat}, W p l e R s m args below meth c H locs cells slots Q (F0 m pf ls rest) → W p l e R s m args below meth c H locs cells slots Q (F0 m pc ls (.ref a :: rest)))
    (hK : ai_KS p l e R s m args below meth c nL b0 rho tc dC dI base ws0 kE sE mk0 ms0 os0 Q K) (h : ai_o_isnull pt pf call K loc st g = some r) : ai_At p l e R s m args below meth c nL b0 rho tc dC dI base ws0 kE sE mk0 ms0 os0 Q pc loc st g r := by
  unfold ai_o_isnull at h
  cases st with
  | nil => cases h
  | cons v st =>
    simp only at h
    cases hb : Nat.beq (Prod.fst v) 2 with
    | true =>
      rw [hb] at h
      have ht : v.1 = 2 := Nat.eq_of_beq_eq_true hb
      refine ai_At.step (hK _ _ _ _ _ h) ⟨Nat.le_refl _, Nat.le_refl _⟩ fun H locs cells slots ls vs ws ⟨f0, f1, f2, f3⟩ _ _ kk => ?_
      obtain ⟨w1, rest, rfl, q1, q2⟩ := f2.cons
      rw [q1.nul ht]
      exact rowN (kk _ _ _ _ _ _ ws ⟨f0, f1, q2, f3⟩)
    | false =>
      rw [hb] at h
      simp only [cond_false] at h
      cases hc : Nat.beq (Prod.fst v) 3 with
      | false => rw [hc] at h; cases h
      | true =>
        rw [hc] at h
        have ht : v.1 = 3 := Nat.eq_of_beq_eq_true hc
        refine ai_At.step (hK _ _ _ _ _ h) ⟨Nat.le_refl _, Nat.le_refl _⟩ fun H locs cells slots ls vs ws ⟨f0, f1, f2, f3⟩ _ _ kk => ?_
        obtain ⟨w1, rest, rfl, q1, q2⟩ := f2.cons
        obtain ⟨a, e9, -, rfl⟩ := q1.rfr ht
        exact row (kk _ _ _ _ _ _ ws ⟨f0, f1, q2, f3⟩)
theorem ai_ge_fr {x : ai_E} {H : Heap} {locs : List Loc} {cells slots : Nat} {ls : Array Slot} {vs : List Value} {ws : va_W} (hF : ai_Fr s nL b0 rho tc dC dI base ws0 kE sE loc st g H locs cells slots ls vs ws) (hE : ai_EV rho x) : ai_Fr s nL b0 rho tc dC dI base ws0 kE sE loc st (ai_ge g x) H locs cells slots ls vs ws := by
  obtain ⟨f0, f1, f2, f3, f4, f5, f6, f7, f8⟩ := hF
  exact ⟨f0, f1, f2, f3, f4, f5, f6, hE, f8⟩
theorem so_br {pf pt : Nat} {b : Option ai_B} {st1 : List ai_V} {cond1 : Prop} (hh : ∀ (H : Heap) (locs : List Loc) (cells slots : Nat) (ls : Array Slot) (vs : List Value) (ws : va_W), ai_Fr s nL b0 rho tc dC dI base ws0 kE sE loc st1 g H locs cells slots ls vs ws → ∃ (cd : Prop) (rest : List Value), ai_SR b0 rho ws st rest ∧ (∀ l1, b = some l1 → ai_way rho l1 cd) ∧
      ((cd → W p l e R s m args below meth c H locs cells slots Q (F0 m pt ls rest)) → (¬ cd → W p l e R s m args below meth c H locs cells slots Q (F0 m pf ls rest)) → W p l e R s m args below meth c H locs cells slots Q (F0 m pc ls vs)))
    (hK : ai_KS p l e R s m args below meth c nL b0 rho tc dC dI base ws0 kE sE mk0 ms0 os0 Q K) (h : ai_br pf pt K loc st g b = some r) : ai_At p l e R s m args below meth c nL b0 rho tc dC dI base ws0 kE sE mk0 ms0 os0 Q pc loc st1 g r := by
  cases b with
  | none => cases h
  | some l1 =>
    refine ai_At.all (k := fun q => K (cond (Prod.fst q) pt pf) loc st (ai_ge g (Prod.snd q))) h (fun q => cond (Prod.fst q) pt pf) (fun _ => loc) (fun _ => st) (fun q => ai_ge g (Prod.snd q)) (fun q _ rq hq => hK _ _ _ _ _ hq) (fun q => ⟨Nat.le_refl _, Nat.le_refl _⟩) ?_
    intro H locs cells slots ls vs ws hF kk
    obtain ⟨cd, rest, q2, hway, fin⟩ := hh H locs cells slots ls vs ws hF
    obtain ⟨f0, f1, f2, f3⟩ := hF
    obtain ⟨w1, w2⟩ := hway l1 rfl
    refine fin (fun hc => ?_) (fun hc => ?_)
    · obtain ⟨q, hq, e1, e2⟩ := w1 hc
      have := kk q hq H locs cells slots ls rest ws (ai_ge_fr ⟨f0, f1, q2, f3⟩ e2)
      rw [e1] at this
      exact this
    · obtain ⟨q, hq, e1, e2⟩ := w2 hc
      have := kk q hq H locs cells slots ls rest ws (ai_ge_fr ⟨f0, f1, q2, f3⟩ e2)
      rw [e1] at this
      exact this
theorem ai_rng_tag {x : ai_E} {v : ai_V} {q : Int × Int} (h : ai_rng x v = some q) : v.1 ≤ 1 := by
  obtain ⟨t, c, d⟩ := v
  match t with
  | 0 => exact Nat.zero_le _
  | 1 => exact Nat.le_refl _
  | t + 2 => simp [ai_rng] at h
theorem ai_cmp_tags {k : ClassFile.Cond} {x : ai_E} {u v : ai_V} {l1 : ai_B} (h : ai_cmp k x u v = some l1) : u.1 ≤ 1 ∧ v.1 ≤ 1 := by
  have key : ∀ o : Option ai_B, (∀ l1, o = some l1 → u.1 ≤ 1 ∧ v.1 ≤ 1) → ∀ l1, ai_neg o = some l1 → u.1 ≤ 1 ∧ v.1 ≤ 1 := fun o ho l1 h1 => by
    cases o with
    | none => cases h1
    | some l2 => exact ho l2 rfl
  have e1 : ∀ l1, ai_eq x u v = some l1 → u.1 ≤ 1 ∧ v.1 ≤ 1 := fun l1 h1 => by
    unfold ai_eq at h1
    cases h2 : ai_rng x u with
    | none => simp only [h2] at h1; cases h1
    | some q1 =>
      cases h3 : ai_rng x v with
      | none => simp only [h2, h3] at h1; cases h1
      | some q2 => exact ⟨ai_rng_tag h2, ai_rng_tag h3⟩
  have e2 : ∀ l1, ai_lt x u v = some l1 → u.1 ≤ 1 ∧ v.1 ≤ 1 := fun l1 h1 => by
    unfold ai_lt at h1
    cases h2 : ai_rng x u with
    | none => simp only [h2] at h1; cases h1
    | some q1 =>
      cases h3 : ai_rng x v with
      | none => simp only [h2, h3] at h1; cases h1
      | some q2 => exact ⟨ai_rng_tag h2, ai_rng_tag h3⟩
  have e3 : ∀ l1, ai_le x u v = some l1 → u.1 ≤ 1 ∧ v.1 ≤ 1 := fun l1 h1 => by
    unfold ai_le at h1
    cases h2 : ai_rng x u with
    | none => simp only [h2] at h1; cases h1
    | some q1 =>
      cases h3 : ai_rng x v with
      | none => simp only [h2, h3] at h1; cases h1
      | some q2 => exact ⟨ai_rng_tag h2, ai_rng_tag h3⟩
  cases k with
  | eq => exact e1 _ h
  | ne => exact key _ e1 _ h
  | lt => exact e2 _ h
  | ge => exact key _ e2 _ h
  | gt => exact key _ e3 _ h
  | le => exact e3 _ h
theorem so_if {k : ClassFile.Cond} {pf pt : Nat} (row : ∀ {H : Heap} {locs : List Loc} {cells slots : Nat} {ls : Array Slot} {rest : List Value} {y : Int32}, (ai_cd k y 0 → W p l e R s m args below meth c H locs cells slots Q (F0 m pt ls rest)) → (¬ ai_cd k y 0 → W p l e R s m args below meth c H locs cells slots Q (F0 m pf ls rest)) → W p l e R s m args below meth c H locs cells slots Q (F0 m pc ls (.int y :: rest)))
    (hK : ai_KS p l e R s m args below meth c nL b0 rho tc dC dI base ws0 kE sE mk0 ms0 os0 Q K) (h : ai_o_if k pf pt call K loc st g = some r) : ai_At p l e R s m args below meth c nL b0 rho tc dC dI base ws0 kE sE mk0 ms0 os0 Q pc loc st g r := by
  unfold ai_o_if at h
  cases st with
  | nil => cases h
  | cons u st =>
    refine so_br (cond1 := True) (fun H locs cells slots ls vs ws hF => ?_) hK h
    obtain ⟨f0, f1, f2, f3, f4, f5, f6, f7, f8⟩ := hF
    obtain ⟨w1, rest, rfl, q1, q2⟩ := f2.cons
    cases hb : ai_cmp k (ai_x g) u (ai_i (.ofNat 0)) with
    | none => simp only [hb] at h; cases h
    | some l1 =>
      obtain ⟨z, rfl, nz⟩ := q1.int (ai_cmp_tags hb).1
      exact ⟨ai_cd k z 0, rest, q2, fun l2 h2 => by cases h2; exact ai_cmp_ok f7 nz (ai_num_i rfl) hb, fun a b => row a b⟩
theorem so_icmp {k : ClassFile.Cond} {pf pt : Nat} (row : ∀ {H : Heap} {locs : List Loc} {cells slots : Nat} {ls : Array Slot} {rest : List Value} {y z : Int32}, (ai_cd k y z → W p l e R s m args below meth c H locs cells slots Q (F0 m pt ls rest)) → (¬ ai_cd k y z → W p l e R s m args below meth c H locs cells slots Q (F0 m pf ls rest)) → W p l e R s m args below meth c H locs cells slots Q (F0 m pc ls (.int z :: .int y :: rest)))
    (hK : ai_KS p l e R s m args below meth c nL b0 rho tc dC dI base ws0 kE sE mk0 ms0 os0 Q K) (h : ai_o_icmp k pf pt call K loc st g = some r) : ai_At p l e R s m args below meth c nL b0 rho tc dC dI base ws0 kE sE mk0 ms0 os0 Q pc loc st g r := by
  unfold ai_o_icmp at h
  cases st with
  | nil => cases h
  | cons v st =>
    cases st with
    | nil => cases h
    | cons u st =>
      refine so_br (cond1 := True) (fun H locs cells slots ls vs ws hF => ?_) hK h
      obtain ⟨f0, f1, f2, f3, f4, f5, f6, f7, f8⟩ := hF
      obtain ⟨w1, rest, rfl, q1, q2⟩ := f2.cons
      obtain ⟨w2, rest, rfl, q3, q4⟩ := q2.cons
      cases hb : ai_cmp k (ai_x g) u v with
      | none => simp only [hb] at h; cases h
      | some l1 =>
        obtain ⟨y, rfl, ny⟩ := q3.int (ai_cmp_tags hb).1
        obtain ⟨z, rfl, nz⟩ := q1.int (ai_cmp_tags hb).2
        exact ⟨ai_cd k y z, rest, q4, fun l2 h2 => by cases h2; exact ai_cmp_ok f7 ny nz hb, fun a b => row a b⟩
end OPS
end
section
/-! ===== fields, arrays, new cells ===== -/
def ai_tys (tc : Nat → ClassId) : List (ClassId × FieldType) := [(tc 1, .int), (tc 2, .boolean), (tc 3, .long), (tc 4, .object "PenPage$Page"), (tc 5, .object "PenPage$Step"), (tc 6, .array .int)]
/-- t: 0 a number, 1 a truth value, 2 a reference -/
def ai_tyOK (t : Nat) (ty : FieldType) : Prop := (t = 0 ∧ ty = .int) ∨ (t = 1 ∧ ty = .boolean) ∨ (t = 2 ∧ ((∃ n, ty = .object n) ∨ ∃ t', ty = .array t'))
theorem ai_bool {z : Int32} (h0 : 0 ≤ z.toInt) (h1 : z.toInt ≤ 1) : z = 0 ∨ z = 1 := by
  have h : z.toInt = 0 ∨ z.toInt = 1 := by omega
  rcases h with h | h
  · exact Or.inl (Int32.toInt_inj.mp h)
  · exact Or.inr (Int32.toInt_inj.mp h)
theorem ai_fits_bool {rho : Nat → Int32} {x : ai_E} {v : ai_V} (hE : ai_EV rho x) (h : ai_fits 1 x v = true) : v.1 ≤ 1 ∧ ∀ z : Int32, ai_num rho v z → z = 0 ∨ z = 1 := by
  simp only [ai_fits] at h
  cases hr : ai_rng x v with
  | none => rw [hr] at h; cases h
  | some q =>
    obtain ⟨a, b⟩ := q
    rw [hr] at h
    simp only [Bool.and_eq_true, ai_ile_iff] at h
    refine ⟨ai_rng_tag hr, fun z hz => ?_⟩
    obtain ⟨q1, q2⟩ := ai_rng_ok hE hz hr
    exact ai_bool (by omega) (by omega)
theorem ai_fits_ok {b0 : Nat} {rho : Nat → Int32} {ws : va_W} {x : ai_E} {t : Nat} {ty : FieldType} {v : ai_V} {w : Value} (hE : ai_EV rho x) (ht : ai_tyOK t ty) (h : ai_fits t x v = true) (hw : ai_Rv b0 rho ws v w) : narrow ty w = w ∧ fits ty w = true := by
  rcases ht with ⟨rfl, rfl⟩ | ⟨rfl, rfl⟩ | ⟨rfl, ht⟩
  · have h : ai_isn v = true := h
    obtain ⟨z, rfl, -⟩ := hw.int ((ai_isn_iff v).mp h)
    exact ⟨rfl, rfl⟩
  · obtain ⟨h1, h2⟩ := ai_fits_bool hE h
    obtain ⟨z, rfl, nz⟩ := hw.int h1
    rcases h2 z nz with rfl | rfl
    · exact ⟨rfl, rfl⟩
    · exact ⟨rfl, rfl⟩
  · have h : (Nat.beq (Prod.fst v) 2 || Nat.beq (Prod.fst v) 3) = true := h
    have h9 : v.1 = 2 ∨ v.1 = 3 := by
      rcases Bool.or_eq_true_iff.mp h with q | q
      · exact Or.inl (Nat.eq_of_beq_eq_true q)
      · exact Or.inr (Nat.eq_of_beq_eq_true q)
    rcases hw.rn h9 with rfl | ⟨a, rfl⟩ <;> rcases ht with ⟨n, rfl⟩ | ⟨t', rfl⟩ <;> exact ⟨rfl, rfl⟩
theorem ai_RC.obj {b0 : Nat} {rho : Nat → Int32} {tc : Nat → ClassId} {ws : va_W} {c : ai_C} {e : va_E} (h : ai_RC b0 rho tc ws c e) (hc : c.1 = 0) : ∃ vs, e = .inr (c.2.1, vs) ∧ ai_SR b0 rho ws c.2.2.1 vs := by
  rcases h with h | h | h | h
  · exact h.2
  all_goals (exfalso; omega)
theorem ai_RC.ints {b0 : Nat} {rho : Nat → Int32} {tc : Nat → ClassId} {ws : va_W} {c : ai_C} {e : va_E} (h : ai_RC b0 rho tc ws c e) (hc : c.1 = 1 ∨ c.1 = 2) : c.2.1 < 2 ^ 31 ∧ ∃ f : Nat → Int32, e = .inl (tc c.1, c.2.1, .inl f) ∧ ∀ j, j < c.2.1 → ai_Rv b0 rho ws (ai_el c j) (.int (f j)) := by
  rcases h with h | h | h | h
  · exfalso; omega
  · exact h.2
  all_goals (exfalso; omega)
theorem ai_RC.longs {b0 : Nat} {rho : Nat → Int32} {tc : Nat → ClassId} {ws : va_W} {c : ai_C} {e : va_E} (h : ai_RC b0 rho tc ws c e) (hc : c.1 = 3) : c.2.1 < 2 ^ 31 ∧ ∃ f : Nat → Int64, e = .inl (tc c.1, c.2.1, .inr (.inl f)) ∧ ∀ j, j < c.2.1 → ai_Rv b0 rho ws (ai_el c j) (.long (f j)) := by
  rcases h with h | h | h | h
  · exfalso; omega
  · exfalso; omega
  · exact h.2
  · exfalso; omega
theorem ai_RC.refs {b0 : Nat} {rho : Nat → Int32} {tc : Nat → ClassId} {ws : va_W} {c : ai_C} {e : va_E} (h : ai_RC b0 rho tc ws c e) (hc : c.1 = 4 ∨ c.1 = 5 ∨ c.1 = 6) : c.2.1 < 2 ^ 31 ∧ ∃ f : Nat → Option Nat, e = .inl (tc c.1, c.2.1, .inr (.inr (.inr (.inr f)))) ∧ ∀ j, j < c.2.1 → ai_Rv b0 rho ws (ai_el c j) (va_rf (f j)) := by
  rcases h with h | h | h | h
  · exfalso; omega
  · exfalso; omega
  · exfalso; omega
  · exact h.2
section HEAP
variable {p : Program} {l : Launch} {e : Env} {R : Room} {s : State} {m : MethodId} {args : Array Value} {below : List Frame} {meth : Method} {c : Code} {nL b0 : Nat} {rho : Nat → Int32} {tc dC : Nat → ClassId} {dI : Nat → Nat → Nat} {base : Nat} {ws0 : va_W} {kE sE mk0 ms0 : Nat} {os0 : List ai_O} {Q : State → Prop}
variable {cc : ByteArray} {own : String} {Ts : List Cond} {call : ai_K} {K : ai_K4} {pc npc : Nat} {loc st : List ai_V} {g : ai_G} {r : ai_R}
theorem so_getf (hx : p.tables.exec = Jvm.exec) (hb : c.code = cc) (hts : ∀ w ∈ Ts, w.before args s = true) (hown : s.vm.findClass own = some m.cls) (hV : va_K (dC, dI) vwCl (ai_tys tc) s)
    {ci k idx N : Nat} {C : String} {T : u_T} (hcl : vwCl[ci]? = some (C, T, N)) (hkN : k < N) (hin : ∀ w ∈ u_ws C T N, w ∈ Ts)
    (hlink : (Cond.fieldLink own idx (T k).1 (T k).2.1 (T k).2.2.1).before args s = true ∨ ∃ host, (Cond.fieldLinkNest own idx (T k).1 (T k).2.1 (T k).2.2.1 host).before args s = true)
    (hdg : decode cc pc = .ok (.getfield idx, 3)) (hn : npc = pc + 3) (hK : ai_KS p l e R s m args below meth c nL b0 rho tc dC dI base ws0 kE sE mk0 ms0 os0 Q K) (h : ai_o_getf ci k npc call K loc st g = some r) : ai_At p l e R s m args below meth c nL b0 rho tc dC dI base ws0 kE sE mk0 ms0 os0 Q pc loc st g r := by
  unfold ai_o_getf at h
  cases st with
  | nil => cases h
  | cons v st =>
    simp only at h
    cases hc : ai_cell g v with
    | none => rw [hc] at h; cases h
    | some q =>
      obtain ⟨i, t, c1, fs, z⟩ := q
      rw [hc] at h
      simp only at h
      cases hcd : (Nat.beq t 0 && Nat.beq c1 ci && Nat.blt k fs.length) with
      | false => rw [hcd] at h; cases h
      | true =>
        rw [hcd] at h
        simp only [Bool.and_eq_true] at hcd
        have e1 : t = 0 := Nat.eq_of_beq_eq_true hcd.1.1
        have e2 : c1 = ci := Nat.eq_of_beq_eq_true hcd.1.2
        have e3 : k < fs.length := Nat.le_of_ble_eq_true hcd.2
        subst e1; subst e2
        refine ai_At.step (hK _ _ _ _ _ h) ⟨Nat.le_refl _, Nat.le_refl _⟩ fun H locs cells slots ls vs ws ⟨f0, f1, f2, f3, f4, f5⟩ _ _ kk => ?_
        obtain ⟨w1, rest, rfl, q1, q2⟩ := f2.cons
        obtain ⟨a, e0, rfl, hwi, hil, hcg, hRC⟩ := ai_cell_ok f3 hc q1
        obtain ⟨us, rfl, hSR⟩ := hRC.obj rfl
        have hk2 : fs[k]? = some (ai_nth ai_un fs k) := by rw [ai_nth_eq, List.getElem?_eq_getElem e3]; rfl
        obtain ⟨w, hw1, hw2⟩ := hSR.at hk2
        have kk' := kk H locs cells slots ls (w :: rest) ws ⟨f0, f1, ⟨hw2, q2⟩, f3, f4, f5⟩
        rw [hn] at kk'
        rcases hlink with hlink | ⟨host, hlink⟩
        · exact va_get (T := T) hx hb hts hin hown hV f4 i hwi hcl k hkN hlink (fun _ h9 => h9) hw1 hdg kk'
        · exact va_getN (T := T) hx hb hts hin hown hV f4 i hwi hcl k hkN hlink (fun _ h9 => h9) hw1 hdg kk'
theorem so_putf (hx : p.tables.exec = Jvm.exec) (hb : c.code = cc) (hts : ∀ w ∈ Ts, w.before args s = true) (hown : s.vm.findClass own = some m.cls) (hV : va_K (dC, dI) vwCl (ai_tys tc) s)
    {ci k t idx N : Nat} {C : String} {T : u_T} {ty0 : Nat → FieldType} (hcl : vwCl[ci]? = some (C, T, N)) (hkN : k < N) (hin : ∀ w ∈ u_ws C T N, w ∈ Ts)
    (hty : ∀ k, k < N → parseFieldDescriptor (T k).2.2.1 = some (ty0 k)) (hnm : ∀ a, a < N → ∀ b, b < N → a ≠ b → (T a).2.1 ≠ (T b).2.1) (htk : ai_tyOK t (ty0 k))
    (hlink : (Cond.fieldLink own idx (T k).1 (T k).2.1 (T k).2.2.1).before args s = true) (hfin : (T k).2.2.2 = false ∨ ((T k).2.2.2 = true ∧ meth.name = "<init>" ∧ (T k).1 = own))
    (hdg : decode cc pc = .ok (.putfield idx, 3)) (hn : npc = pc + 3) (hK : ai_KS p l e R s m args below meth c nL b0 rho tc dC dI base ws0 kE sE mk0 ms0 os0 Q K) (h : ai_o_putf ci k t npc call K loc st g = some r) : ai_At p l e R s m args below meth c nL b0 rho tc dC dI base ws0 kE sE mk0 ms0 os0 Q pc loc st g r := by
  unfold ai_o_putf at h
  cases st with
  | nil => cases h
  | cons v st =>
    cases st with
    | nil => cases h
    | cons u st =>
      simp only at h
      cases hc : ai_cell g u with
      | none => rw [hc] at h; cases h
      | some q =>
        obtain ⟨i, tg, c1, fs, z⟩ := q
        rw [hc] at h
        simp only at h
        cases hcd : (Nat.beq tg 0 && Nat.beq c1 ci && Nat.blt k fs.length && ai_fits t (ai_x g) v) with
        | false => rw [hcd] at h; cases h
        | true =>
          rw [hcd] at h
          simp only [Bool.and_eq_true] at hcd
          have e1 : tg = 0 := Nat.eq_of_beq_eq_true hcd.1.1.1
          have e2 : c1 = ci := Nat.eq_of_beq_eq_true hcd.1.1.2
          have e3 : k < fs.length := Nat.le_of_ble_eq_true hcd.1.2
          have e4 := hcd.2
          subst e1; subst e2
          refine ai_At.step (hK _ _ _ _ _ h) ⟨Nat.le_refl _, Nat.le_refl _⟩ fun H locs cells slots ls vs ws ⟨f0, f1, f2, f3, f4, f5, f6, f7, f8⟩ _ _ kk => ?_
          obtain ⟨w1, rest, rfl, q1, q2⟩ := f2.cons
          obtain ⟨w2, rest, rfl, q3, q4⟩ := q2.cons
          obtain ⟨a, e0, rfl, hwi, hil, hcg, hRC⟩ := ai_cell_ok f3 hc q3
          obtain ⟨us, rfl, hSR⟩ := hRC.obj rfl
          obtain ⟨hn1, hf1⟩ := ai_fits_ok f7 htk e4 q1
          have hul : k < us.length := by rw [hSR.len]; exact e3
          have key : ∀ (H1 : Heap) (locs1 : List Loc), va_P (dC, dI) vwCl (ws.set i (a, .inr (c1, us.set k w1))) H1 → va_D (ai_A base) (ws.set i (a, .inr (c1, us.set k w1))) → va_S (ai_A base) s.heap H1 locs1 → W p l e R s m args below meth c H1 locs1 cells slots Q (F0 m (pc + 3) ls rest) := by
            intro H1 locs1 hP1 hD1 hS1
            have hA : ai_AD ws (ws.set i (a, .inr (c1, us.set k w1))) := ai_AD.set hwi
            have := kk H1 locs1 cells slots ls rest (ws.set i (a, .inr (c1, us.set k w1))) ⟨f0.tr hA, f1.mono hA, q4.mono hA, f3.put hwi (Or.inl ⟨rfl, us.set k w1, rfl, by
              show ai_SR _ _ _ (ai_upd fs k v) _
              rw [ai_upd_eq]
              exact (hSR.mono hA).set (q1.mono hA)⟩), hP1, hD1, hS1, f7, f8⟩
            rw [hn] at this
            exact this
          rcases hfin with hfin | ⟨hfin, hin2, hdecl⟩
          · exact va_put (T := T) hx hb hts hin ty0 hty hnm hown hV f4 f5 f6 i hwi hcl k hkN hlink (fun _ h9 => h9) hfin (hty k hkN) hn1 hf1 hul hdg key
          · exact va_putF (T := T) hx hb hts hin ty0 hty hnm hown hV f4 f5 f6 i hwi hcl k hkN hlink (fun _ h9 => h9) hfin hin2 hdecl (hty k hkN) hn1 hf1 hul hdg key
theorem so_len (hx : p.tables.exec = Jvm.exec) (hb : c.code = cc) (hV : va_K (dC, dI) vwCl (ai_tys tc) s) {sl : Int × Int} {L : Nat} {xs : Nat → Int32} (hX : va_X b0 L xs s s.heap) (hbl : b0 < s.heap.size) (hbA : ¬ ai_A base b0) (hL : L < 2 ^ 31) (hsl : sl.1 ≤ (L : Int) ∧ (L : Int) ≤ sl.2)
    (hdg : decode cc pc = .ok (.arraylength, 1)) (hn : npc = pc + 1) (hK : ai_KS p l e R s m args below meth c nL b0 rho tc dC dI base ws0 kE sE mk0 ms0 os0 Q K) (h : ai_o_len sl npc call K loc st g = some r) : ai_At p l e R s m args below meth c nL b0 rho tc dC dI base ws0 kE sE mk0 ms0 os0 Q pc loc st g r := by
  unfold ai_o_len at h
  cases st with
  | nil => cases h
  | cons v st =>
    simp only at h
    cases h6 : Nat.beq (Prod.fst v) 6 with
    | true =>
      rw [h6] at h
      have e6 : v.1 = 6 := Nat.eq_of_beq_eq_true h6
      refine ai_At.step (hK _ _ _ _ _ h) ⟨Nat.le_refl _, Nat.le_refl _⟩ fun H locs cells slots ls vs ws ⟨f0, f1, f2, f3, f4, f5, f6, f7⟩ _ _ kk => ?_
      obtain ⟨w1, rest, rfl, q1, q2⟩ := f2.cons
      rw [q1.scr e6]
      have e : (Int32.ofNat L).toInt = (L : Int) := nI_toInt hL
      have kk' := kk H locs cells slots ls (.int (Int32.ofNat L) :: rest) ws ⟨f0, f1, ⟨ai_Rv.mkI (Or.inl ⟨rfl, by show sl.1 ≤ _; rw [e]; exact hsl.1, by show _ ≤ sl.2; rw [e]; exact hsl.2⟩), q2⟩, f3, f4, f5, f6, f7⟩
      rw [hn] at kk'
      exact va_slen hx hb hX hbl hbA f6 hdg kk'
    | false =>
      rw [h6] at h
      simp only [cond_false] at h
      cases hc : ai_cell g v with
      | none => rw [hc] at h; cases h
      | some q =>
        obtain ⟨i, t, n, d, us⟩ := q
        rw [hc] at h
        simp only at h
        cases hcd : Nat.ble 1 t with
        | false => rw [hcd] at h; cases h
        | true =>
          rw [hcd] at h
          simp only [cond_true] at h
          have h1t : 1 ≤ t := Nat.le_of_ble_eq_true hcd
          refine ai_At.step (hK _ _ _ _ _ h) ⟨Nat.le_refl _, Nat.le_refl _⟩ fun H locs cells slots ls vs ws ⟨f0, f1, f2, f3, f4, f5⟩ _ _ kk => ?_
          obtain ⟨w1, rest, rfl, q1, q2⟩ := f2.cons
          obtain ⟨a, e0, rfl, hwi, hil, hcg, hRC⟩ := ai_cell_ok f3 hc q1
          obtain ⟨hl, h6t, y, rfl⟩ := hRC.arr h1t
          have kk' := kk H locs cells slots ls (.int (Int32.ofNat n) :: rest) ws ⟨f0, f1, ⟨ai_Rv.mkI (ai_num_i (nI_toInt hl)), q2⟩, f3, f4, f5⟩
          rw [hn] at kk'
          obtain ⟨ty, hty⟩ : ∃ ty, (ai_tys tc)[t - 1]? = some (tc t, ty) := by
            have h1t : 1 ≤ t := h1t
            have h6t : t ≤ 6 := h6t
            rcases (show t = 1 ∨ t = 2 ∨ t = 3 ∨ t = 4 ∨ t = 5 ∨ t = 6 by omega) with rfl | rfl | rfl | rfl | rfl | rfl <;> exact ⟨_, rfl⟩
          exact va_alen (x := (n, y)) hx hb hV f4 i (t - 1) hwi hty rfl hdg kk'
theorem ai_el_cons {t n : Nat} {d : List ai_V} {us : List (Nat × ai_V)} {k j : Nat} {v : ai_V} : ai_el (t, n, d, (k, v) :: us) j = if k = j then v else ai_el (t, n, d, us) j := ai_lk_cons _ _ _ _
theorem so_ald {sl : Int × Int} {pt : Nat → Bool} (hscr : pt 1 = true → ∀ {H : Heap} {locs : List Loc} {cells slots : Nat} {ls : Array Slot} {rest : List Value} {z : Int32}, va_S (ai_A base) s.heap H locs → z.toInt < sl.1 → ¬ z < 0 →
      W p l e R s m args below meth c H locs cells slots Q (F0 m npc ls (.int (rho z.toNatClampNeg) :: rest)) → W p l e R s m args below meth c H locs cells slots Q (F0 m pc ls (.int z :: .ref b0 :: rest)))
    (hrow : ∀ {H : Heap} {locs : List Loc} {cells slots : Nat} {ls : Array Slot} {rest : List Value} {z : Int32} {ws : va_W} {i a : Nat} {e0 : va_E} {c1 : ai_C}, pt c1.1 = true → va_P (dC, dI) vwCl ws H → ws[i]? = some (a, e0) → ai_RC b0 rho tc ws c1 e0 → ¬ z < 0 → z.toNatClampNeg < c1.2.1 →
      ∃ w, ai_Rv b0 rho ws (ai_el c1 z.toNatClampNeg) w ∧ (W p l e R s m args below meth c H locs cells slots Q (F0 m npc ls (w :: rest)) → W p l e R s m args below meth c H locs cells slots Q (F0 m pc ls (.int z :: .ref a :: rest))))
    (hK : ai_KS p l e R s m args below meth c nL b0 rho tc dC dI base ws0 kE sE mk0 ms0 os0 Q K) (h : ai_o_ald sl pt npc call K loc st g = some r) : ai_At p l e R s m args below meth c nL b0 rho tc dC dI base ws0 kE sE mk0 ms0 os0 Q pc loc st g r := by
  unfold ai_o_ald at h
  cases st with
  | nil => cases h
  | cons i st =>
    cases st with
    | nil => cases h
    | cons u st =>
      simp only at h
      cases hv : ai_vals (ai_x g) i with
      | none => rw [hv] at h; cases h
      | some l1 =>
        rw [hv] at h
        simp only at h
        have hit : i.1 ≤ 1 := by
          unfold ai_vals at hv
          cases h1 : ai_rng (ai_x g) i with
          | none => rw [h1] at hv; cases hv
          | some q => exact ai_rng_tag h1
        cases h6 : Nat.beq (Prod.fst u) 6 with
        | true =>
          rw [h6] at h
          simp only [cond_true] at h
          have e6 : u.1 = 6 := Nat.eq_of_beq_eq_true h6
          cases hcd : (pt 1 && l1.all (fun q => ai_ilt (.ofNat (Prod.fst q)) (Prod.fst sl))) with
          | false => rw [hcd] at h; cases h
          | true =>
            rw [hcd] at h
            simp only [cond_true] at h
            rw [Bool.and_eq_true, List.all_eq_true] at hcd
            refine ai_At.all (k := fun q => K npc loc ((1, .ofNat (Prod.fst q), 0) :: st) (ai_ge g (Prod.snd q))) h (fun _ => npc) (fun _ => loc) (fun q => (1, .ofNat (Prod.fst q), 0) :: st) (fun q => ai_ge g (Prod.snd q)) (fun q _ rq hq => hK _ _ _ _ _ hq) (fun q => ⟨Nat.le_refl _, Nat.le_refl _⟩) ?_
            intro H locs cells slots ls vs ws ⟨f0, f1, f2, f3, f4, f5, f6, f7, f8⟩ kk
            obtain ⟨w1, rest, rfl, q1, q2⟩ := f2.cons
            obtain ⟨w2, rest, rfl, q3, q4⟩ := q2.cons
            rw [q3.scr e6]
            obtain ⟨z, rfl, nz⟩ := q1.int hit
            obtain ⟨q, hq, z1, z2, z3, z4⟩ := ai_vals_ok f7 nz hv
            have z5 := (ai_ilt_iff _ _).mp (hcd.2 q hq)
            refine hscr hcd.1 f6 (by rw [z1]; exact z5) z3 (kk q hq H locs cells slots ls _ ws (ai_ge_fr ⟨f0, f1, ⟨Or.inl ⟨Nat.le_refl _, _, rfl, Or.inr ⟨rfl, ?_⟩⟩, q4⟩, f3, f4, f5, f6, f7, f8⟩ z4))
            show rho z.toNatClampNeg = rho q.1 + Int32.ofInt 0
            rw [ai_ofInt0, z2]
        | false =>
          rw [h6] at h
          simp only [cond_false] at h
          cases hc : ai_cell g u with
          | none => rw [hc] at h; cases h
          | some q =>
            obtain ⟨ic, t, n, d, us⟩ := q
            rw [hc] at h
            simp only at h
            cases hcd : (pt t && l1.all (fun q => Nat.blt (Prod.fst q) n)) with
            | false => rw [hcd] at h; cases h
            | true =>
              rw [hcd] at h
              simp only [cond_true] at h
              rw [Bool.and_eq_true, List.all_eq_true] at hcd
              refine ai_At.all (k := fun q => K npc loc (ai_lk us (ai_nth ai_un d 0) (Prod.fst q) :: st) (ai_ge g (Prod.snd q))) h (fun _ => npc) (fun _ => loc) (fun q => ai_lk us (ai_nth ai_un d 0) (Prod.fst q) :: st) (fun q => ai_ge g (Prod.snd q)) (fun q _ rq hq => hK _ _ _ _ _ hq) (fun q => ⟨Nat.le_refl _, Nat.le_refl _⟩) ?_
              intro H locs cells slots ls vs ws ⟨f0, f1, f2, f3, f4, f5, f6, f7, f8⟩ kk
              obtain ⟨w1, rest, rfl, q1, q2⟩ := f2.cons
              obtain ⟨w2, rest, rfl, q3, q4⟩ := q2.cons
              obtain ⟨a, e0, rfl, hwi, hil, hcg, hRC⟩ := ai_cell_ok f3 hc q3
              obtain ⟨z, rfl, nz⟩ := q1.int hit
              obtain ⟨q, hq, z1, z2, z3, z4⟩ := ai_vals_ok f7 nz hv
              have z5 : q.1 < n := Nat.le_of_ble_eq_true (hcd.2 q hq)
              obtain ⟨w, hw1, hw2⟩ := hrow (locs := locs) (cells := cells) (slots := slots) (ls := ls) (rest := rest) (z := z) hcd.1 f4 hwi hRC z3 (by rw [z2]; exact z5)
              refine hw2 (kk q hq H locs cells slots ls _ ws (ai_ge_fr ⟨f0, f1, ⟨?_, q4⟩, f3, f4, f5, f6, f7, f8⟩ z4))
              rw [z2] at hw1
              exact hw1
/-- a store into an array: what the row must give; ok: which values it takes -/
theorem so_store {k : Nat} {ok : ai_G → ai_V → Bool} {st1 : List ai_V} {v i u : ai_V} (hst : st = v :: i :: u :: st1)
    (hrow : ∀ {H : Heap} {locs : List Loc} {cells slots : Nat} {ls : Array Slot} {rest : List Value} {z : Int32} {ws : va_W} {ic a : Nat} {e0 : va_E} {c1 : ai_C} {w : Value}, (k = 0 ∨ c1.1 = k) → (c1.1 = 4 ∨ c1.1 = 5 ∨ k ≠ 0) → ok g v = true → ai_EV rho (ai_x g) → ai_WR b0 rho tc ws g.1 (ai_nx g) → va_P (dC, dI) vwCl ws H → va_D (ai_A base) ws → va_S (ai_A base) s.heap H locs → ws[ic]? = some (a, e0) → ai_RC b0 rho tc ws c1 e0 → ai_Rv b0 rho ws v w → ¬ z < 0 → z.toNatClampNeg < c1.2.1 →
      ∃ e', (∀ ws', ai_AD ws ws' → ai_RC b0 rho tc ws' (c1.1, c1.2.1, c1.2.2.1, (z.toNatClampNeg, v) :: c1.2.2.2) e') ∧ ((∀ (H1 : Heap) (locs1 : List Loc), va_P (dC, dI) vwCl (ws.set ic (a, e')) H1 → va_D (ai_A base) (ws.set ic (a, e')) → va_S (ai_A base) s.heap H1 locs1 → W p l e R s m args below meth c H1 locs1 cells slots Q (F0 m npc ls rest)) → W p l e R s m args below meth c H locs cells slots Q (F0 m pc ls (w :: .int z :: .ref a :: rest))))
    {ic t n : Nat} {d : List ai_V} {us : List (Nat × ai_V)} {l1 : List (Nat × ai_E)} (hc : ai_cell g u = some (ic, t, n, d, us)) (hv : ai_vals (ai_x g) i = some l1) (htk : k = 0 ∨ t = k) (htk2 : t = 4 ∨ t = 5 ∨ k ≠ 0) (hln : l1.all (fun q => Nat.blt (Prod.fst q) n) = true) (hok : ok g v = true)
    (hK : ai_KS p l e R s m args below meth c nL b0 rho tc dC dI base ws0 kE sE mk0 ms0 os0 Q K) (h : ai_all (fun q => K npc loc st1 (ai_ge (ai_gh g (ai_set 7 (Prod.fst g) ic (t, n, d, (Prod.fst q, v) :: us))) (Prod.snd q))) l1 = some r) : ai_At p l e R s m args below meth c nL b0 rho tc dC dI base ws0 kE sE mk0 ms0 os0 Q pc loc st g r := by
  have hit : i.1 ≤ 1 := by
    unfold ai_vals at hv
    cases h1 : ai_rng (ai_x g) i with
    | none => rw [h1] at hv; cases hv
    | some q => exact ai_rng_tag h1
  rw [List.all_eq_true] at hln
  subst hst
  refine ai_At.all (k := fun q => K npc loc st1 (ai_ge (ai_gh g (ai_set 7 (Prod.fst g) ic (t, n, d, (Prod.fst q, v) :: us))) (Prod.snd q))) h (fun _ => npc) (fun _ => loc) (fun _ => st1) (fun q => ai_ge (ai_gh g (ai_set 7 (Prod.fst g) ic (t, n, d, (Prod.fst q, v) :: us))) (Prod.snd q)) (fun q _ rq hq => hK _ _ _ _ _ hq) (fun q => ⟨Nat.le_refl _, Nat.le_refl _⟩) ?_
  intro H locs cells slots ls vs ws ⟨f0, f1, f2, f3, f4, f5, f6, f7, f8⟩ kk
  obtain ⟨w1, rest, rfl, q1, q2⟩ := f2.cons
  obtain ⟨w2, rest, rfl, q3, q4⟩ := q2.cons
  obtain ⟨w3, rest, rfl, q5, q6⟩ := q4.cons
  obtain ⟨a, e0, rfl, hwi, hil, hcg, hRC⟩ := ai_cell_ok f3 hc q5
  obtain ⟨z, rfl, nz⟩ := q3.int hit
  obtain ⟨q, hq, z1, z2, z3, z4⟩ := ai_vals_ok f7 nz hv
  have z5 : q.1 < n := Nat.le_of_ble_eq_true (hln q hq)
  obtain ⟨e', hr1, hr2⟩ := hrow (locs := locs) (cells := cells) (slots := slots) (ls := ls) (rest := rest) (z := z) (c1 := (t, n, d, us)) htk htk2 hok f7 f3 f4 f5 f6 hwi hRC q1 z3 (by rw [z2]; exact z5)
  refine hr2 fun H1 locs1 hP1 hD1 hS1 => ?_
  have hA : ai_AD ws (ws.set ic (a, e')) := ai_AD.set hwi
  refine kk q hq H1 locs1 cells slots ls rest (ws.set ic (a, e')) (ai_ge_fr (g := ai_gh g (ai_set 7 (Prod.fst g) ic (t, n, d, (Prod.fst q, v) :: us))) ⟨f0.tr hA, f1.mono hA, q6.mono hA, ?_, hP1, hD1, hS1, f7, f8⟩ z4)
  have h9 := hr1 _ hA
  rw [z2] at h9
  exact f3.put hwi h9
theorem so_ast {k : Nat} (hk : k ≠ 0)
    (hrow : ∀ {H : Heap} {locs : List Loc} {cells slots : Nat} {ls : Array Slot} {rest : List Value} {z : Int32} {ws : va_W} {ic a : Nat} {e0 : va_E} {c1 : ai_C} {v : ai_V} {w : Value}, c1.1 = k → ai_afit k (ai_x g) v = true → ai_EV rho (ai_x g) → va_P (dC, dI) vwCl ws H → va_D (ai_A base) ws → va_S (ai_A base) s.heap H locs → ws[ic]? = some (a, e0) → ai_RC b0 rho tc ws c1 e0 → ai_Rv b0 rho ws v w → ¬ z < 0 → z.toNatClampNeg < c1.2.1 →
      ∃ e', (∀ ws', ai_AD ws ws' → ai_RC b0 rho tc ws' (c1.1, c1.2.1, c1.2.2.1, (z.toNatClampNeg, v) :: c1.2.2.2) e') ∧ ((∀ (H1 : Heap) (locs1 : List Loc), va_P (dC, dI) vwCl (ws.set ic (a, e')) H1 → va_D (ai_A base) (ws.set ic (a, e')) → va_S (ai_A base) s.heap H1 locs1 → W p l e R s m args below meth c H1 locs1 cells slots Q (F0 m npc ls rest)) → W p l e R s m args below meth c H locs cells slots Q (F0 m pc ls (w :: .int z :: .ref a :: rest))))
    (hK : ai_KS p l e R s m args below meth c nL b0 rho tc dC dI base ws0 kE sE mk0 ms0 os0 Q K) (h : ai_o_ast k npc call K loc st g = some r) : ai_At p l e R s m args below meth c nL b0 rho tc dC dI base ws0 kE sE mk0 ms0 os0 Q pc loc st g r := by
  unfold ai_o_ast at h
  cases st with
  | nil => cases h
  | cons v st =>
    cases st with
    | nil => cases h
    | cons i st =>
      cases st with
      | nil => cases h
      | cons u st =>
        simp only at h
        cases hc : ai_cell g u with
        | none => rw [hc] at h; cases h
        | some q =>
          obtain ⟨ic, t, n, d, us⟩ := q
          rw [hc] at h
          simp only at h
          cases hv : ai_vals (ai_x g) i with
          | none => rw [hv] at h; cases h
          | some l1 =>
            rw [hv] at h
            simp only at h
            cases hcd : (Nat.beq t k && l1.all (fun q => Nat.blt (Prod.fst q) n) && ai_afit k (ai_x g) v) with
            | false => rw [hcd] at h; cases h
            | true =>
              rw [hcd] at h
              simp only [Bool.and_eq_true] at hcd
              exact so_store (k := k) (ok := fun g v => ai_afit k (ai_x g) v) rfl (fun h1 h2 h3 h4 h5 => hrow (h1.resolve_left hk) h3 h4) hc hv (Or.inr (Nat.eq_of_beq_eq_true hcd.1.1)) (Or.inr (Or.inr hk)) hcd.1.2 hcd.2 hK h
end HEAP
end
section
/-! ===== the rows of arrays, new cells, copies, long compares, switches ===== -/
theorem ai_vpin {z : Int32} {n : Nat} (h0 : ¬ z < 0) (h : z.toNatClampNeg < n) : vp_in z n := fun q => q.elim h0 (fun h1 => absurd h (Nat.not_lt.mpr h1))
theorem ai_RC.upI {b0 : Nat} {rho : Nat → Int32} {tc : Nat → ClassId} {ws ws' : va_W} {c1 : ai_C} {f : Nat → Int32} {k : Nat} {v : ai_V} {x : Int32} (ht : c1.1 = 1 ∨ c1.1 = 2) (hl : c1.2.1 < 2 ^ 31) (hf : ∀ j, j < c1.2.1 → ai_Rv b0 rho ws (ai_el c1 j) (.int (f j))) (hv : ai_Rv b0 rho ws v (.int x)) (hA : ai_AD ws ws') :
    ai_RC b0 rho tc ws' (c1.1, c1.2.1, c1.2.2.1, (k, v) :: c1.2.2.2) (.inl (tc c1.1, c1.2.1, .inl (upd f k x))) := by
  refine Or.inr (Or.inl ⟨ht, hl, _, rfl, fun j hj => ?_⟩)
  rw [ai_el_cons]
  by_cases hkj : k = j
  · subst hkj
    rw [if_pos rfl, show upd f k x k = x from pk_us]
    exact hv.mono hA
  · rw [if_neg hkj, show upd f k x j = f j from pk_un (fun q => hkj q.symm)]
    exact (hf j hj).mono hA
theorem ai_RC.upL {b0 : Nat} {rho : Nat → Int32} {tc : Nat → ClassId} {ws ws' : va_W} {c1 : ai_C} {f : Nat → Int64} {k : Nat} {v : ai_V} {x : Int64} (ht : c1.1 = 3) (hl : c1.2.1 < 2 ^ 31) (hf : ∀ j, j < c1.2.1 → ai_Rv b0 rho ws (ai_el c1 j) (.long (f j))) (hv : ai_Rv b0 rho ws v (.long x)) (hA : ai_AD ws ws') :
    ai_RC b0 rho tc ws' (c1.1, c1.2.1, c1.2.2.1, (k, v) :: c1.2.2.2) (.inl (tc c1.1, c1.2.1, .inr (.inl (vp_updL f k x)))) := by
  refine Or.inr (Or.inr (Or.inl ⟨ht, hl, _, rfl, fun j hj => ?_⟩))
  rw [ai_el_cons]
  by_cases hkj : k = j
  · subst hkj
    rw [if_pos rfl, show vp_updL f k x k = x from pk_uLs]
    exact hv.mono hA
  · rw [if_neg hkj, show vp_updL f k x j = f j from pk_uLn (fun q => hkj q.symm)]
    exact (hf j hj).mono hA
theorem ai_RC.upR {b0 : Nat} {rho : Nat → Int32} {tc : Nat → ClassId} {ws ws' : va_W} {c1 : ai_C} {f : Nat → Option Nat} {k : Nat} {v : ai_V} {x : Option Nat} (ht : c1.1 = 4 ∨ c1.1 = 5 ∨ c1.1 = 6) (hl : c1.2.1 < 2 ^ 31) (hf : ∀ j, j < c1.2.1 → ai_Rv b0 rho ws (ai_el c1 j) (va_rf (f j))) (hv : ai_Rv b0 rho ws v (va_rf x)) (hA : ai_AD ws ws') :
    ai_RC b0 rho tc ws' (c1.1, c1.2.1, c1.2.2.1, (k, v) :: c1.2.2.2) (.inl (tc c1.1, c1.2.1, .inr (.inr (.inr (.inr (va_up f k x)))))) := by
  refine Or.inr (Or.inr (Or.inr ⟨ht, hl, _, rfl, fun j hj => ?_⟩))
  rw [ai_el_cons]
  by_cases hkj : k = j
  · subst hkj
    rw [if_pos rfl, va_up_self]
    exact hv.mono hA
  · rw [if_neg hkj, va_up_ne f x (fun q => hkj q.symm)]
    exact (hf j hj).mono hA
theorem ai_RA1 {U : State} {c1 c2 : ClassId} {ty : FieldType} (h1 : va_RA U c1 ty) (h2 : va_RA U c2 ty) : c1 = c2 := by
  cases ty with
  | object C =>
    obtain ⟨-, -, -, -, -, q1⟩ := h1
    obtain ⟨-, -, -, -, -, q2⟩ := h2
    exact Option.some.inj (q1.symm.trans q2)
  | _ => exact Option.some.inj (h1.symm.trans h2)
section ARR
variable {p : Program} {l : Launch} {e : Env} {R : Room} {s : State} {m : MethodId} {args : Array Value} {below : List Frame} {meth : Method} {c : Code} {nL b0 : Nat} {rho : Nat → Int32} {tc dC : Nat → ClassId} {dI : Nat → Nat → Nat} {base : Nat} {ws0 : va_W} {kE sE mk0 ms0 : Nat} {os0 : List ai_O} {Q : State → Prop}
variable {cc : ByteArray} {own : String} {Ts : List Cond} {call : ai_K} {K : ai_K4} {pc npc : Nat} {loc st : List ai_V} {g : ai_G} {r : ai_R}
theorem so_iald (hx : p.tables.exec = Jvm.exec) (hb : c.code = cc) (hV : va_K (dC, dI) vwCl (ai_tys tc) s) {sl : Int × Int} {L : Nat} (hX : va_X b0 L rho s s.heap) (hbl : b0 < s.heap.size) (hbA : ¬ ai_A base b0) (hsl : sl.1 ≤ (L : Int))
    (hdg : decode cc pc = .ok (.iaload, 1)) (hn : npc = pc + 1) (hK : ai_KS p l e R s m args below meth c nL b0 rho tc dC dI base ws0 kE sE mk0 ms0 os0 Q K) (h : ai_o_ald sl ai_is1 npc call K loc st g = some r) : ai_At p l e R s m args below meth c nL b0 rho tc dC dI base ws0 kE sE mk0 ms0 os0 Q pc loc st g r := by
  subst hn
  refine so_ald (fun _ H locs cells slots ls rest z hS hlt h0 k => ?_) (fun {H locs cells slots ls rest z ws i a e0 c1} hp hP hwi hRC h0 hlt => ?_) hK h
  · refine va_sld hx hb hX hbl hbA hS (ai_vpin h0 ?_) hdg k
    have h1 : (0 : Int) ≤ z.toInt := by
      have := Int32.not_lt.mp h0
      rw [Int32.le_iff_toInt_le] at this
      exact this
    show z.toInt.toNat < L
    omega
  · have ht : c1.1 = 1 := Nat.eq_of_beq_eq_true hp
    obtain ⟨hl, f, rfl, hf⟩ := hRC.ints (Or.inl ht)
    exact ⟨_, hf _ hlt, fun k => va_iald hx hb hV hP i 0 hwi (by rw [ht]; rfl) (ai_vpin h0 hlt) hdg k⟩
theorem so_bald (hx : p.tables.exec = Jvm.exec) (hb : c.code = cc) (hV : va_K (dC, dI) vwCl (ai_tys tc) s) {sl : Int × Int}
    (hdg : decode cc pc = .ok (.baload, 1)) (hn : npc = pc + 1) (hK : ai_KS p l e R s m args below meth c nL b0 rho tc dC dI base ws0 kE sE mk0 ms0 os0 Q K) (h : ai_o_ald sl ai_is2 npc call K loc st g = some r) : ai_At p l e R s m args below meth c nL b0 rho tc dC dI base ws0 kE sE mk0 ms0 os0 Q pc loc st g r := by
  subst hn
  refine so_ald (fun hp => by cases hp) (fun {H locs cells slots ls rest z ws i a e0 c1} hp hP hwi hRC h0 hlt => ?_) hK h
  have ht : c1.1 = 2 := Nat.eq_of_beq_eq_true hp
  obtain ⟨hl, f, rfl, hf⟩ := hRC.ints (Or.inr ht)
  exact ⟨_, hf _ hlt, fun k => va_zald hx hb hV hP i 1 hwi (by rw [ht]; rfl) (ai_vpin h0 hlt) hdg k⟩
theorem so_lald (hx : p.tables.exec = Jvm.exec) (hb : c.code = cc) (hV : va_K (dC, dI) vwCl (ai_tys tc) s) {sl : Int × Int}
    (hdg : decode cc pc = .ok (.laload, 1)) (hn : npc = pc + 1) (hK : ai_KS p l e R s m args below meth c nL b0 rho tc dC dI base ws0 kE sE mk0 ms0 os0 Q K) (h : ai_o_ald sl ai_is3 npc call K loc st g = some r) : ai_At p l e R s m args below meth c nL b0 rho tc dC dI base ws0 kE sE mk0 ms0 os0 Q pc loc st g r := by
  subst hn
  refine so_ald (fun hp => by cases hp) (fun {H locs cells slots ls rest z ws i a e0 c1} hp hP hwi hRC h0 hlt => ?_) hK h
  have ht : c1.1 = 3 := Nat.eq_of_beq_eq_true hp
  obtain ⟨hl, f, rfl, hf⟩ := hRC.longs ht
  exact ⟨_, hf _ hlt, fun k => va_lald hx hb hV hP i 2 hwi (by rw [ht]; rfl) (ai_vpin h0 hlt) hdg k⟩
theorem so_aald (hx : p.tables.exec = Jvm.exec) (hb : c.code = cc) (hV : va_K (dC, dI) vwCl (ai_tys tc) s) {sl : Int × Int}
    (hdg : decode cc pc = .ok (.aaload, 1)) (hn : npc = pc + 1) (hK : ai_KS p l e R s m args below meth c nL b0 rho tc dC dI base ws0 kE sE mk0 ms0 os0 Q K) (h : ai_o_ald sl ai_is4 npc call K loc st g = some r) : ai_At p l e R s m args below meth c nL b0 rho tc dC dI base ws0 kE sE mk0 ms0 os0 Q pc loc st g r := by
  subst hn
  refine so_ald (fun hp => by cases hp) (fun {H locs cells slots ls rest z ws i a e0 c1} hp hP hwi hRC h0 hlt => ?_) hK h
  have ht : c1.1 = 4 ∨ c1.1 = 5 := by
    rcases Bool.or_eq_true_iff.mp hp with q | q
    · exact Or.inl (Nat.eq_of_beq_eq_true q)
    · exact Or.inr (Nat.eq_of_beq_eq_true q)
  obtain ⟨hl, f, rfl, hf⟩ := hRC.refs (by omega)
  rcases ht with ht | ht
  · exact ⟨_, hf _ hlt, fun k => va_aldq hx hb hV hP i 3 hwi (by rw [ht]; rfl) (ai_vpin h0 hlt) hdg k⟩
  · exact ⟨_, hf _ hlt, fun k => va_aldq hx hb hV hP i 4 hwi (by rw [ht]; rfl) (ai_vpin h0 hlt) hdg k⟩
theorem so_iast (hx : p.tables.exec = Jvm.exec) (hb : c.code = cc) (hV : va_K (dC, dI) vwCl (ai_tys tc) s)
    (hdg : decode cc pc = .ok (.iastore, 1)) (hn : npc = pc + 1) (hK : ai_KS p l e R s m args below meth c nL b0 rho tc dC dI base ws0 kE sE mk0 ms0 os0 Q K) (h : ai_o_ast 1 npc call K loc st g = some r) : ai_At p l e R s m args below meth c nL b0 rho tc dC dI base ws0 kE sE mk0 ms0 os0 Q pc loc st g r := by
  subst hn
  refine so_ast (by decide) (fun {H locs cells slots ls rest z ws ic a e0 c1 v w} ht hfit hE hP hD hS hwi hRC hv h0 hlt => ?_) hK h
  obtain ⟨hl, f, rfl, hf⟩ := hRC.ints (Or.inl ht)
  obtain ⟨x, rfl, nx⟩ := hv.int ((ai_isn_iff v).mp hfit)
  exact ⟨_, fun ws' hA => ai_RC.upI (Or.inl ht) hl hf hv hA, fun k => va_iast hx hb hV hP hD hS ic 0 hwi (by rw [ht]; rfl) (ai_vpin h0 hlt) hdg k⟩
theorem so_bast (hx : p.tables.exec = Jvm.exec) (hb : c.code = cc) (hV : va_K (dC, dI) vwCl (ai_tys tc) s)
    (hdg : decode cc pc = .ok (.bastore, 1)) (hn : npc = pc + 1) (hK : ai_KS p l e R s m args below meth c nL b0 rho tc dC dI base ws0 kE sE mk0 ms0 os0 Q K) (h : ai_o_ast 2 npc call K loc st g = some r) : ai_At p l e R s m args below meth c nL b0 rho tc dC dI base ws0 kE sE mk0 ms0 os0 Q pc loc st g r := by
  subst hn
  refine so_ast (by decide) (fun {H locs cells slots ls rest z ws ic a e0 c1 v w} ht hfit hE hP hD hS hwi hRC hv h0 hlt => ?_) hK h
  obtain ⟨hl, f, rfl, hf⟩ := hRC.ints (Or.inr ht)
  obtain ⟨h1, h2⟩ := ai_fits_bool hE hfit
  obtain ⟨x, rfl, nx⟩ := hv.int h1
  have hnar : vp_nar .boolean x = x := by rcases h2 x nx with rfl | rfl <;> rfl
  exact ⟨_, fun ws' hA => ai_RC.upI (Or.inr ht) hl hf hv hA, fun k => va_zast hx hb hV hP hD hS ic 1 hwi (by rw [ht]; rfl) (ai_vpin h0 hlt) hdg (by rw [hnar]; exact k)⟩
theorem so_last (hx : p.tables.exec = Jvm.exec) (hb : c.code = cc) (hV : va_K (dC, dI) vwCl (ai_tys tc) s)
    (hdg : decode cc pc = .ok (.lastore, 1)) (hn : npc = pc + 1) (hK : ai_KS p l e R s m args below meth c nL b0 rho tc dC dI base ws0 kE sE mk0 ms0 os0 Q K) (h : ai_o_ast 3 npc call K loc st g = some r) : ai_At p l e R s m args below meth c nL b0 rho tc dC dI base ws0 kE sE mk0 ms0 os0 Q pc loc st g r := by
  subst hn
  refine so_ast (by decide) (fun {H locs cells slots ls rest z ws ic a e0 c1 v w} ht hfit hE hP hD hS hwi hRC hv h0 hlt => ?_) hK h
  obtain ⟨hl, f, rfl, hf⟩ := hRC.longs ht
  have hv45 : v.1 = 4 ∨ v.1 = 5 := by
    rcases Bool.or_eq_true_iff.mp hfit with q | q
    · exact Or.inl (Nat.eq_of_beq_eq_true q)
    · exact Or.inr (Nat.eq_of_beq_eq_true q)
  obtain ⟨x, rfl, nx⟩ := hv.lng hv45
  exact ⟨_, fun ws' hA => ai_RC.upL ht hl hf hv hA, fun k => va_last hx hb hV hP hD hS ic 2 hwi (by rw [ht]; rfl) (ai_vpin h0 hlt) hdg k⟩
theorem ai_eta {g : ai_G} {v : ai_V} {q : Nat × ai_C} (h : ai_cell g v = some q) : ai_cell (g.1, ai_nx g, g.2.2) v = some q := h
theorem so_aast (hx : p.tables.exec = Jvm.exec) (hb : c.code = cc) (hV : va_K (dC, dI) vwCl (ai_tys tc) s)
    (hdg : decode cc pc = .ok (.aastore, 1)) (hn : npc = pc + 1) (hK : ai_KS p l e R s m args below meth c nL b0 rho tc dC dI base ws0 kE sE mk0 ms0 os0 Q K) (h : ai_o_aast npc call K loc st g = some r) : ai_At p l e R s m args below meth c nL b0 rho tc dC dI base ws0 kE sE mk0 ms0 os0 Q pc loc st g r := by
  subst hn
  unfold ai_o_aast at h
  cases st with
  | nil => cases h
  | cons v st =>
    cases st with
    | nil => cases h
    | cons i st =>
      cases st with
      | nil => cases h
      | cons u st =>
        simp only at h
        cases hc : ai_cell g u with
        | none => rw [hc] at h; cases h
        | some q =>
          obtain ⟨ic, t, n, d, us⟩ := q
          rw [hc] at h
          simp only at h
          cases hv : ai_vals (ai_x g) i with
          | none => rw [hv] at h; cases h
          | some l1 =>
            rw [hv] at h
            simp only at h
            cases hcd : ((Nat.beq t 4 || Nat.beq t 5) && l1.all (fun q => Nat.blt (Prod.fst q) n) && ai_rfit t g v) with
            | false => rw [hcd] at h; cases h
            | true =>
              rw [hcd] at h
              simp only [Bool.and_eq_true] at hcd
              have ht : t = 4 ∨ t = 5 := by
                rcases Bool.or_eq_true_iff.mp hcd.1.1 with q | q
                · exact Or.inl (Nat.eq_of_beq_eq_true q)
                · exact Or.inr (Nat.eq_of_beq_eq_true q)
              refine so_store (k := t) (ok := fun g v => ai_rfit t g v) rfl (fun {H locs cells slots ls rest z ws ic2 a e0 c1 w} h1 _ hok hE hWR hP hD hS hwi hRC hvw h0 hlt => ?_) hc hv (Or.inr rfl) (by omega) hcd.1.2 hcd.2 hK h
              have e1 : c1.1 = t := by omega
              obtain ⟨hl, f, rfl, hf⟩ := hRC.refs (by omega)
              have hok : ai_rfit t g v = true := hok
              unfold ai_rfit at hok
              cases h2 : Nat.beq (Prod.fst v) 2 with
              | true =>
                have e2 : v.1 = 2 := Nat.eq_of_beq_eq_true h2
                have ew := hvw.nul e2
                subst ew
                refine ⟨_, fun ws' hA => ai_RC.upR (x := none) (by omega) hl hf hvw hA, fun k => ?_⟩
                rcases ht with rfl | rfl
                · exact va_astqN (C := "PenPage$Page") hx hb hV hP hD hS ic2 3 hwi (by rw [e1]; rfl) (ai_vpin h0 hlt) hdg k
                · exact va_astqN (C := "PenPage$Step") hx hb hV hP hD hS ic2 4 hwi (by rw [e1]; rfl) (ai_vpin h0 hlt) hdg k
              | false =>
                rw [h2] at hok
                simp only [cond_false] at hok
                cases hc2 : ai_cell g v with
                | none => rw [hc2] at hok; cases hok
                | some q =>
                  obtain ⟨iv, tg, cv, fs, zz⟩ := q
                  rw [hc2] at hok
                  simp only [Bool.and_eq_true] at hok
                  have e3 : tg = 0 := Nat.eq_of_beq_eq_true hok.1
                  have e4 : cv = ai_ofk t := Nat.eq_of_beq_eq_true hok.2
                  subst e3
                  obtain ⟨av, ev, rfl, hwv, -, -, hRCv⟩ := ai_cell_ok hWR (ai_eta hc2) hvw
                  obtain ⟨us2, rfl, -⟩ := hRCv.obj rfl
                  refine ⟨_, fun ws' hA => ai_RC.upR (x := some av) (by omega) hl hf hvw hA, fun k => ?_⟩
                  have e4 : cv = ai_ofk t := e4
                  subst e4
                  rcases ht with rfl | rfl
                  · exact va_astq (r := (RX3, TX3, 6)) hx hb hV hP hD hS ic2 3 iv 3 hwi (by rw [e1]; rfl) hwv rfl (ai_vpin h0 hlt) hdg k
                  · exact va_astq (r := (RX4, TX4, 1)) hx hb hV hP hD hS ic2 4 iv 4 hwi (by rw [e1]; rfl) hwv rfl (ai_vpin h0 hlt) hdg k
theorem lgc_eq {y z : Int32} : (lg_cmp y.toInt64 z.toInt64 = 0 ↔ y = z) ∧ (lg_cmp y.toInt64 z.toInt64 = 0 ∨ lg_cmp y.toInt64 z.toInt64 = 1 ∨ lg_cmp y.toInt64 z.toInt64 = -1) := by
  have e : y.toInt64 = z.toInt64 ↔ y = z := by rw [← Int64.toInt_inj, ← Int32.toInt_inj, Int32.toInt_toInt64, Int32.toInt_toInt64]
  unfold lg_cmp
  by_cases h1 : y.toInt64 > z.toInt64
  · rw [if_pos h1]
    have hne : ¬ y = z := fun q => by
      rw [q] at h1
      rw [gt_iff_lt, Int64.lt_iff_toInt_lt] at h1
      omega
    exact ⟨⟨fun q => absurd q (by decide), fun q => absurd q hne⟩, Or.inr (Or.inl rfl)⟩
  · rw [if_neg h1]
    by_cases h2 : y.toInt64 = z.toInt64
    · rw [if_pos h2]
      exact ⟨⟨fun _ => e.mp h2, fun _ => rfl⟩, Or.inl rfl⟩
    · rw [if_neg h2]
      exact ⟨⟨fun q => absurd q (by decide), fun q => absurd (e.mpr q) h2⟩, Or.inr (Or.inr rfl)⟩
theorem so_lcmp (hx : p.tables.exec = Jvm.exec) (hb : c.code = cc) (hdg : decode cc pc = .ok (.lcmp, 1)) (hn : npc = pc + 1) (hK : ai_KS p l e R s m args below meth c nL b0 rho tc dC dI base ws0 kE sE mk0 ms0 os0 Q K) (h : ai_o_lcmp npc call K loc st g = some r) : ai_At p l e R s m args below meth c nL b0 rho tc dC dI base ws0 kE sE mk0 ms0 os0 Q pc loc st g r := by
  subst hn
  unfold ai_o_lcmp at h
  cases st with
  | nil => cases h
  | cons v st =>
    cases st with
    | nil => cases h
    | cons u st =>
      simp only at h
      cases hcd : (Nat.ble 4 (Prod.fst u) && Nat.ble 4 (Prod.fst v)) with
      | false => rw [hcd] at h; cases h
      | true =>
        rw [hcd] at h
        simp only [cond_true] at h
        rw [Bool.and_eq_true] at hcd
        have u4 : 4 ≤ u.1 := Nat.le_of_ble_eq_true hcd.1
        have v4 : 4 ≤ v.1 := Nat.le_of_ble_eq_true hcd.2
        cases he : ai_eq (ai_x g) (Nat.sub (Prod.fst u) 4, Prod.snd u) (Nat.sub (Prod.fst v) 4, Prod.snd v) with
        | none => rw [he] at h; cases h
        | some l1 =>
          rw [he] at h
          simp only at h
          have htg := ai_cmp_tags (k := .eq) he
          have hu5 : u.1 - 4 ≤ 1 := htg.1
          have hv5 : v.1 - 4 ≤ 1 := htg.2
          refine ai_At.all (k := fun q => K (pc + 1) loc ((cond (Prod.fst q) (ai_i 0) (0, -1, 1)) :: st) (ai_ge g (Prod.snd q))) h (fun _ => pc + 1) (fun _ => loc) (fun q => (cond (Prod.fst q) (ai_i 0) (0, -1, 1)) :: st) (fun q => ai_ge g (Prod.snd q)) (fun q _ rq hq => hK _ _ _ _ _ hq) (fun q => ⟨Nat.le_refl _, Nat.le_refl _⟩) ?_
          intro H locs cells slots ls vs ws ⟨f0, f1, f2, f3, f4, f5, f6, f7, f8⟩ kk
          obtain ⟨w1, rest, rfl, q1, q2⟩ := f2.cons
          obtain ⟨w2, rest, rfl, q3, q4⟩ := q2.cons
          obtain ⟨z, rfl, nz⟩ := q1.lng (by omega)
          obtain ⟨y, rfl, ny⟩ := q3.lng (by omega)
          refine W.lcmp hx hb hdg ?_
          obtain ⟨w1, w2⟩ := ai_eq_ok f7 (z := z) (y := y) ny nz he
          obtain ⟨c1, c2⟩ := lgc_eq (y := y) (z := z)
          by_cases hyz : y = z
          · obtain ⟨q, hq, e1, e2⟩ := w1 hyz
            refine kk q hq H locs cells slots ls _ ws (ai_ge_fr ⟨f0, f1, ⟨?_, q4⟩, f3, f4, f5, f6, f7, f8⟩ e2)
            rw [e1, c1.mpr hyz]
            exact ai_Rv.mkI (ai_num_i rfl)
          · obtain ⟨q, hq, e1, e2⟩ := w2 hyz
            refine kk q hq H locs cells slots ls _ ws (ai_ge_fr ⟨f0, f1, ⟨?_, q4⟩, f3, f4, f5, f6, f7, f8⟩ e2)
            rw [e1]
            refine ai_Rv.mkI (Or.inl ⟨rfl, ?_⟩)
            rcases c2 with c2 | c2 | c2 <;> rw [c2] <;> decide
theorem so_sw (hx : p.tables.exec = Jvm.exec) (hb : c.code = cc) {dflt lo hi : Int} {offs : Array Int} {len df : Nat} {ts : List Nat} (hdg : decode cc pc = .ok (.tableswitch dflt lo hi offs, len)) (hdf : (pc : Int) + dflt = (df : Int)) (hlen : hi = lo + (ts.length : Int) - 1) (hto : ∀ i, i < ts.length → ∃ off, offs[i]? = some off ∧ (pc : Int) + off = ((ai_nth df ts i : Nat) : Int))
    (hK : ai_KS p l e R s m args below meth c nL b0 rho tc dC dI base ws0 kE sE mk0 ms0 os0 Q K) (h : ai_o_sw lo hi df ts call K loc st g = some r) : ai_At p l e R s m args below meth c nL b0 rho tc dC dI base ws0 kE sE mk0 ms0 os0 Q pc loc st g r := by
  unfold ai_o_sw at h
  cases st with
  | nil => cases h
  | cons v st =>
    simp only at h
    cases hr : ai_rng (ai_x g) v with
    | none => rw [hr] at h; cases h
    | some q =>
      obtain ⟨a, b⟩ := q
      rw [hr] at h
      simp only at h
      refine ai_At.all h (fun q => q.1) (fun _ => loc) (fun _ => st) (fun q => ai_ge g (Prod.snd q)) (fun q _ rq hq => hK _ _ _ _ _ hq) (fun q => ⟨Nat.le_refl _, Nat.le_refl _⟩) ?_
      intro H locs cells slots ls vs ws ⟨f0, f1, f2, f3, f4, f5, f6, f7, f8⟩ kk
      obtain ⟨w1, rest, rfl, q1, q2⟩ := f2.cons
      obtain ⟨z, rfl, nz⟩ := q1.int (ai_rng_tag hr)
      obtain ⟨r1, r2⟩ := ai_rng_ok f7 nz hr
      have bz := ai_le32 z
      by_cases h1 : z.toInt < lo
      · refine lv_tableOut hx hb hdg (Or.inl h1) hdf ?_
        refine kk (df, ai_ref (ai_x g) v ai_lo (lo - 1)) (List.mem_append_left _ (List.mem_append_left _ ?_)) H locs cells slots ls rest ws (ai_ge_fr ⟨f0, f1, q2, f3, f4, f5, f6, f7, f8⟩ (ai_ref_ok f7 nz (by rw [ai_lo_eq]; omega) (by omega)))
        rw [(ai_ilt_iff a lo).mpr (by omega)]
        exact List.mem_singleton.mpr rfl
      · by_cases h2 : hi < z.toInt
        · refine lv_tableOut hx hb hdg (Or.inr h2) hdf ?_
          refine kk (df, ai_ref (ai_x g) v (hi + 1) ai_hi) (List.mem_append_left _ (List.mem_append_right _ ?_)) H locs cells slots ls rest ws (ai_ge_fr ⟨f0, f1, q2, f3, f4, f5, f6, f7, f8⟩ (ai_ref_ok f7 nz (by omega) (by rw [ai_hi_eq]; omega)))
          rw [(ai_ilt_iff hi b).mpr (by omega)]
          exact List.mem_singleton.mpr rfl
        · have hi2 : (z.toInt - lo).toNat < ts.length := by omega
          obtain ⟨off, ho1, ho2⟩ := hto _ hi2
          refine lv_tableIn hx hb hdg h1 h2 ho1 ho2 ?_
          have ez : lo + (((z.toInt - lo).toNat : Nat) : Int) = z.toInt := by omega
          refine kk (ai_nth df ts (z.toInt - lo).toNat, ai_ref (ai_x g) v (lo + (((z.toInt - lo).toNat : Nat) : Int)) (lo + (((z.toInt - lo).toNat : Nat) : Int))) (List.mem_append_right _ (List.mem_map.mpr ⟨(z.toInt - lo).toNat, List.mem_filter.mpr ⟨List.mem_range.mpr hi2, ?_⟩, rfl⟩)) H locs cells slots ls rest ws (ai_ge_fr ⟨f0, f1, q2, f3, f4, f5, f6, f7, f8⟩ (ai_ref_ok f7 nz (by omega) (by omega)))
          rw [Bool.and_eq_true, ai_ile_iff, ai_ile_iff]
          omega
end ARR
end
section
/-! ===== new cells ===== -/
section NEW
variable {p : Program} {l : Launch} {e : Env} {R : Room} {s : State} {m : MethodId} {args : Array Value} {below : List Frame} {meth : Method} {c : Code} {nL b0 : Nat} {rho : Nat → Int32} {tc dC : Nat → ClassId} {dI : Nat → Nat → Nat} {base : Nat} {ws0 : va_W} {kE sE mk0 ms0 : Nat} {os0 : List ai_O} {Q : State → Prop}
variable {cc : ByteArray} {own : String} {Ts : List Cond} {call : ai_K} {K : ai_K4} {pc npc : Nat} {loc st : List ai_V} {g : ai_G} {r : ai_R}
/-- a new cell: what the row must give -/
theorem so_mk {c1 : ai_C} {sz : Nat} {st1 : List ai_V} (hRc : mk0 ≤ kE + R.cells) (hRs : ms0 ≤ sE + R.slots)
    (hrow : ∀ {H : Heap} {locs : List Loc} {cells slots : Nat} {ls : Array Slot} {vs : List Value} {ws : va_W}, va_P (dC, dI) vwCl ws H → va_D (ai_A base) ws → va_S (ai_A base) s.heap H locs → ai_EV rho (ai_x g) → ai_SR b0 rho ws st vs → cells + 1 ≤ R.cells → slots + sz ≤ R.slots →
      ∃ (e' : va_E) (rest : List Value), ai_SR b0 rho ws st1 rest ∧ (∀ ws', ai_AD ws ws' → ai_RC b0 rho tc ws' c1 e') ∧
        ((∀ (q : Nat) (H1 : Heap), va_P (dC, dI) vwCl (ws ++ [(q, e')]) H1 → va_D (ai_A base) (ws ++ [(q, e')]) → va_S (ai_A base) s.heap H1 locs → W p l e R s m args below meth c H1 locs (cells + 1) (slots + sz) Q (F0 m npc ls (.ref q :: rest))) → W p l e R s m args below meth c H locs cells slots Q (F0 m pc ls vs)))
    (hK : ai_KS p l e R s m args below meth c nL b0 rho tc dC dI base ws0 kE sE mk0 ms0 os0 Q K) (h : ai_mk c1 sz npc K loc st1 g = some r) : ai_At p l e R s m args below meth c nL b0 rho tc dC dI base ws0 kE sE mk0 ms0 os0 Q pc loc st g r := by
  unfold ai_mk at h
  cases hcd : Nat.blt (ai_nx g) 128 with
  | false => rw [hcd] at h; cases h
  | true =>
    rw [hcd] at h
    simp only [cond_true] at h
    have h128 : ai_nx g < 128 := Nat.le_of_ble_eq_true hcd
    have hA := hK _ _ _ _ _ h
    have m1 : ai_kc g + 1 ≤ r.2.1 := hA.1.1
    have m2 : ai_ks g + sz ≤ r.2.2 := hA.1.2
    refine ai_At.step hA ⟨Nat.le_succ _, Nat.le_add_right _ _⟩ fun H locs cells slots ls vs ws ⟨f0, f1, f2, f3, f4, f5, f6, f7, f8, f9⟩ hr1 hr2 kk => ?_
    obtain ⟨e', rest, q2, hRC, hgo⟩ := hrow (locs := locs) (cells := cells) (slots := slots) (ls := ls) f4 f5 f6 f7 f2 (by omega) (by omega)
    refine hgo fun q H1 hP1 hD1 hS1 => ?_
    have hAD : ai_AD ws (ws ++ [(q, e')]) := ai_AD.app
    have hwl : ws.length = ai_nx g := f3.1
    refine kk H1 locs (cells + 1) (slots + sz) ls (.ref q :: rest) (ws ++ [(q, e')]) ⟨f0.tr hAD, f1.mono hAD, ⟨Or.inr (Or.inr (Or.inl ⟨rfl, q, e', ?_, rfl⟩)), q2.mono hAD⟩, f3.push h128 (hRC _ hAD), hP1, hD1, hS1, f7, ?_, ?_⟩
    · show (ws ++ [(q, e')])[ai_nx g]? = _
      rw [← hwl, List.getElem?_append_right (Nat.le_refl _), Nat.sub_self]
      rfl
    · show kE + (cells + 1) = ai_kc g + 1; omega
    · show sE + (slots + sz) = ai_ks g + sz; omega
theorem so_new (hx : p.tables.exec = Jvm.exec) (hb : c.code = cc) (hts : ∀ w ∈ Ts, w.before args s = true) (hown : s.vm.findClass own = some m.cls) (hV : va_K (dC, dI) vwCl (ai_tys tc) s) (hbs : base ≤ s.heap.size) (hRc : mk0 ≤ kE + R.cells) (hRs : ms0 ≤ sE + R.slots)
    {ci idx N : Nat} {C : String} {T : u_T} {ty0 : Nat → FieldType} {fs : List ai_V} {fv : List Value} (hcl : vwCl[ci]? = some (C, T, N)) (hin : ∀ w ∈ u_ws C T N, w ∈ Ts) (hty : ∀ k, k < N → parseFieldDescriptor (T k).2.2.1 = some (ty0 k))
    (hcw : (Cond.classLink own idx C).before args s = true) (hinst : (Cond.instantiable C N).before args s = true) (hini : (Cond.initialized C).before args s = true) (hfs : ∀ j, j < N → defaultValue (ty0 j) = vp_V fv j) (hSR : ∀ ws, ai_SR b0 rho ws fs fv) (hN : fs.length = N)
    (hdg : decode cc pc = .ok (.new idx, 3)) (hn : npc = pc + 3) (hK : ai_KS p l e R s m args below meth c nL b0 rho tc dC dI base ws0 kE sE mk0 ms0 os0 Q K) (h : ai_o_new ci fs npc call K loc st g = some r) : ai_At p l e R s m args below meth c nL b0 rho tc dC dI base ws0 kE sE mk0 ms0 os0 Q pc loc st g r := by
  subst hn
  subst hN
  refine so_mk hRc hRs (fun {H locs cells slots ls vs ws} hP hD hS hE f2 hc1 hc2 => ⟨.inr (ci, fv), vs, f2, fun ws' _ => Or.inl ⟨rfl, fv, rfl, hSR ws'⟩, fun k => ?_⟩) hK h
  exact va_new (T := T) (ci := ci) (fs := fv) hx hb hts hin ty0 hty hown hcw hinst hini hV hP hD hS (fun q hq => Nat.le_trans hbs hq) hcl hfs hc1 hc2 hdg k
theorem so_newa (hx : p.tables.exec = Jvm.exec) (hb : c.code = cc) (hV : va_K (dC, dI) vwCl (ai_tys tc) s) (hbs : base ≤ s.heap.size) (hRc : mk0 ≤ kE + R.cells) (hRs : ms0 ≤ sE + R.slots)
    {t : Nat} {dv : ai_V} {ty : FieldType} {a0 : Nat → vp_A} (hty : (ai_tys tc)[t - 1]? = some (tc t, ty)) (ha : ∀ (n : Nat) (cA : ClassId), vp_cell cA (a0 n) = arrV cA n (fun _ => defaultValue ty)) (hcb : componentBytes ty ≤ 8)
    (hRC : ∀ (ws : va_W) (n : Nat), n < 2 ^ 31 → ai_RC b0 rho tc ws (t, n, [dv], []) (.inl (tc t, a0 n)))
    {atype : ArrayType} (hat : newarray.typeOf atype = ty) (harr : (Cond.arrayClass ty).before args s = true)
    (hdg : decode cc pc = .ok (.newarray atype, 2)) (hn : npc = pc + 2) (hK : ai_KS p l e R s m args below meth c nL b0 rho tc dC dI base ws0 kE sE mk0 ms0 os0 Q K) (h : ai_o_newa t dv npc call K loc st g = some r) : ai_At p l e R s m args below meth c nL b0 rho tc dC dI base ws0 kE sE mk0 ms0 os0 Q pc loc st g r := by
  subst hn
  unfold ai_o_newa at h
  cases st with
  | nil => cases h
  | cons n st =>
    simp only at h
    cases ho : ai_one (ai_x g) n with
    | none => rw [ho] at h; cases h
    | some a =>
      rw [ho] at h
      simp only at h
      cases hcd : (ai_ile 0 a && ai_ile a 1000000) with
      | false => rw [hcd] at h; cases h
      | true =>
        rw [hcd] at h
        simp only [cond_true] at h
        rw [Bool.and_eq_true, ai_ile_iff, ai_ile_iff] at hcd
        refine so_mk hRc hRs (fun {H locs cells slots ls vs ws} hP hD hS hE f2 hc1 hc2 => ?_) hK h
        obtain ⟨w1, rest, rfl, q1, q2⟩ := f2.cons
        obtain ⟨z, rfl, nz⟩ := q1.int (ai_one_none (rho := rho) ho)
        obtain ⟨ez, -⟩ := ai_one_ok hE nz ho
        have hz0 : ¬ z < 0 := by
          rw [Int32.lt_iff_toInt_lt]
          show ¬ z.toInt < 0
          omega
        have hzn : z.toNatClampNeg = a.toNat := by show z.toInt.toNat = _; rw [ez]
        refine ⟨.inl (tc t, a0 a.toNat), rest, q2, fun ws' _ => hRC ws' _ (by omega), fun k => ?_⟩
        have hmul : a.toNat * componentBytes ty ≤ a.toNat * 8 := Nat.mul_le_mul_left _ hcb
        refine va_newa (a0 := a0 a.toNat) hx hb (by rw [hat]; exact harr) hat hV hP hD hS (fun q hq => Nat.le_trans hbs hq) (ha a.toNat) hz0 hzn (by omega) hc1 hc2 hdg fun q cA H1 hV1 hP1 hD1 hS1 => ?_
        have e1 : va_RA s cA ty := (hV1.2 (ai_tys tc).length (cA, ty) (by rw [List.getElem?_append_right (Nat.le_refl _), Nat.sub_self]; rfl)).2
        have e2 : va_RA s (tc t) ty := (hV.2 (t - 1) _ hty).2
        have e3 := ai_RA1 e1 e2
        subst e3
        exact k q H1 hP1 hD1 hS1
theorem so_anew (hx : p.tables.exec = Jvm.exec) (hb : c.code = cc) (hown : s.vm.findClass own = some m.cls) (hV : va_K (dC, dI) vwCl (ai_tys tc) s) (hbs : base ≤ s.heap.size) (hRc : mk0 ≤ kE + R.cells) (hRs : ms0 ≤ sE + R.slots)
    {t idx : Nat} {C : String} (ht : t = 4 ∨ t = 5) (hty : (ai_tys tc)[t - 1]? = some (tc t, .object C)) (hcw : (Cond.classLink own idx C).before args s = true) (hover : va_AO C s)
    (hdg : decode cc pc = .ok (.anewarray idx, 3)) (hn : npc = pc + 3) (hK : ai_KS p l e R s m args below meth c nL b0 rho tc dC dI base ws0 kE sE mk0 ms0 os0 Q K) (h : ai_o_newa t ai_nul npc call K loc st g = some r) : ai_At p l e R s m args below meth c nL b0 rho tc dC dI base ws0 kE sE mk0 ms0 os0 Q pc loc st g r := by
  subst hn
  unfold ai_o_newa at h
  cases st with
  | nil => cases h
  | cons n st =>
    simp only at h
    cases ho : ai_one (ai_x g) n with
    | none => rw [ho] at h; cases h
    | some a =>
      rw [ho] at h
      simp only at h
      cases hcd : (ai_ile 0 a && ai_ile a 1000000) with
      | false => rw [hcd] at h; cases h
      | true =>
        rw [hcd] at h
        simp only [cond_true] at h
        rw [Bool.and_eq_true, ai_ile_iff, ai_ile_iff] at hcd
        refine so_mk hRc hRs (fun {H locs cells slots ls vs ws} hP hD hS hE f2 hc1 hc2 => ?_) hK h
        obtain ⟨w1, rest, rfl, q1, q2⟩ := f2.cons
        obtain ⟨z, rfl, nz⟩ := q1.int (ai_one_none (rho := rho) ho)
        obtain ⟨ez, -⟩ := ai_one_ok hE nz ho
        have hz0 : ¬ z < 0 := by
          rw [Int32.lt_iff_toInt_lt]
          show ¬ z.toInt < 0
          omega
        have hzn : z.toNatClampNeg = a.toNat := by show z.toInt.toNat = _; rw [ez]
        refine ⟨.inl (tc t, a.toNat, .inr (.inr (.inr (.inr (fun _ => none))))), rest, q2, fun ws' _ => Or.inr (Or.inr (Or.inr ⟨by show t = 4 ∨ t = 5 ∨ t = 6; omega, by show a.toNat < 2 ^ 31; omega, _, rfl, fun j _ => Or.inr (Or.inl ⟨rfl, rfl⟩)⟩)), fun k => ?_⟩
        refine va_newq hx hb hown hcw hover hV hP hD hS (fun q hq => Nat.le_trans hbs hq) hz0 hzn (by omega) hc1 hc2 hdg fun q cA H1 hV1 hP1 hD1 hS1 => ?_
        have e1 : va_RA s cA (.object C) := (hV1.2 (ai_tys tc).length (cA, .object C) (by rw [List.getElem?_append_right (Nat.le_refl _), Nat.sub_self]; rfl)).2
        have e2 : va_RA s (tc t) (.object C) := (hV.2 (t - 1) _ hty).2
        have e3 := ai_RA1 e1 e2
        subst e3
        exact k q H1 hP1 hD1 hS1
theorem so_copy (hx : p.tables.exec = Jvm.exec) (hb : c.code = cc) (hml : c.maxLocals = nL) (hown : s.vm.findClass own = some m.cls) (hV : va_K (dC, dI) vwCl (ai_tys tc) s)
    {idx : Nat} (hlink : (Cond.methodLink own idx arraycopyName).before args s = true) (hnat : (Cond.native arraycopyName).before args s = true) (hstat : (Cond.static arraycopyName).before args s = true) (hini : (Cond.initialized "java/lang/System").before args s = true)
    (hfr : 1 ≤ R.frames) (hlo : nativeFrameWords "java/lang/System" "arraycopy" 5 + 11 ≤ R.locals)
    (hdg : decode cc pc = .ok (.invokestatic idx, 3)) (hn : npc = pc + 3) (hK : ai_KS p l e R s m args below meth c nL b0 rho tc dC dI base ws0 kE sE mk0 ms0 os0 Q K) (h : ai_o_copy npc call K loc st g = some r) : ai_At p l e R s m args below meth c nL b0 rho tc dC dI base ws0 kE sE mk0 ms0 os0 Q pc loc st g r := by
  subst hn
  unfold ai_o_copy at h
  match st, h with
  | [], h => cases h
  | [_], h => cases h
  | [_, _], h => cases h
  | [_, _, _], h => cases h
  | [_, _, _, _], h => cases h
  | _ :: _ :: _ :: _ :: _ :: _ :: _, h => cases h
  | [n, dp, d, sp, s0], h =>
    simp only at h
    cases hc1 : ai_cell g s0 with
    | none => rw [hc1] at h; cases h
    | some q =>
      obtain ⟨i, t1, ns, ds, us⟩ := q
      rw [hc1] at h
      simp only at h
      cases hc2 : ai_cell g d with
      | none => rw [hc2] at h; cases h
      | some q =>
        obtain ⟨j, t2, nd, dd, vs⟩ := q
        rw [hc2] at h
        simp only at h
        cases h1 : ai_one (ai_x g) n with
        | none => rw [h1] at h; cases h
        | some n' =>
          rw [h1] at h
          simp only at h
          cases h2 : ai_one (ai_x g) dp with
          | none => rw [h2] at h; cases h
          | some dp' =>
            rw [h2] at h
            simp only at h
            cases h3 : ai_one (ai_x g) sp with
            | none => rw [h3] at h; cases h
            | some sp' =>
              rw [h3] at h
              simp only at h
              cases hcd : (Nat.beq t1 1 && Nat.beq t2 1 && ai_ile 0 n' && ai_ile 0 dp' && ai_ile 0 sp' && Nat.ble (Nat.add sp'.toNat n'.toNat) ns && Nat.ble (Nat.add dp'.toNat n'.toNat) nd && !(Nat.beq i j)) with
              | false => rw [hcd] at h; cases h
              | true =>
                rw [hcd] at h
                simp only [cond_true] at h
                simp only [Bool.and_eq_true, ai_ile_iff] at hcd
                obtain ⟨⟨⟨⟨⟨⟨⟨b1, b2⟩, b3⟩, b4⟩, b5⟩, b6⟩, b7⟩, -⟩ := hcd
                have e1 : t1 = 1 := Nat.eq_of_beq_eq_true b1
                have e2 : t2 = 1 := Nat.eq_of_beq_eq_true b2
                have b6 : sp'.toNat + n'.toNat ≤ ns := Nat.le_of_ble_eq_true b6
                have b7 : dp'.toNat + n'.toNat ≤ nd := Nat.le_of_ble_eq_true b7
                subst e1; subst e2
                refine ai_At.step (hK _ _ _ _ _ h) ⟨Nat.le_refl _, Nat.le_refl _⟩ fun H locs cells slots ls vs0 ws ⟨f0, f1, f2, f3, f4, f5, f6, f7, f8⟩ _ _ kk => ?_
                obtain ⟨w1, rest, rfl, q1, p1⟩ := f2.cons
                obtain ⟨w2, rest, rfl, q2, p2⟩ := p1.cons
                obtain ⟨w3, rest, rfl, q3, p3⟩ := p2.cons
                obtain ⟨w4, rest, rfl, q4, p4⟩ := p3.cons
                obtain ⟨w5, rest, rfl, q5, p5⟩ := p4.cons
                obtain ⟨zn, rfl, nn⟩ := q1.int (ai_one_none (rho := rho) h1)
                obtain ⟨zd, rfl, nd2⟩ := q2.int (ai_one_none (rho := rho) h2)
                obtain ⟨zs, rfl, ns2⟩ := q4.int (ai_one_none (rho := rho) h3)
                obtain ⟨en, -⟩ := ai_one_ok f7 nn h1
                obtain ⟨ed, -⟩ := ai_one_ok f7 nd2 h2
                obtain ⟨es, -⟩ := ai_one_ok f7 ns2 h3
                obtain ⟨a, e0, rfl, hwi, -, -, hRC1⟩ := ai_cell_ok f3 hc1 q5
                obtain ⟨a2, e3, rfl, hwj, -, -, hRC2⟩ := ai_cell_ok f3 hc2 q3
                obtain ⟨hl1, f, rfl, hf⟩ := hRC1.ints (Or.inl rfl)
                obtain ⟨hl2, f', rfl, hf'⟩ := hRC2.ints (Or.inl rfl)
                have cn : zn.toNatClampNeg = n'.toNat := by show zn.toInt.toNat = _; rw [en]
                have cd : zd.toNatClampNeg = dp'.toNat := by show zd.toInt.toNat = _; rw [ed]
                have cs : zs.toNatClampNeg = sp'.toNat := by show zs.toInt.toNat = _; rw [es]
                have z0 : ∀ {z : Int32} {k : Int}, z.toInt = k → 0 ≤ k → ¬ z < 0 := fun {z k} h1 h2 => by
                  rw [Int32.lt_iff_toInt_lt]
                  show ¬ z.toInt < 0
                  omega
                refine va_copyi (f := f) (g := f') hx hb (by rw [hml, f1.sz]) hown hlink hnat hstat hini hV f4 f5 f6 i j 0 0 hwi hwj rfl rfl rfl (z0 es b5) (z0 ed b4) (z0 en b3) (by rw [cs, cn]; exact b6) (by rw [cd, cn]; exact b7) (fun _ _ => rfl) hfr (by rw [p5.nil]; simpa using hlo) hdg fun H1 locs1 hP1 hD1 hS1 => ?_
                rw [cs, cd, cn] at hP1 hD1
                have hA := ai_AD.set (e := .inl (tc 1, nd, .inl (va_cpy f f' sp'.toNat dp'.toNat n'.toNat))) hwj
                refine kk H1 locs1 cells slots ls rest _ ⟨f0.tr hA, f1.mono hA, p5.mono hA, f3.put hwj (Or.inr (Or.inl ⟨Or.inl rfl, hl2, _, rfl, fun k hk => ?_⟩)), hP1, hD1, hS1, f7, f8⟩
                show ai_Rv b0 rho _ (ai_lk (ai_cp us vs (ai_nth ai_un ds 0) sp'.toNat dp'.toNat n'.toNat) (ai_nth ai_un dd 0) k) _
                have key : ∀ (mm : Nat), ai_lk ((List.range' 0 mm).map (fun i => (Nat.add dp'.toNat i, ai_lk us (ai_nth ai_un ds 0) (Nat.add sp'.toNat i))) ++ vs) (ai_nth ai_un dd 0) k = if dp'.toNat ≤ k ∧ k < dp'.toNat + mm then ai_lk us (ai_nth ai_un ds 0) (sp'.toNat + (k - dp'.toNat)) else ai_lk vs (ai_nth ai_un dd 0) k := by
                  have gen : ∀ (mm b1 : Nat), ai_lk ((List.range' b1 mm).map (fun i => (Nat.add dp'.toNat i, ai_lk us (ai_nth ai_un ds 0) (Nat.add sp'.toNat i))) ++ vs) (ai_nth ai_un dd 0) k = if dp'.toNat + b1 ≤ k ∧ k < dp'.toNat + b1 + mm then ai_lk us (ai_nth ai_un ds 0) (sp'.toNat + (k - dp'.toNat)) else ai_lk vs (ai_nth ai_un dd 0) k := by
                    intro mm
                    induction mm with
                    | zero =>
                      intro b1
                      rw [if_neg (by omega)]
                      rfl
                    | succ mm ih =>
                      intro b1
                      rw [List.range'_succ, List.map_cons, List.cons_append, ai_lk_cons]
                      by_cases hk1 : dp'.toNat + b1 = k
                      · rw [if_pos (show (Nat.add dp'.toNat b1, _).1 = k from hk1), if_pos (by omega)]
                        show ai_lk us _ (sp'.toNat + b1) = _
                        rw [show sp'.toNat + b1 = sp'.toNat + (k - dp'.toNat) by omega]
                      · rw [if_neg (show ¬ (Nat.add dp'.toNat b1, _).1 = k from hk1), ih (b1 + 1)]
                        by_cases hk2 : dp'.toNat + (b1 + 1) ≤ k ∧ k < dp'.toNat + (b1 + 1) + mm
                        · rw [if_pos hk2, if_pos (by omega)]
                        · rw [if_neg hk2, if_neg (by omega)]
                  intro mm
                  have := gen mm 0
                  simpa using this
                unfold ai_cp
                rw [List.range_eq_range', key]
                by_cases hin : dp'.toNat ≤ k ∧ k < dp'.toNat + n'.toNat
                · rw [if_pos hin, pk_cpy_in hin.1 hin.2]
                  exact (hf _ (by show _ < ns; omega)).mono hA
                · rw [if_neg hin, pk_cpy_out (by omega)]
                  exact (hf' k hk).mono hA
theorem ai_rows_get (k b : Nat) (h : ai_H) : ∀ (n : Nat), b + n ≤ 128 → ∀ j, j < 128 → ai_get 7 (ai_rows n k h b) j = if b ≤ j ∧ j < b + n then (1, k, [ai_i 0], []) else ai_get 7 h j
  | 0, _, j, _ => by rw [if_neg (by omega)]; rfl
  | n + 1, hb, j, hj => by
    show ai_get 7 (ai_set 7 (ai_rows n k h b) (b + n) (1, k, [ai_i 0], [])) j = _
    rw [ai_get_set 7 _ _ _ _ (by show _ < 128; omega) (by show _ < 128; omega), ai_rows_get k b h n (by omega) j hj]
    by_cases h1 : j = b + n
    · rw [if_pos h1, if_pos (by omega)]
    · rw [if_neg h1]
      by_cases h2 : b ≤ j ∧ j < b + n
      · rw [if_pos h2, if_pos (by omega)]
      · rw [if_neg h2, if_neg (by omega)]
theorem ai_lk_rng (f : Nat → ai_V) (dv : ai_V) (j : Nat) : ∀ (n b : Nat), ai_lk ((List.range' b n).map (fun i => (i, f i))) dv j = if b ≤ j ∧ j < b + n then f j else dv
  | 0, b => by rw [if_neg (by omega)]; rfl
  | n + 1, b => by
    rw [List.range'_succ, List.map_cons, ai_lk_cons, ai_lk_rng f dv j n (b + 1)]
    by_cases h1 : b = j
    · subst h1; rw [if_pos rfl, if_pos (by omega)]
    · rw [if_neg h1]
      by_cases h2 : b + 1 ≤ j ∧ j < b + 1 + n
      · rw [if_pos h2, if_pos (by omega)]
      · rw [if_neg h2, if_neg (by omega)]
theorem so_mna (hx : p.tables.exec = Jvm.exec) (hb : c.code = cc) (hown : s.vm.findClass own = some m.cls) (hV : va_K (dC, dI) vwCl (ai_tys tc) s) (hbs : base ≤ s.heap.size) (hRc : mk0 ≤ kE + R.cells) (hRs : ms0 ≤ sE + R.slots)
    {idx : Nat} (hcw : (Cond.classLink own idx ("[" ++ (FieldType.array .int).toString)).before args s = true) (hover : va_AOA .int s) (harr : (Cond.arrayClass .int).before args s = true)
    (hdg : decode cc pc = .ok (.multianewarray idx 2, 4)) (hn : npc = pc + 4) (hK : ai_KS p l e R s m args below meth c nL b0 rho tc dC dI base ws0 kE sE mk0 ms0 os0 Q K) (h : ai_o_mna npc call K loc st g = some r) : ai_At p l e R s m args below meth c nL b0 rho tc dC dI base ws0 kE sE mk0 ms0 os0 Q pc loc st g r := by
  subst hn
  unfold ai_o_mna at h
  cases st with
  | nil => cases h
  | cons k st =>
    cases st with
    | nil => cases h
    | cons n st =>
      simp only at h
      cases h1 : ai_one (ai_x g) n with
      | none => rw [h1] at h; cases h
      | some a =>
        rw [h1] at h
        simp only at h
        cases h2 : ai_one (ai_x g) k with
        | none => rw [h2] at h; cases h
        | some b =>
          rw [h2] at h
          simp only at h
          cases hcd : (ai_ile 0 a && ai_ile a 100 && ai_ile 0 b && ai_ile b 100 && Nat.ble (Nat.add (Nat.succ (ai_nx g)) a.toNat) 128) with
          | false => rw [hcd] at h; cases h
          | true =>
            rw [hcd] at h
            simp only [cond_true] at h
            simp only [Bool.and_eq_true, ai_ile_iff] at hcd
            obtain ⟨⟨⟨⟨b1, b2⟩, b3⟩, b4⟩, b5⟩ := hcd
            have b5 : ai_nx g + 1 + a.toNat ≤ 128 := Nat.le_of_ble_eq_true b5
            have hA := hK _ _ _ _ _ h
            have m1 : ai_kc g + 1 + a.toNat ≤ r.2.1 := hA.1.1
            have m2 : ai_ks g + a.toNat + a.toNat * b.toNat ≤ r.2.2 := hA.1.2
            refine ai_At.step hA ⟨by show ai_kc g ≤ ai_kc g + 1 + a.toNat; omega, by show ai_ks g ≤ ai_ks g + a.toNat + a.toNat * b.toNat; omega⟩ fun H locs cells slots ls vs ws ⟨f0, f1, f2, f3, f4, f5, f6, f7, f8, f9⟩ hr1 hr2 kk => ?_
            obtain ⟨w1, rest, rfl, q1, q2⟩ := f2.cons
            obtain ⟨w2, rest, rfl, q3, q4⟩ := q2.cons
            obtain ⟨zk, rfl, nk⟩ := q1.int (ai_one_none (rho := rho) h2)
            obtain ⟨zn, rfl, nn⟩ := q3.int (ai_one_none (rho := rho) h1)
            obtain ⟨en, -⟩ := ai_one_ok f7 nn h1
            obtain ⟨ek, -⟩ := ai_one_ok f7 nk h2
            have cn : zn.toNatClampNeg = a.toNat := by show zn.toInt.toNat = _; rw [en]
            have ck : zk.toNatClampNeg = b.toNat := by show zk.toInt.toNat = _; rw [ek]
            have z0 : ∀ {z : Int32} {k : Int}, z.toInt = k → 0 ≤ k → ¬ z < 0 := fun {z k} h1 h2 => by
              rw [Int32.lt_iff_toInt_lt]
              show ¬ z.toInt < 0
              omega
            have hcy : s.vm.findClass (FieldType.array .int).toString = some (tc 1) := (hV.2 0 _ rfl).2
            refine va_mna (X := ws) (L := []) (f := fun _ => .inr (0, [])) (z := (b.toNat, .inl (fun _ => 0))) hx hb hown hcw hover harr hcy hV (by simpa [va_pl] using f4) (by simpa [va_pl] using f5) f6 (fun q hq => Nat.le_trans hbs hq) (z0 en b1) (z0 ek b3) cn ck (by omega) (by show b.toNat * 4 ≤ _; omega) (by omega) rfl rfl (by omega) (by omega)
              (fun c9 => by show ({ cls := c9, slots := Array.replicate b.toNat (.int 0), vm := .none } : Cell) = _; rw [arrV_new]; rfl) hdg ?_
            intro q rr cA H1 hinj hnl hV1 hP1 hD1 hS1
            have e1 : va_RA s cA (.array .int) := (hV1.2 (ai_tys tc).length (cA, .array .int) (by rw [List.getElem?_append_right (Nat.le_refl _), Nat.sub_self]; rfl)).2
            have e2 : va_RA s (tc 6) (.array .int) := (hV.2 5 _ rfl).2
            have e3 := ai_RA1 e1 e2
            subst e3
            have epl : va_pl ([] ++ (List.range a.toNat).map rr) (vr_up (fun _ => .inr (0, [])) ((List.range a.toNat).map rr) (.inl (tc 1, b.toNat, .inl (fun _ => 0)))) = (List.range a.toNat).map (fun i => ((rr i, .inl (tc 1, b.toNat, .inl (fun _ => 0))) : Nat × va_E)) := by
              unfold va_pl
              rw [List.nil_append, List.map_map]
              apply List.map_congr_left
              intro i hi
              show (rr i, vr_up _ _ _ (rr i)) = _
              rw [vr_up_in (List.mem_map.mpr ⟨i, hi, rfl⟩)]
            rw [epl] at hP1 hD1
            generalize hW2 : (ws ++ [(q, .inl (tc 6, a.toNat, .inr (.inr (.inr (.inr (fun i => if i < a.toNat then some (rr i) else none))))))]) ++ (List.range a.toNat).map (fun i => ((rr i, .inl (tc 1, b.toNat, .inl (fun _ => 0))) : Nat × va_E)) = ws2 at hP1 hD1
            have hwl : ws.length = ai_nx g := f3.1
            have g0 : ∀ i, i < ai_nx g → ws2[i]? = ws[i]? := fun i hi => by
              rw [← hW2, List.append_assoc, List.getElem?_append_left (by omega)]
            have g1 : ws2[ai_nx g]? = some (q, .inl (tc 6, a.toNat, .inr (.inr (.inr (.inr (fun i => if i < a.toNat then some (rr i) else none)))))) := by
              rw [← hW2, List.append_assoc, List.getElem?_append_right (by omega), hwl, Nat.sub_self]
              rfl
            have g2 : ∀ i, i < a.toNat → ws2[ai_nx g + 1 + i]? = some (rr i, .inl (tc 1, b.toNat, .inl (fun _ => 0))) := fun i hi => by
              rw [← hW2, List.getElem?_append_right (by rw [List.length_append, hwl]; show ai_nx g + 1 ≤ _; omega), List.length_append, hwl]
              rw [show ai_nx g + 1 + i - (ai_nx g + [((q, .inl (tc 6, a.toNat, .inr (.inr (.inr (.inr (fun i => if i < a.toNat then some (rr i) else none)))))) : Nat × va_E)].length) = i by show ai_nx g + 1 + i - (ai_nx g + 1) = i; omega]
              rw [List.getElem?_map, List.getElem?_range hi]
              rfl
            have gl : ws2.length = ai_nx g + 1 + a.toNat := by
              rw [← hW2, List.length_append, List.length_append, List.length_map, List.length_range, hwl]
              rfl
            have hAD : ai_AD ws ws2 := fun i x e hi => ⟨e, by rw [g0 i (by rw [← hwl]; exact (List.getElem?_eq_some_iff.mp hi).1)]; exact hi⟩
            refine kk H1 locs (cells + 1 + a.toNat) (slots + a.toNat + a.toNat * b.toNat) ls (.ref q :: rest) ws2 ⟨f0.tr hAD, f1.mono hAD, ⟨Or.inr (Or.inr (Or.inl ⟨rfl, q, _, g1, rfl⟩)), q4.mono hAD⟩, ⟨gl, b5, fun i hi => ?_⟩, hP1, hD1, hS1, f7, ?_, ?_⟩
            · show ∃ a1 e1, ws2[i]? = some (a1, e1) ∧ ai_RC b0 rho tc ws2 (ai_get 7 (ai_rows a.toNat b.toNat (ai_set 7 g.1 (ai_nx g) _) (ai_nx g + 1)) i) e1
              have hi : i < ai_nx g + 1 + a.toNat := hi
              rw [ai_rows_get _ _ _ _ (by omega) i (by omega)]
              by_cases h3 : ai_nx g + 1 ≤ i ∧ i < ai_nx g + 1 + a.toNat
              · rw [if_pos h3]
                refine ⟨rr (i - (ai_nx g + 1)), .inl (tc 1, b.toNat, .inl (fun _ => 0)), ?_, Or.inr (Or.inl ⟨Or.inl rfl, by show b.toNat < 2 ^ 31; omega, (fun _ => 0), rfl, fun j _ => ai_Rv.mkI (ai_num_i (z := 0) (by decide))⟩)⟩
                have := g2 (i - (ai_nx g + 1)) (by omega)
                rw [show ai_nx g + 1 + (i - (ai_nx g + 1)) = i by omega] at this
                exact this
              · rw [if_neg h3, ai_get_set 7 _ _ _ _ (by show _ < 128; omega) (by show _ < 128; omega)]
                by_cases h4 : i = ai_nx g
                · rw [if_pos h4, h4]
                  refine ⟨q, _, g1, Or.inr (Or.inr (Or.inr ⟨Or.inr (Or.inr rfl), by show a.toNat < 2 ^ 31; omega, _, rfl, fun j hj => ?_⟩))⟩
                  have hj : j < a.toNat := hj
                  show ai_Rv b0 rho ws2 (ai_lk ((List.range a.toNat).map (fun i => (i, (3, .ofNat (Nat.add (Nat.succ (ai_nx g)) i), 0)))) _ j) _
                  rw [List.range_eq_range', ai_lk_rng (fun i => (3, .ofNat (Nat.add (Nat.succ (ai_nx g)) i), 0)) _ j, if_pos (by omega), if_pos hj]
                  exact Or.inr (Or.inr (Or.inl ⟨rfl, rr j, _, g2 j hj, rfl⟩))
                · rw [if_neg h4]
                  obtain ⟨a1, e1, k1, k2⟩ := f3.2.2 i (by omega)
                  exact ⟨a1, e1, by rw [g0 i (by omega)]; exact k1, k2.mono hAD⟩
            · show kE + (cells + 1 + a.toNat) = ai_kc g + 1 + a.toNat; omega
            · show sE + (slots + a.toNat + a.toNat * b.toNat) = ai_ks g + a.toNat + a.toNat * b.toNat; omega
end NEW
end
section
/-! ===== ends, throws, calls ===== -/
def ai_exc (k : Nat) : String := if k = 2 then "java/util/NoSuchElementException" else "java/lang/IllegalArgumentException"
/-- the world behind an outcome q of a method that began with the cells ws0 -/
def ai_Ed (b0 : Nat) (rho : Nat → Int32) (tc dC : Nat → ClassId) (dI : Nat → Nat → Nat) (base : Nat) (ws0 : va_W) (q : ai_O) (st t : State) (ws : va_W) : Prop :=
  ai_AD ws0 ws ∧ ai_WR b0 rho tc ws q.2.2.1 (ai_nx q.2.2) ∧ va_P (dC, dI) vwCl ws t.heap ∧ va_D (ai_A base) ws ∧ ai_EV rho (ai_x q.2.2) ∧ va_F (ai_A base) st t
def ai_Qc (b0 : Nat) (rho : Nat → Int32) (tc dC : Nat → ClassId) (dI : Nat → Nat → Nat) (base : Nat) (ws0 : va_W) (os0 : List ai_O) : Array Value → State → Outcome → State → Prop := fun _ st o t =>
  ∃ q ∈ os0, ∃ ws, ai_Ed b0 rho tc dC dI base ws0 q st t ws ∧ ((q.1 = 0 ∧ o = .returned none) ∨ (q.1 = 1 ∧ ∃ w, o = .returned (some w) ∧ ai_Rv b0 rho ws q.2.1 w))
def ai_XC (b0 : Nat) (rho : Nat → Int32) (tc dC : Nat → ClassId) (dI : Nat → Nat → Nat) (base : Nat) (ws0 : va_W) (os0 : List ai_O) : String → State → State → Prop := fun E st t =>
  ∃ q ∈ os0, ∃ ws, ai_Ed b0 rho tc dC dI base ws0 q st t ws ∧ (q.1 = 2 ∨ q.1 = 3) ∧ E = ai_exc q.1
theorem ai_met {l : Launch} {y : MethodName} {ws : List Cond} {rm : Room} {Pc : Array Value → State → Prop} {Qc : Array Value → State → Outcome → State → Prop} {XC : String → State → State → Prop} {mc ms : Nat} {free : Addr → Prop} (h : vx_Met l y ws rm Pc Qc XC mc ms free) (hX : ∀ E st t, ¬ XC E st t) : Met l y ws rm Pc Qc mc ms free := by
  intro p e ha hc hk s m args below hf happ hP hK
  obtain ⟨n, o, h1, h2, h3, hQ⟩ := h p e ha hc hk s m args below hf happ hP hK
  refine ⟨n, o, h1, h2, h3, ?_⟩
  rcases hQ with hQ | ⟨q, -, E, ce, L, hx, -⟩
  · exact hQ
  · exact absurd hx (hX _ _ _)
theorem ai_run_x {p : Program} {l : Launch} {e : Env} {R : Room} {s : State} {m : MethodId} {args : Array Value} {below : List Frame} {meth : Method} {c : Code} {H : Heap} {locs : List Loc} {cells slots mc ms : Nat} {g : JFrame} {rest : List Value} {Qa : State → Outcome → State → Prop} {XC : String → State → State → Prop} {free : Addr → Prop}
    (h : va_Run p l e R s m args below meth c H locs cells slots mc ms g rest Qa free) : vx_Run p l e R s m args below meth c H locs cells slots mc ms g rest Qa XC free := fun T hT X => Or.inl (h T hT X)
section CALL
variable {p : Program} {l : Launch} {e : Env} {R : Room} {s : State} {m : MethodId} {args : Array Value} {below : List Frame} {meth : Method} {c : Code} {nL b0 : Nat} {rho : Nat → Int32} {tc dC : Nat → ClassId} {dI : Nat → Nat → Nat} {base : Nat} {ws0 : va_W} {kE sE mk0 ms0 : Nat} {os0 : List ai_O} {Q : State → Prop}
variable {cc : ByteArray} {own : String} {Ts : List Cond} {call : ai_K} {K : ai_K4} {pc npc : Nat} {loc st : List ai_V} {g : ai_G} {r : ai_R}
/-- what is owed at the end -/
theorem ai_fin {k : Nat} {v : ai_V} {H : Heap} {locs : List Loc} {cells slots : Nat} {ls : Array Slot} {vs : List Value} {ws : va_W} (hin : (k, v, g) ∈ os0) (hF : ai_Fr s nL b0 rho tc dC dI base ws0 kE sE loc st g H locs cells slots ls vs ws) {t : State} (ht : t.heap = H) :
    ai_Ed b0 rho tc dC dI base ws0 (k, v, g) s t ws := by
  obtain ⟨f0, f1, f2, f3, f4, f5, f6, f7, f8⟩ := hF
  exact ⟨f0, f3, by rw [ht]; exact f4, f5, f7, f6.F ht⟩
theorem so_ret {k : Nat} {v : ai_V} {vs1 : List Value} (hmk : mk0 ≤ kE + (mk0 - kE)) (hQ : Q = vx_MQ below (ai_Qc b0 rho tc dC dI base ws0 os0) (ai_XC b0 rho tc dC dI base ws0 os0) args s (mk0 - kE) (ms0 - sE) (ai_A base))
    (hrow : ∀ {H : Heap} {locs : List Loc} {cells slots : Nat} {ls : Array Slot} {vs : List Value} {ws : va_W}, ai_Fr s nL b0 rho tc dC dI base ws0 kE sE loc st g H locs cells slots ls vs ws →
      ∃ o : Outcome, ((k = 0 ∧ o = .returned none) ∨ (k = 1 ∧ ∃ w, o = .returned (some w) ∧ ai_Rv b0 rho ws v w)) ∧ ∀ {Qc : Array Value → State → Outcome → State → Prop} {cells2 slots2 : Nat}, (∀ t : State, t.heap = H → s.WarmedH t.vm → Qc args s o t) → (∀ q ∈ locs, (ai_A base) q.base) → W p l e R s m args below meth c H locs cells2 slots2 (MQ below Qc args s cells2 slots2 (ai_A base)) (F0 m pc ls vs))
    (h : ai_end k v g = some r) : ai_At p l e R s m args below meth c nL b0 rho tc dC dI base ws0 kE sE mk0 ms0 os0 Q pc loc st g r := by
  cases h
  refine ⟨⟨Nat.le_refl _, Nat.le_refl _⟩, fun h1 h2 h3 H locs cells slots ls vs ws hF => ?_⟩
  obtain ⟨o, ho, hgo⟩ := hrow hF
  have hF2 := hF
  obtain ⟨f0, f1, f2, f3, f4, f5, f6, f7, f8, f9⟩ := hF
  have h2 : ai_kc g ≤ mk0 := h2
  have h3 : ai_ks g ≤ ms0 := h3
  rw [hQ]
  refine W.widen (k := mk0 - kE) (n := ms0 - sE) (by omega) (by omega) (vx_ret (hgo (fun t ht hW => ?_) f6.2.2))
  exact ⟨(k, v, g), h1 _ (List.mem_singleton.mpr rfl), ws, ai_fin (h1 _ (List.mem_singleton.mpr rfl)) hF2 ht, ho⟩
theorem so_vret (hx : p.tables.exec = Jvm.exec) (hb : c.code = cc) (hlocks : meth.locks = false) (hr : meth.sig.returnType = none) (hQ : Q = vx_MQ below (ai_Qc b0 rho tc dC dI base ws0 os0) (ai_XC b0 rho tc dC dI base ws0 os0) args s (mk0 - kE) (ms0 - sE) (ai_A base))
    (hdg : decode cc pc = .ok (.return_, 1)) (h : ai_o_vret call K loc st g = some r) : ai_At p l e R s m args below meth c nL b0 rho tc dC dI base ws0 kE sE mk0 ms0 os0 Q pc loc st g r := by
  unfold ai_o_vret at h
  cases st with
  | cons v st => cases h
  | nil =>
    refine so_ret (vs1 := []) (by omega) hQ (fun {H locs cells slots ls vs ws} hF => ⟨.returned none, Or.inl ⟨rfl, rfl⟩, fun {Qc c2 s2} hq hf => ?_⟩) h
    rw [hF.2.2.1.nil]
    exact W.vret hx hb hr hq hf hdg hlocks
theorem so_iret (hx : p.tables.exec = Jvm.exec) (hb : c.code = cc) (hlocks : meth.locks = false) (hr : meth.sig.returnType = some .int) (hQ : Q = vx_MQ below (ai_Qc b0 rho tc dC dI base ws0 os0) (ai_XC b0 rho tc dC dI base ws0 os0) args s (mk0 - kE) (ms0 - sE) (ai_A base))
    (hdg : decode cc pc = .ok (.ireturn, 1)) (h : ai_o_iret call K loc st g = some r) : ai_At p l e R s m args below meth c nL b0 rho tc dC dI base ws0 kE sE mk0 ms0 os0 Q pc loc st g r := by
  unfold ai_o_iret at h
  match st, h with
  | [], h => cases h
  | _ :: _ :: _, h => cases h
  | [v], h =>
    simp only at h
    cases hb2 : ai_isn v with
    | false => rw [hb2] at h; cases h
    | true =>
      rw [hb2] at h
      refine so_ret (vs1 := []) (by omega) hQ (fun {H locs cells slots ls vs ws} hF => ?_) h
      obtain ⟨w1, rest, rfl, q1, q2⟩ := hF.2.2.1.cons
      obtain ⟨z, rfl, nz⟩ := q1.int ((ai_isn_iff v).mp hb2)
      refine ⟨.returned (some (.int z)), Or.inr ⟨rfl, _, rfl, q1⟩, fun {Qc c2 s2} hq hf => ?_⟩
      rw [q2.nil]
      exact W.iret hx hb hr hq hf hdg hlocks
theorem so_zret (hx : p.tables.exec = Jvm.exec) (hb : c.code = cc) (hlocks : meth.locks = false) (hr : meth.sig.returnType = some .boolean) (hQ : Q = vx_MQ below (ai_Qc b0 rho tc dC dI base ws0 os0) (ai_XC b0 rho tc dC dI base ws0 os0) args s (mk0 - kE) (ms0 - sE) (ai_A base))
    (hdg : decode cc pc = .ok (.ireturn, 1)) (h : ai_o_zret call K loc st g = some r) : ai_At p l e R s m args below meth c nL b0 rho tc dC dI base ws0 kE sE mk0 ms0 os0 Q pc loc st g r := by
  unfold ai_o_zret at h
  match st, h with
  | [], h => cases h
  | _ :: _ :: _, h => cases h
  | [v], h =>
    simp only at h
    cases hb2 : ai_fits 1 (ai_x g) v with
    | false => rw [hb2] at h; cases h
    | true =>
      rw [hb2] at h
      refine so_ret (vs1 := []) (by omega) hQ (fun {H locs cells slots ls vs ws} hF => ?_) h
      obtain ⟨w1, rest, rfl, q1, q2⟩ := hF.2.2.1.cons
      obtain ⟨t1, t2⟩ := ai_fits_bool hF.2.2.2.2.2.2.2.1 hb2
      obtain ⟨z, rfl, nz⟩ := q1.int t1
      refine ⟨.returned (some (.int z)), Or.inr ⟨rfl, _, rfl, q1⟩, fun {Qc c2 s2} hq hf => ?_⟩
      rw [q2.nil]
      exact W.zret (ty := .boolean) hx hb hr (by rcases t2 z nz with rfl | rfl <;> rfl) hq hf hdg hlocks
theorem so_aret (hx : p.tables.exec = Jvm.exec) (hb : c.code = cc) (hlocks : meth.locks = false) {rt : FieldType} (hr : meth.sig.returnType = some rt) (hrt : (∃ n, rt = .object n) ∨ ∃ t, rt = .array t) (hQ : Q = vx_MQ below (ai_Qc b0 rho tc dC dI base ws0 os0) (ai_XC b0 rho tc dC dI base ws0 os0) args s (mk0 - kE) (ms0 - sE) (ai_A base))
    (hdg : decode cc pc = .ok (.areturn, 1)) (h : ai_o_aret call K loc st g = some r) : ai_At p l e R s m args below meth c nL b0 rho tc dC dI base ws0 kE sE mk0 ms0 os0 Q pc loc st g r := by
  unfold ai_o_aret at h
  match st, h with
  | [], h => cases h
  | _ :: _ :: _, h => cases h
  | [v], h =>
    simp only at h
    cases hb2 : (Nat.beq (Prod.fst v) 2 || Nat.beq (Prod.fst v) 3) with
    | false => rw [hb2] at h; cases h
    | true =>
      rw [hb2] at h
      have h9 : v.1 = 2 ∨ v.1 = 3 := by
        rcases Bool.or_eq_true_iff.mp hb2 with q | q
        · exact Or.inl (Nat.eq_of_beq_eq_true q)
        · exact Or.inr (Nat.eq_of_beq_eq_true q)
      refine so_ret (vs1 := []) (by omega) hQ (fun {H locs cells slots ls vs ws} hF => ?_) h
      obtain ⟨w1, rest, rfl, q1, q2⟩ := hF.2.2.1.cons
      refine ⟨.returned (some w1), Or.inr ⟨rfl, _, rfl, q1⟩, fun {Qc c2 s2} hq hf => ?_⟩
      rw [q2.nil]
      exact W.aret hx hb hr hrt (q1.rn h9) hq hf hdg hlocks
/-- a throw of its own: what the row must give -/
theorem so_throw {k : Nat} (hk : k = 2 ∨ k = 3) (hRc : mk0 ≤ kE + R.cells) (hRs : ms0 ≤ sE + R.slots) (hQ : Q = vx_MQ below (ai_Qc b0 rho tc dC dI base ws0 os0) (ai_XC b0 rho tc dC dI base ws0 os0) args s (mk0 - kE) (ms0 - sE) (ai_A base))
    (hrow : ∀ {H : Heap} {locs : List Loc} {cells slots : Nat} {ls : Array Slot}, va_S (ai_A base) s.heap H locs → ls.size = nL → cells + 1 ≤ R.cells → slots + 6 ≤ R.slots →
      (∀ t : State, s.vm.Alike t.vm → H.size ≤ t.heap.size → (∀ q : Nat, q < H.size → t.heap[q]? = H[q]?) → ai_XC b0 rho tc dC dI base ws0 os0 (ai_exc k) s t) → (∀ z ∈ locs, (ai_A base) z.base) → cells + 1 ≤ mk0 - kE → slots + 6 ≤ ms0 - sE →
      W p l e R s m args below meth c H locs cells slots (vx_MQ below (ai_Qc b0 rho tc dC dI base ws0 os0) (ai_XC b0 rho tc dC dI base ws0 os0) args s (mk0 - kE) (ms0 - sE) (ai_A base)) (F0 m pc ls []))
    (h : ai_o_throw k call K loc st g = some r) : ai_At p l e R s m args below meth c nL b0 rho tc dC dI base ws0 kE sE mk0 ms0 os0 Q pc loc st g r := by
  unfold ai_o_throw at h
  cases st with
  | cons v st => cases h
  | nil =>
    cases h
    refine ⟨⟨Nat.le_succ _, Nat.le_add_right _ _⟩, fun h1 h2 h3 H locs cells slots ls vs ws hF => ?_⟩
    obtain ⟨f0, f1, f2, f3, f4, f5, f6, f7, f8, f9⟩ := hF
    have h2 : ai_kc g + 1 ≤ mk0 := h2
    have h3 : ai_ks g + 6 ≤ ms0 := h3
    rw [hQ, f2.nil]
    refine hrow f6 f1.sz (by omega) (by omega) (fun t hal hsz hkeep => ?_) f6.2.2 (by omega) (by omega)
    refine ⟨_, h1 _ (List.mem_singleton.mpr rfl), ws, ⟨f0, f3, f4.kept (fun i q hi => hkeep q.1 ((f4 i q hi).lt)), f5, f7, ?_⟩, hk, rfl⟩
    exact ⟨Nat.le_trans f6.1 hsz, fun q hq hA => by rw [hkeep q (Nat.lt_of_lt_of_le hq f6.1)]; exact f6.2.1 q hq hA⟩
/-- how this method meets a throw of kind k at pc: it leaves (h = 0), or goes on at h -/
def ai_Ct (p : Program) (l : Launch) (e : Env) (R : Room) (s : State) (m : MethodId) (args : Array Value) (below : List Frame) (meth : Method) (c : Code) (Q : State → Prop) (pc k h : Nat) : Prop :=
  (h = 0 ∧ ∀ x ∈ c.exceptionTable.toList, covers x pc = false) ∨ (h ≠ 0 ∧ ∀ {H : Heap} {locs : List Loc} {cells slots : Nat} {ls : Array Slot} {rest : List Value} {q : Addr} {ce : Cell}, H[q]? = some ce → ce.vm = .none → s.vm.findClass (ai_exc k) = some ce.cls → W p l e R s m args below meth c H locs cells slots Q (F0 m h ls [.ref q]) → vx_W p l e R s m args below meth c H locs cells slots Q (F0 m pc ls rest) q) ∨ h = 65535
theorem so_call (hlocks : meth.locks = false) {vk : Bool} {j n h2 h3 : Nat} (hn : npc = pc + 3) (hRc : mk0 ≤ kE + R.cells) (hRs : ms0 ≤ sE + R.slots) (hQ : Q = vx_MQ below (ai_Qc b0 rho tc dC dI base ws0 os0) (ai_XC b0 rho tc dC dI base ws0 os0) args s (mk0 - kE) (ms0 - sE) (ai_A base))
    (hrun : ∀ {H : Heap} {locs : List Loc} {cells slots : Nat} {ls : Array Slot} {vs : List Value} {ws : va_W} {os : List ai_O} {x1 x2 : Nat}, ai_Fr s nL b0 rho tc dC dI base ws0 kE sE loc st g H locs cells slots ls vs ws → call j (st.take n).reverse g = some (os, x1, x2) → n ≤ st.length → (vs.drop n).length ≤ 4 → (vk = true ∨ ∀ q ∈ os, q.1 ≤ 1) → cells + (x1 - ai_kc g) ≤ R.cells → slots + (x2 - ai_ks g) ≤ R.slots →
      ∃ a : Array Value, vx_Run p l e R s m args below meth c H locs cells slots (x1 - ai_kc g) (x2 - ai_ks g) (F0 m pc ls vs) (vs.drop n) (ai_Qc b0 rho tc dC dI base ws os a) (ai_XC b0 rho tc dC dI base ws os) (ai_A base))
    (hc2 : ai_Ct p l e R s m args below meth c Q pc 2 h2) (hc3 : ai_Ct p l e R s m args below meth c Q pc 3 h3)
    (hK5 : ∀ loc st g, K 65535 loc st g = none) (hK : ai_KS p l e R s m args below meth c nL b0 rho tc dC dI base ws0 kE sE mk0 ms0 os0 Q K) (h : ai_o_call vk j n h2 h3 npc call K loc st g = some r) : ai_At p l e R s m args below meth c nL b0 rho tc dC dI base ws0 kE sE mk0 ms0 os0 Q pc loc st g r := by
  unfold ai_o_call at h
  cases hcd : (Nat.ble n st.length && Nat.ble (st.drop n).length 4) with
  | false => rw [hcd] at h; cases h
  | true =>
    rw [hcd] at h
    simp only [cond_true] at h
    rw [Bool.and_eq_true] at hcd
    have hnl : n ≤ st.length := Nat.le_of_ble_eq_true hcd.1
    have hd4 : (st.drop n).length ≤ 4 := Nat.le_of_ble_eq_true hcd.2
    cases hcl : call j (st.take n).reverse g with
    | none => rw [hcl] at h; cases h
    | some q0 =>
      obtain ⟨os, x1, x2⟩ := q0
      rw [hcl] at h
      simp only at h
      cases hvk : ((vk || os.all (fun q => Nat.ble (Prod.fst q) 1)) && (Nat.ble (ai_kc g) x1 && Nat.ble (ai_ks g) x2)) with
      | false => rw [hvk] at h; cases h
      | true =>
        rw [hvk] at h
        simp only [cond_true] at h
        rw [Bool.and_eq_true, Bool.and_eq_true] at hvk
        obtain ⟨hvk, hm1, hm2⟩ := hvk
        have hm1 : ai_kc g ≤ x1 := Nat.le_of_ble_eq_true hm1
        have hm2 : ai_ks g ≤ x2 := Nat.le_of_ble_eq_true hm2
        have hvk2 : vk = true ∨ ∀ q ∈ os, q.1 ≤ 1 := by
          rcases Bool.or_eq_true_iff.mp hvk with q | q
          · exact Or.inl q
          · exact Or.inr (fun z hz => Nat.le_of_ble_eq_true (List.all_eq_true.mp q z hz))
        obtain ⟨hne, hall⟩ := ai_all_ok h
        -- every way on says how many cells there may be
        have hmono : ∀ q ∈ os, ∀ rq, ai_cont npc K loc (st.drop n) h2 h3 x1 x2 q = some rq → x1 ≤ rq.2.1 ∧ x2 ≤ rq.2.2 := by
          intro q hq rq hrq
          unfold ai_cont at hrq
          cases b0' : Nat.beq (Prod.fst q) 0 with
          | true => rw [b0'] at hrq; exact (hK _ _ _ _ _ hrq).1
          | false =>
            rw [b0'] at hrq
            simp only [cond_false] at hrq
            cases b1 : Nat.beq (Prod.fst q) 1 with
            | true => rw [b1] at hrq; exact (hK _ _ _ _ _ hrq).1
            | false =>
              rw [b1] at hrq
              simp only [cond_false] at hrq
              cases b2 : Nat.beq (Prod.fst q) 2 with
              | true =>
                rw [b2] at hrq
                simp only [cond_true] at hrq
                cases b4 : Nat.beq h2 0 with
                | true => rw [b4] at hrq; cases hrq; exact ⟨Nat.le_refl _, Nat.le_refl _⟩
                | false => rw [b4] at hrq; exact (hK _ _ _ _ _ hrq).1
              | false =>
                rw [b2] at hrq
                simp only [cond_false] at hrq
                cases b3 : Nat.beq (Prod.fst q) 3 with
                | true =>
                  rw [b3] at hrq
                  simp only [cond_true] at hrq
                  cases b4 : Nat.beq h3 0 with
                  | true => rw [b4] at hrq; cases hrq; exact ⟨Nat.le_refl _, Nat.le_refl _⟩
                  | false => rw [b4] at hrq; exact (hK _ _ _ _ _ hrq).1
                | false => rw [b3] at hrq; cases hrq
        have hx12 : x1 ≤ r.2.1 ∧ x2 ≤ r.2.2 := by
          cases os with
          | nil => exact absurd rfl hne
          | cons q l1 =>
            obtain ⟨rq, k1, -, k3, k4⟩ := hall q List.mem_cons_self
            have := hmono q List.mem_cons_self rq k1
            omega
        refine ⟨⟨by omega, by omega⟩, fun g1 g2 g3 H locs cells slots ls vs ws hF => ?_⟩
        have hF2 := hF
        obtain ⟨f0, f1, f2, f3, f4, f5, f6, f7, f8, f9⟩ := hF
        obtain ⟨av, hr⟩ := hrun hF2 hcl hnl (by rw [(f2.drop n).len]; exact hd4) hvk2 (by omega) (by omega)
        have hkeep := fun {st₀ t T' : State} {L : List Loc} (h0 : st₀.heap = H) (e1 : T'.heap = t.heap) (hL : ∀ z ∈ L, ai_A base z.base) (hF : va_F (ai_A base) st₀ t) => vx_keep (A1 := ai_A base) (free := ai_A base) h0 e1 f6 (fun q _ h => h) (fun q h => h) hL hF
        intro T hT X
        rcases hr T hT X with ⟨v, st₀, t, T', L, h0, X', hL, e1, e2, ⟨q, hq, ws1, ⟨d0, d1, d2, d3, d4, d5⟩, hout⟩, sto⟩ | ⟨qa, st₀, t, T', L, E, ce, h0, X', hL, e1, e2, ⟨q, hq, ws1, ⟨d0, d1, d2, d3, d4, d5⟩, hq23, hE⟩, hce, hcv, hcls, sto⟩
        · obtain ⟨rq, k1, k2, k3, k4⟩ := hall q hq
          obtain ⟨-, -, hS1⟩ := hkeep h0 e1 hL d5
          have kk : ∀ st1 vs1, K npc loc st1 (ai_gk (Prod.snd (Prod.snd q)) x1 x2) = some rq → ai_SR b0 rho ws1 st1 vs1 → W p l e R s m args below meth c T'.heap (locs ++ L) (cells + (x1 - ai_kc g)) (slots + (x2 - ai_ks g)) Q (F0 m npc ls vs1) := fun st1 vs1 hkq hsr =>
            (hK _ _ _ _ _ hkq).2 (fun o ho => g1 o (k2 o ho)) (by omega) (by omega) _ _ _ _ _ _ ws1 ⟨f0.tr d0, f1.mono d0, hsr, d1, by rw [e1]; exact d2, d3, hS1, d4, by show kE + (cells + (x1 - ai_kc g)) = x1; omega, by show sE + (slots + (x2 - ai_ks g)) = x2; omega⟩
          unfold ai_cont at k1
          rcases hout with ⟨hq0, hv⟩ | ⟨hq1, w, hv, hw⟩
          · cases hv
            have b1 : Nat.beq (Prod.fst q) 0 = true := by rw [show Prod.fst q = 0 from hq0]; rfl
            rw [b1] at k1
            obtain ⟨t2, a1, b1⟩ := kk _ _ k1 ((f2.drop n).mono d0) T' rfl X'
            subst hn
            exact ⟨t2, sto t2 a1, b1⟩
          · cases hv
            have b1 : Nat.beq (Prod.fst q) 0 = false := by rw [show Prod.fst q = 1 from hq1]; rfl
            have b2 : Nat.beq (Prod.fst q) 1 = true := by rw [show Prod.fst q = 1 from hq1]; rfl
            rw [b1, b2] at k1
            obtain ⟨t2, a1, b1⟩ := kk _ (w :: vs.drop n) k1 ⟨hw, (f2.drop n).mono d0⟩ T' rfl X'
            subst hn
            exact ⟨t2, sto t2 a1, b1⟩
        · obtain ⟨rq, k1, k2, k3, k4⟩ := hall q hq
          obtain ⟨-, -, hS1⟩ := hkeep h0 e1 hL d5
          unfold ai_cont at k1
          have hce1 : T'.heap[qa]? = some ce := by rw [e1]; exact hce
          have key : ∀ (kq hq9 : Nat), q.1 = kq → (kq = 2 ∨ kq = 3) → ai_Ct p l e R s m args below meth c Q pc kq hq9 → (cond (Nat.beq hq9 0) (some ([(kq, Prod.fst (Prod.snd q), ai_gk (Prod.snd (Prod.snd q)) x1 x2)], x1, x2)) (K hq9 loc [(7, 0, 0)] (ai_gk (Prod.snd (Prod.snd q)) x1 x2)) = some rq) →
              vx_W p l e R s m args below meth c T'.heap (locs ++ L) (cells + (x1 - ai_kc g)) (slots + (x2 - ai_ks g)) Q (F0 m pc ls (vs.drop n)) qa := by
            intro kq hq9 ekq hk23 hCt hk1
            rw [ekq] at hE
            rcases hCt with ⟨hz, hout⟩ | ⟨hz, hcat⟩ | hz
            · rw [hz] at hk1
              cases hk1
              rw [hQ]
              refine vx_out hout hlocks hce1 hcv hcls (fun t9 ht9 hal => ?_) hS1.2.2 (by omega) (by omega)
              refine ⟨_, g1 _ (k2 _ (List.mem_singleton.mpr rfl)), ws1, ⟨f0.tr d0, d1, by rw [ht9, e1]; exact d2, d3, d4, hS1.F ht9⟩, hk23, hE⟩
            · have b1 : Nat.beq hq9 0 = false := by
                cases b9 : Nat.beq hq9 0 with
                | false => rfl
                | true => exact absurd (Nat.eq_of_beq_eq_true b9) hz
              rw [b1] at hk1
              refine hcat hce1 hcv (by rw [← hE]; exact hcls) ?_
              exact (hK _ _ _ _ _ hk1).2 (fun o ho => g1 o (k2 o ho)) (by omega) (by omega) _ _ _ _ _ _ ws1 ⟨f0.tr d0, f1.mono d0, ⟨Or.inr (Or.inr (Or.inr (Or.inr (Or.inr ⟨rfl, qa, rfl⟩)))), trivial⟩, d1, by rw [e1]; exact d2, d3, hS1, d4, by show kE + (cells + (x1 - ai_kc g)) = x1; omega, by show sE + (slots + (x2 - ai_ks g)) = x2; omega⟩
            · rw [hz] at hk1
              have hk1 : K 65535 loc [(7, 0, 0)] (ai_gk (Prod.snd (Prod.snd q)) x1 x2) = some rq := hk1
              rw [hK5] at hk1
              cases hk1
          have hvW : vx_W p l e R s m args below meth c T'.heap (locs ++ L) (cells + (x1 - ai_kc g)) (slots + (x2 - ai_ks g)) Q (F0 m pc ls (vs.drop n)) qa := by
            rcases hq23 with h9 | h9
            · have b1 : Nat.beq (Prod.fst q) 0 = false := by rw [show Prod.fst q = 2 from h9]; rfl
              have b2 : Nat.beq (Prod.fst q) 1 = false := by rw [show Prod.fst q = 2 from h9]; rfl
              have b3 : Nat.beq (Prod.fst q) 2 = true := by rw [show Prod.fst q = 2 from h9]; rfl
              rw [b1, b2, b3] at k1
              exact key 2 h2 h9 (Or.inl rfl) hc2 k1
            · have b1 : Nat.beq (Prod.fst q) 0 = false := by rw [show Prod.fst q = 3 from h9]; rfl
              have b2 : Nat.beq (Prod.fst q) 1 = false := by rw [show Prod.fst q = 3 from h9]; rfl
              have b3 : Nat.beq (Prod.fst q) 2 = false := by rw [show Prod.fst q = 3 from h9]; rfl
              have b4 : Nat.beq (Prod.fst q) 3 = true := by rw [show Prod.fst q = 3 from h9]; rfl
              rw [b1, b2, b3, b4] at k1
              exact key 3 h3 h9 (Or.inr rfl) hc3 k1
          obtain ⟨t2, a1, b1⟩ := hvW T' rfl X'
          exact ⟨t2, sto.trans a1, b1⟩
end CALL
end
section
/-! ===== what every method may lean on at its start ===== -/
def ai_strs : List (String × Nat × String) := [("PenPage", 85, "writers are 1 to 5"), ("PenPage", 101, "no such count"), ("PenPage", 315, "no such page"), ("PenPage", 132, "no such thing of a page"), ("PenPage", 137, "no such place in the text"), ("PenPage", 322, "no such thing of a mark"), ("PenPage", 317, "the page has no such step"), ("PenPage", 176, "no such thing of a step"), ("PenPage", 229, "no such byte"), ("PenPage", 237, "the tape has not so many bytes"), ("PenPage", 264, "it lacks no such step"), ("PenPage", 266, "no such writer"), ("PenPage", 271, "no such mark"), ("PenPage", 300, "no such thing of the story")]
def ai_AW (U : State) : Prop := ∀ w ∈ lw_tbl, w.onTables = true → w.before #[] U = true
theorem ai_AW.use {U : State} (h : ai_AW U) {w : Cond} (hw : w ∈ lw_tbl) (ho : w.onTables = true) (args : Array Value) : w.before args U = true := va_any ho (h w hw ho)
def ai_isif (w : Cond) : Bool := match w with
  | .interfaceMethod .. => true
  | _ => false
theorem ai_noif : lw_tbl.all (fun w => !ai_isif w) = true := by decide +kernel
theorem ai_AW.warm {s U : State} (hW : s.WarmedH U.vm) (h : ai_AW s) : ai_AW U := by
  intro w hw ho
  have h0 := h w hw ho
  by_cases hk : w.keeps = true
  · exact word_at hW (Or.inl (by rw [ho, hk]; rfl)) h0
  · cases w with
    | fieldLinkNest a i b n d hst => exact va_Nw.warmF hW h0
    | methodLinkNest a i x hst => exact va_Nw.warmM hW h0
    | declares x => exact (Cond.before_shiftedFace (State.Shifted.of_warmed hW) _ rfl h0 : (Cond.declares x).before #[] (s.setVm U.vm) = true)
    | publicMethod x => exact (Cond.before_shiftedFace (State.Shifted.of_warmed hW) _ rfl h0 : (Cond.publicMethod x).before #[] (s.setVm U.vm) = true)
    | privateMethod x => exact (Cond.before_shiftedFace (State.Shifted.of_warmed hW) _ rfl h0 : (Cond.privateMethod x).before #[] (s.setVm U.vm) = true)
    | unhidden a b d => exact (Cond.before_shiftedFace (State.Shifted.of_warmed hW) _ rfl h0 : (Cond.unhidden a b d).before #[] (s.setVm U.vm) = true)
    | castable a b => exact (Cond.before_shiftedFace (State.Shifted.of_warmed hW) _ rfl h0 : (Cond.castable a b).before #[] (s.setVm U.vm) = true)
    | interfaceMethod a b n d => exact absurd (List.all_eq_true.mp ai_noif _ hw) (by simp [ai_isif])
    | _ => first | exact absurd rfl hk | cases ho
/-- the exceptions' classes that are no kin -/
def ai_SF (b0 L base : Nat) (rho : Nat → Int32) (tc dC : Nat → ClassId) (dI : Nat → Nat → Nat) (sa : Nat → Nat) (U : State) : Prop :=
  ai_AW U ∧ va_K (dC, dI) vwCl (ai_tys tc) U ∧ va_AO "PenPage$Page" U ∧ va_AO "PenPage$Step" U ∧ va_AOA .int U ∧ (∀ (k : Nat) (q : String × Nat × String), ai_strs[k]? = some q → vk_R q.1 q.2.1 q.2.2 (sa k) U) ∧
  vx_Zq Bundle.tN "UNASSIGNED_STACK" Bundle.steD (ai_A base) U U.heap ∧ vx_Zq Bundle.tN "SUPPRESSED_SENTINEL" Bundle.listD (ai_A base) U U.heap ∧ va_X b0 L rho U U.heap ∧ base ≤ U.heap.size ∧ b0 < base ∧ va_Nc "java/lang/IllegalArgumentException" "java/util/NoSuchElementException" U ∧ (∀ ty, Cond.arrayClass ty ∈ lw_tbl → (Cond.arrayClass ty).before #[] U = true)
theorem ai_SF.moved {b0 L base : Nat} {rho : Nat → Int32} {tc dC : Nat → ClassId} {dI : Nat → Nat → Nat} {sa : Nat → Nat} {s U : State} {locs : List Loc} (h : ai_SF b0 L base rho tc dC dI sa s) (hW : s.WarmedH U.vm) (hS : va_S (ai_A base) s.heap U.heap locs) : ai_SF b0 L base rho tc dC dI sa U := by
  obtain ⟨h1, h2, h3, h4, h5, h6, h7, h8, h9, h10, h11, h12, h13⟩ := h
  refine ⟨h1.warm hW, va_K.moved hW.alike h2, va_AO.moved hW.alike h3, va_AO.moved hW.alike h4, va_AOA.moved hW.alike h5, fun k q hk => (h6 k q hk).warm hW, vx_Zq.moved hW.alike (h7.kept hS.2.1), vx_Zq.moved hW.alike (h8.kept hS.2.1), va_X.moved hW.alike (h9.kept (hS.2.1 b0 (Nat.lt_of_lt_of_le h11 h10) (Nat.not_le.mpr h11))), Nat.le_trans h10 hS.1, h11, h12.moved hW.alike, fun ty hty => word_at hW (Or.inr ⟨ty, rfl⟩) (h13 ty hty)⟩
theorem ai_SF.calling {b0 L base : Nat} {rho : Nat → Int32} {tc dC : Nat → ClassId} {dI : Nat → Nat → Nat} {sa : Nat → Nat} {U : State} (h : ai_SF b0 L base rho tc dC dI sa U) (g : JFrame) (mk : MethodId) (a : Array Value) : ai_SF b0 L base rho tc dC dI sa (U.calling g mk a) :=
  ai_SF.moved (U := U.calling g mk a) (locs := []) h (State.WarmedH.refl U) va_S.rf
end
section
/-! ===== 'throw new X(text)' where X's own constructor has any place ix for its superclass's (java.util.NoSuchElementException's is 13): no trace is kept ===== -/
section CTX
variable {p : Program} {l : Launch} {e : Env} {R : Room} {s : State} {m : MethodId} {args : Array Value} {below : List Frame} {meth : Method} {c : Code} {V : State} {locs : List Loc} {cells slots : Nat}
set_option maxHeartbeats 2000000 in
theorem ai_ctorX (X : Stand p l e R s m args below meth c V locs cells slots) (hexec : p.tables.exec = Jvm.exec) (htr : e.platform.stackTraces = false) {own cls : String} {names : List String} {ic ix : Nat} {rx : ByteArray}
    (x0 : decode rx 0 = .ok (.aload_n 0, 1)) (x1 : decode rx 1 = .ok (.aload_n 1, 1)) (x2 : decode rx 2 = .ok (.invokespecial ix, 3)) (x5 : decode rx 5 = .ok (.return_, 1))
    (hown : s.vm.findClass own = some m.cls) (hcls : Bundle.fit cls = true) (hnames : ∀ n ∈ names, Bundle.fit n = true)
    (h : ∀ a ∈ Bundle.ownAtomsX own ic cls ix rx names, a.before args s = true) (hlocs : ∀ x ∈ locs, ∀ cell, s.heap[x.base]? = some cell → cell.vm.isStatics = false)
    {a : Addr} {cX : ClassId} {kX : Class} (hfoundX : s.vm.findClass cls = some cX) (hkX : s.vm.classes[cX]? = some kX) (hcell : V.heap[a]? = some (freshCell cX kX)) (hnew : s.heap.size ≤ a) {msg : Value} (hmsg : msg.isRef = true)
    {g : JFrame} (hg : g.method = m) (hsize : g.locals.size = c.maxLocals) (hlocked : g.locked = none) (hentered : g.entered = []) {rest : List Value} (hstack : g.stack = msg :: .ref a :: .ref a :: rest)
    (hd6 : decode c.code g.pc = .ok (.invokespecial ic, 3)) (hd9 : decode c.code (g.pc + 3) = .ok (.athrow, 1)) (hout : ∀ x ∈ c.exceptionTable.toList, covers x (g.pc + 3) = false)
    (hRframes : names.length + 3 < R.frames) (hRlocals : 2 * g.monitorRoom + ((Value.ref a :: rest).map fun v => v.category).sum + (13 * (names.length + 1) + 42) ≤ R.locals) (hlocks : meth.locks = false) :
    ∃ U : State, Steps p.tables e below (V.setTop g) U ∧ U.status = .running ∧ Ended U below (.threw a) ∧ s.WarmedH U.vm ∧ s.sameButNew ({ U with vm := s.vm } : State) locs cells slots ∧ ∃ ce, U.heap[a]? = some ce ∧ ce.cls = cX ∧ ce.vm = .none := by
  have howns : e.platform.frameOwnsMonitors = true := by rw [X.admits.platform]
  have hfin : e.platform.finalization = false := by rw [X.admits.platform]
  have hpl : e.platform.magicAccessors = ({} : Platform).magicAccessors := by rw [X.admits.platform]
  obtain ⟨T, Z0, L, -, Y⟩ := ThrowableC.of_atoms (args := args) howns hfin hpl (fun x hx => h x (by simp [Bundle.ownAtomsX, hx]))
  obtain ⟨Z, M, LZ, LM, hnZ⟩ := Init0T.ofS_atoms (args := args) hpl L Y (fun x hx => h x (by simp [Bundle.ownAtomsX, hx]))
  obtain ⟨P1, Ps, hlen, L1, hL, hP1m, hlink1, hlink⟩ := Bundle.chainSX (args := args) hpl hnZ x0 x1 x2 x5 names cls hcls hnames (fun x hx => h x (by simp [Bundle.ownAtomsX, hx]))
  have hfound : s.vm.findClass cls = some P1.m.cls := findClass_of_methodNamed hP1m
  cases Option.some.inj (hfoundX.symm.trans hfound)
  obtain ⟨c1, kX', hc1, hk, hord, -, -, hn6⟩ := Cond.instantiable_spec (h (.instantiable cls 6) (by simp [Bundle.ownAtomsX]))
  cases Option.some.inj (hc1.symm.trans hfound)
  cases Option.some.inj (hkX.symm.trans hk)
  have key : ∀ {y : MethodName} {k : MethodId}, (Cond.selects cls y y).before args s = true → s.methodNamed? y = some k → (y.cls ≠ "java/lang/invoke/MethodHandle" ∧ y.cls ≠ "java/lang/invoke/VarHandle") → selectMethod e.platform s.vm P1.m.cls k = .method k := by
    intro y k hsl hnm hne
    obtain ⟨c2, r2, m2, q1, q2, q3, q4, -⟩ := Cond.selects_spec hsl
    cases Option.some.inj (q1.symm.trans hfound)
    cases Option.some.inj (q2.symm.trans (State.methodFound?_of_named hnm hne))
    cases Option.some.inj (q3.symm.trans hnm)
    rw [Launch.admits_selectMethod X.admits]; exact q4
  have hsel0 := key (h (.selects cls Bundle.tFill0 Bundle.tFill0) (by simp [Bundle.ownAtomsX])) Y.fill0 (by decide)
  have hselF := key (h (.selects cls Bundle.tFill Bundle.tFill) (by simp [Bundle.ownAtomsX])) Y.fill (by decide)
  obtain ⟨cellS0, hcS0, hiss⟩ := Y.statics
  obtain ⟨u0, hu0⟩ := Cond.staticRefV Y.unassigned L.unassignedStatic L.statics hcS0 hiss (h (.isRef (.static Bundle.tN "UNASSIGNED_STACK" Bundle.steD)) (by simp [Bundle.ownAtomsX]))
  obtain ⟨sen, hsen⟩ := Cond.staticRefV Y.sentinel L.sentinelStatic L.statics hcS0 hiss (h (.isRef (.static Bundle.tN "SUPPRESSED_SENTINEL" Bundle.listD)) (by simp [Bundle.ownAtomsX]))
  obtain ⟨ci198, i198, fB, hk198, hg198, ha198, hsB, -, hnB, htB, hffB⟩ := Cond.ownField (t := .object "java/lang/Object") Y.found L.cls (by decide +kernel) (h (.fieldLink Bundle.tN 198 Bundle.tN "backtrace" "Ljava/lang/Object;") (by simp [Bundle.ownAtomsX])) (h (.lays Bundle.tN Bundle.tN "backtrace" "Ljava/lang/Object;") (by simp [Bundle.ownAtomsX])) e.platform hpl
  obtain ⟨cellS, hcS', heS, -, hkeep⟩ := X.same.2.2.2.2.2 T.aS cellS0 hcS0
  have hcellS : V.heap[T.aS]? = some cellS := hcS'
  have hout' : ∀ i, (⟨T.aS, i⟩ : Loc) ∉ locs := fun i hmem => by
    have := hlocs _ hmem cellS0 hcS0
    rw [hiss] at this; cases this
  have hknownS : cellS.vm ≠ .unknown := by
    rw [heS]; intro hu
    rw [show cellS0.vm = .unknown from hu] at hiss
    cases hiss
  have hneS : T.aS ≠ a := Nat.ne_of_lt (Nat.lt_of_lt_of_le (Array.getElem?_eq_some_iff.mp hcS0).1 hnew)
  obtain ⟨iM, hffM⟩ := Y.msg
  obtain ⟨tyC, dC, hdC, hdnC⟩ := Cond.laysAt hfound hk Y.cause (h (.lays cls Bundle.tN "cause" "Ljava/lang/Throwable;") (by simp [Bundle.ownAtomsX]))
  obtain ⟨tyS, dS, hdS, hdnS⟩ := Cond.laysAt hfound hk Y.stack (h (.lays cls Bundle.tN "stackTrace" Bundle.steD) (by simp [Bundle.ownAtomsX]))
  obtain ⟨tyP, dP, hdP, hdnP⟩ := Cond.laysAt hfound hk Y.supp (h (.lays cls Bundle.tN "suppressedExceptions" Bundle.listD) (by simp [Bundle.ownAtomsX]))
  obtain ⟨tyM, dM, hdM, hdnM⟩ := Cond.laysAt hfound hk hffM (h (.lays cls Bundle.tN "detailMessage" "Ljava/lang/String;") (by simp [Bundle.ownAtomsX]))
  obtain ⟨tyB, dB, hdB, hdnB⟩ := Cond.laysAt hfound hk hffB (h (.lays cls Bundle.tN "backtrace" "Ljava/lang/Object;") (by simp [Bundle.ownAtomsX]))
  have bC := Cond.laysApart hdB hdC hdnB hdnC (by rw [hnB, Y.causeName]; decide)
  have bS := Cond.laysApart hdB hdS hdnB hdnS (by rw [hnB, Y.stackName]; decide)
  have bP := Cond.laysApart hdB hdP hdnB hdnP (by rw [hnB, Y.suppName]; decide)
  have hskip : SkipFacts T e.platform s (fun u => u) u0 ((preparedCellV T.toThrowableT (freshCell P1.m.cls kX) a u0 sen).withEntry V.cur) :=
    ⟨{ ci198 := ci198, i198 := i198, fBack := fB }, ⟨hk198, hg198, ha198, hsB⟩, by
      have := fresh_default (c := P1.m.cls) tyB
      rw [htB] at this
      simpa [preparedCellV, Cell.setSlot, Cell.withEntry, Array.getElem?_setIfInBounds, bC, bS, bP, bC.symm, bS.symm, bP.symm, defaultValue] using this, fun _ _ => rfl⟩
  obtain ⟨tm, methC, cdC, kC, vm₁, hnC, -, -, -, -, -, -, -, hW₁, st1⟩ := Steps.initColdS (tb := p.tables) (e := e) (below := below) (s := s) (U := V) X.here hexec X.warmed hpl hown (t := Bundle.initS cls) rfl rfl (Bundle.fit_spec hcls).2
    (h (.methodLink own ic (Bundle.initS cls)) (by simp [Bundle.ownAtomsX])) (h (.instanceMethod (Bundle.initS cls)) (by cases names <;> simp [Bundle.ownAtomsX, Bundle.chainSAtomsX, Bundle.passSAtoms])) (bytes := rx) (maxL := 2) (h (.code (Bundle.initS cls) rx 2 none) (by cases names <;> simp [Bundle.ownAtomsX, Bundle.chainSAtomsX, Bundle.passSAtoms]))
    (f := g) hg (a := a) (msg := msg) (rest := .ref a :: rest) hstack hd6
  cases Option.some.inj (hnC.symm.trans hP1m)
  have X₁ := X.noted hW₁
  obtain ⟨vm₂, X₂, st2⟩ := X₁.ctorMessageOffV hexec (g := { g with stack := .ref a :: rest }) hg hsize T L Z LZ M LM (P1 :: Ps)
    (fun P hP => by rcases List.mem_cons.mp hP with rfl | hP; exact L1; exact hL P hP) ⟨hlink1, hlink⟩ (u0 := u0) (sen := sen) (self := a) hmsg (cell := freshCell P1.m.cls kX) (cellS := cellS)
    hcell (fun _ => by simp) (by simp) rfl rfl hsel0 hselF hcellS hneS hknownS (by rw [hkeep _ (hout' _)]; exact hu0) (by rw [hkeep _ (hout' _)]; exact hsen)
    (Takes.of_laid hk hord tyC (by rw [Y.causeType]; rfl)) (Takes.of_laid hk hord tyS (by rw [Y.stackType]; exact fits_refV_array _ u0)) (Takes.of_laid hk hord tyP (by rw [Y.suppType]; exact fits_refV_object _ sen))
    (Takes.of_laid hk hord tyM (by rw [Y.msgType]; exact fits_refV_object _ ⟨msg, hmsg⟩)) Y.objLocals hskip htr [] hd6
    (by simp only [List.length_cons, hlen]; omega) (by simp only [List.length_cons, hlen]; exact hRlocals)
  obtain ⟨hwalk, hrun, hended, hWU, hsame⟩ := X₂.athrowLeaves hexec (g := { g with stack := .ref a :: rest, pc := g.pc + 3 }) hg hlocked hentered hout (a := a) (rest := rest) rfl hd9
  have hlt : a < ((V.setVm vm₁).setVm vm₂).heap.size := (Array.getElem?_eq_some_iff.mp hcell).1
  have hU := heapAt_setCell_self (s := (V.setVm vm₁).setVm vm₂) (plainBareV T.toThrowableT (freshCell P1.m.cls kX) a u0 sen msg) hlt
  refine ⟨_, st1 _ (fun acts => ?_), hrun, hended, hWU, hsame.weaken (fun y hy hlt' => ?_) (Nat.le_refl _) (Nat.le_refl _), _, hU, rfl, rfl⟩
  · rw [doInvoke_state]
    exact st2 _ hwalk
  · rcases List.mem_append.mp hy with h1 | h1
    · exact h1
    · exfalso
      have hb : y.base = a := by
        simp only [List.mem_cons, List.not_mem_nil, or_false] at h1
        rcases h1 with rfl | rfl | rfl | rfl | rfl <;> rfl
      rw [hb] at hlt'
      exact Nat.not_lt.mpr hnew hlt'
end CTX
def ai_atX (own : String) (ic : Nat) (X : String) (ix : Nat) (rx : ByteArray) (names : List String) : List Cond := (Bundle.ownAtomsX own ic X ix rx names).filter vx_no
section THX
variable {p : Program} {l : Launch} {e : Env} {R : Room} {s : State} {m : MethodId} {args : Array Value} {below : List Frame} {meth : Method} {c : Code} {H : Heap} {locs : List Loc} {cells slots : Nat} {Q : State → Prop}
variable {free : Addr → Prop} {ls : Array Slot} {Qc : Array Value → State → Outcome → State → Prop} {XC : String → State → State → Prop}
/-- 'throw new X(text)', the text by a short index (n4 = 2) or a wide one (n4 = 3) -/
theorem ai_throwX {cc : ByteArray} {pc n4 : Nat} (hexec : p.tables.exec = Jvm.exec) (hb : c.code = cc) (hl : l.stackTraces = false) {own cls text : String} {names : List String} {ik is ic mc ms sa ix : Nat} {rx : ByteArray} {A : Nat → Prop}
    (x0 : decode rx 0 = .ok (.aload_n 0, 1)) (x1 : decode rx 1 = .ok (.aload_n 1, 1)) (x2 : decode rx 2 = .ok (.invokespecial ix, 3)) (x5 : decode rx 5 = .ok (.return_, 1))
    (hown : s.vm.findClass own = some m.cls) (hcls : Bundle.fit cls = true) (hnames : ∀ n ∈ names, Bundle.fit n = true)
    (hk : (Cond.classLink own ik cls).before args s = true) (hini : (Cond.initialized cls).before args s = true) (hstr : vk_R own is text sa s) (hat : ∀ w ∈ ai_atX own ic cls ix rx names, w.before args s = true)
    (hgood : ∀ w ∈ Cond.classLink own ik cls :: Cond.initialized cls :: ai_atX own ic cls ix rx names, vx_ot w = true)
    (hU : vx_Zq Bundle.tN "UNASSIGNED_STACK" Bundle.steD A s s.heap) (hN : vx_Zq Bundle.tN "SUPPRESSED_SENTINEL" Bundle.listD A s s.heap) (hS : va_S A s.heap H locs) (hsize : ls.size = c.maxLocals)
    (d0 : decode cc pc = .ok (.new ik, 3)) (d3 : decode cc (pc + 3) = .ok (.dup, 1)) (d4 : (decode cc (pc + 4) = .ok (.ldc is, 2) ∧ n4 = 2) ∨ (decode cc (pc + 4) = .ok (.ldc_w is, 3) ∧ n4 = 3)) (d6 : decode cc (pc + 4 + n4) = .ok (.invokespecial ic, 3)) (d9 : decode cc (pc + 4 + n4 + 3) = .ok (.athrow, 1))
    (hout : ∀ x ∈ c.exceptionTable.toList, covers x (pc + 4 + n4 + 3) = false)
    (hRframes : names.length + 3 < R.frames) (hRlocals : 13 * (names.length + 1) + 43 ≤ R.locals) (hRcells : cells + 1 ≤ R.cells) (hRslots : slots + 6 ≤ R.slots) (hlocks : meth.locks = false)
    (hx : ∀ t : State, s.vm.Alike t.vm → H.size ≤ t.heap.size → (∀ q : Nat, q < H.size → t.heap[q]? = H[q]?) → XC cls s t)
    (hf : ∀ z ∈ locs, free z.base) (hc : cells + 1 ≤ mc) (hs : slots + 6 ≤ ms) :
    W p l e R s m args below meth c H locs cells slots (vx_MQ below Qc XC args s mc ms free) (F0 m pc ls []) := by
  intro T hT X
  have htr : e.platform.stackTraces = false := (show e.platform.stackTraces = l.stackTraces by rw [X.admits.platform]).trans hl
  have Y := vx_rebase X (R' := { frames := R.frames, locals := R.locals, cells := 1, slots := 6 }) (Nat.le_refl _) (Nat.le_refl _) hRcells hRslots
  obtain ⟨s', hA⟩ : ∃ z, z = (T.setVm s.vm).setFrames (.invoking m args :: below) := ⟨_, rfl⟩
  rw [← hA] at Y
  have hvm : s'.vm = s.vm := by rw [hA]; rfl
  have hhp : s'.heap = H := by rw [hA]; exact hT
  have hW0 : s.WarmedH s'.vm := by rw [hvm]; exact State.WarmedH.refl s
  have hU' : vx_Zq Bundle.tN "UNASSIGNED_STACK" Bundle.steD A s' s'.heap := by rw [hhp]; exact vx_Zq.moved hW0.alike (hU.kept hS.2.1)
  have hN' : vx_Zq Bundle.tN "SUPPRESSED_SENTINEL" Bundle.listD A s' s'.heap := by rw [hhp]; exact vx_Zq.moved hW0.alike (hN.kept hS.2.1)
  have hat' : ∀ w ∈ ai_atX own ic cls ix rx names, w.before args s' = true := fun w hw => vx_ot_at hW0 hvm.symm (hgood w (List.mem_cons_of_mem _ (List.mem_cons_of_mem _ hw))) (hat w hw)
  have h : ∀ w ∈ Bundle.ownAtomsX own ic cls ix rx names, w.before args s' = true := vx_own hat' (vx_isRefq hU'.1) (vx_isRefq hN'.1) hU'.2.word hN'.2.word
  have hown' : s'.vm.findClass own = some m.cls := by rw [hvm]; exact hown
  obtain ⟨vm₁, cX, kX, hfX, hkX, -, -, X₁, st1⟩ := Y.newCold hexec (own := own) (C := cls) (index := ik) (n := 6) hown' (vx_ot_at hW0 hvm.symm (hgood _ List.mem_cons_self) hk) (h _ (by simp [Bundle.ownAtomsX])) (vx_ot_at hW0 hvm.symm (hgood _ (List.mem_cons_of_mem _ List.mem_cons_self)) hini)
    (g := F0 m pc ls []) rfl (by rw [hb]; exact d0) (Nat.le_refl _) (Nat.le_refl _)
  generalize hT1 : (T.setVm vm₁).pushCell { cls := cX, slots := kX.instanceTypes.map defaultValue, vm := .none } = T1 at X₁ st1
  have hcat : (Value.ref T.heap.size).category = 1 := rfl
  have hcellA : T1.heap[T.heap.size]? = some (freshCell cX kX) := by rw [← hT1]; exact State.heap_pushCell_size _ _
  have d3' : decode c.code (pc + 3) = .ok (.dup, 1) := by rw [hb]; exact d3
  have hstr' : vk_R own is text sa s' := vk_R.warm hW0 hstr
  obtain ⟨U, hsteps, hrun, hend, hW, hsame, ce, hce, hcc, hcv⟩ := ai_ctorX X₁ hexec htr (own := own) (cls := cls) (names := names) (ic := ic) x0 x1 x2 x5 hown' hcls hnames h (fun x hx => nomatch hx) hfX hkX hcellA (by rw [hhp, hT]; exact Nat.le_refl _) (msg := .ref sa) rfl
    (g := { method := m, pc := pc + 4 + n4, locals := ls, stack := .ref sa :: .ref T.heap.size :: .ref T.heap.size :: [], locked := none }) rfl hsize rfl rfl (rest := []) rfl
    (by rw [hb]; exact d6) (by rw [hb]; exact d9) hout hRframes (by simp only [List.map_cons, List.sum_cons, hcat, List.map_nil, List.sum_nil, JFrame.monitorRoom]; simp; omega) hlocks
  obtain ⟨f1, f2⟩ := vx_frame hsame
  rw [hhp] at f1 f2
  have hWs : s.WarmedH U.vm := State.WarmedH.trans hW0 hW
  have hcl : s.vm.findClass cls = some ce.cls := by
    rw [hcc, ← hvm]
    exact hfX
  have hall : s.sameButNew ({ U with vm := s.vm } : State) locs mc ms := by
    subst hA
    obtain ⟨e1, e2⟩ := hsame
    rw [State.setFrames_setFrames] at e1
    have h3 := X.same.trans (⟨e1, e2⟩ : (T.setVm s.vm).sameButNew ({ U with vm := s.vm } : State) [] (0 + 1) (0 + 6))
    rw [List.append_nil] at h3
    exact h3.mono hc hs
  refine ⟨U, ?_, .threw T.heap.size, hrun, hend, Or.inr ⟨T.heap.size, rfl, cls, ce, locs, hx U hWs.alike f1 (fun q hq => f2 q hq (fun z hz => nomatch hz)), hce, hcv, hcl, hWs, hall, hf⟩⟩
  refine st1 _ ?_
  show Steps p.tables e below (T1.setTop { method := m, pc := pc + 3, locals := ls, stack := .ref T.heap.size :: [], locked := none }) _
  jvm_step X₁.here [X₁.here.top, hexec, d3', Value.category]
  rcases d4 with ⟨d4, rfl⟩ | ⟨d4, rfl⟩
  · exact X₁.ldcString hexec (own := own) (text := text) (index := is) (a := sa) hown' hstr'.1 hstr'.2
      (g := { method := m, pc := pc + 4, locals := ls, stack := .ref T.heap.size :: .ref T.heap.size :: [], locked := none }) rfl (by rw [hb]; exact d4) _ hsteps
  · exact X₁.ldcStringW hexec (own := own) (text := text) (index := is) (a := sa) hown' hstr'.1 hstr'.2
      (g := { method := m, pc := pc + 4, locals := ls, stack := .ref T.heap.size :: .ref T.heap.size :: [], locked := none }) rfl (by rw [hb]; exact d4) _ hsteps
end THX
end
section
/-! ===== which words of the tables the instructions lean on ===== -/
def ai_cns : List String := ["PenPage$Checker", "PenPage$NewKey", "PenPage$Packer", "PenPage$Page", "PenPage$Step", "PenPage$Story", "PenPage$View", "PenPage", "PenPageModel", "PenPageLaw", "java/lang/Math", "java/util/Arrays"]
def ai_lg : List (Nat × Nat × Nat × Nat × Nat × Nat) := [(0, 9, 0, 0, 112, 0), (0, 21, 0, 3, 115, 0), (0, 25, 0, 4, 116, 0), (0, 28, 0, 5, 117, 0), (0, 31, 0, 6, 118, 0), (1, 9, 1, 0, 78, 0), (1, 18, 1, 2, 81, 0), (1, 22, 1, 3, 83, 0), (1, 42, 6, 7, 47, 1), (2, 9, 2, 0, 99, 0), (2, 15, 2, 1, 100, 0), (2, 23, 3, 0, 198, 1), (2, 32, 3, 5, 209, 1), (2, 38, 1, 2, 82, 1), (2, 43, 1, 0, 79, 1), (3, 11, 3, 1, 201, 0), (3, 17, 3, 2, 204, 0), (3, 21, 3, 3, 205, 0), (3, 24, 3, 4, 206, 0), (3, 28, 3, 5, 208, 0), (3, 31, 3, 0, 197, 0), (4, 24, 4, 0, 700, 0), (5, 9, 5, 0, 146, 0), (5, 15, 5, 1, 147, 0), (5, 18, 5, 2, 148, 0), (5, 21, 5, 3, 149, 0), (5, 24, 5, 4, 150, 0), (5, 27, 5, 5, 151, 0), (5, 35, 5, 7, 154, 0), (5, 38, 5, 8, 155, 0), (5, 42, 5, 9, 157, 0), (5, 45, 5, 10, 159, 0), (5, 48, 5, 11, 161, 0), (5, 51, 5, 12, 163, 0), (6, 9, 6, 0, 36, 0), (6, 15, 6, 1, 38, 0), (6, 20, 6, 2, 39, 0), (6, 24, 6, 3, 40, 0), (6, 37, 6, 7, 46, 0), (6, 41, 6, 8, 49, 0), (6, 44, 3, 1, 202, 1), (7, 11, 7, 0, 224, 0), (7, 15, 7, 1, 225, 0), (7, 18, 7, 2, 226, 0), (7, 22, 7, 3, 227, 0), (7, 25, 7, 4, 228, 0), (7, 31, 7, 5, 229, 0), (7, 38, 7, 6, 230, 0), (7, 45, 7, 7, 231, 0), (7, 52, 7, 8, 232, 0), (7, 59, 7, 9, 233, 0), (7, 63, 7, 10, 234, 0), (7, 67, 7, 11, 235, 0), (7, 70, 7, 12, 236, 0), (7, 73, 7, 13, 237, 0), (7, 76, 7, 14, 238, 0), (7, 93, 5, 9, 158, 1), (7, 96, 5, 8, 156, 1), (7, 116, 6, 7, 48, 1), (7, 119, 6, 8, 50, 1), (7, 122, 3, 4, 207, 1), (7, 129, 3, 5, 210, 1), (7, 243, 0, 7, 120, 1), (7, 294, 5, 10, 160, 1), (7, 297, 5, 11, 162, 1), (7, 327, 3, 1, 203, 1), (8, 7, 8, 1, 957, 0), (8, 14, 8, 2, 958, 0), (8, 18, 8, 3, 959, 0), (8, 21, 8, 4, 960, 0), (8, 24, 8, 5, 961, 0), (8, 31, 8, 7, 963, 0), (8, 37, 8, 9, 965, 0), (8, 49, 8, 15, 971, 0), (8, 52, 8, 18, 974, 0), (8, 55, 8, 25, 981, 0), (8, 58, 8, 26, 982, 0), (8, 61, 8, 27, 983, 0), (8, 64, 8, 28, 984, 0), (8, 76, 8, 35, 991, 0), (8, 79, 8, 36, 992, 0), (8, 82, 8, 37, 993, 0), (8, 85, 8, 0, 956, 0), (8, 96, 8, 34, 990, 0), (8, 100, 8, 17, 973, 0), (8, 103, 8, 24, 980, 0), (8, 106, 8, 23, 979, 0), (8, 140, 8, 12, 968, 0), (8, 143, 8, 13, 969, 0), (8, 237, 8, 21, 977, 0), (8, 240, 8, 22, 978, 0), (8, 243, 8, 19, 975, 0), (8, 246, 8, 20, 976, 0), (8, 297, 8, 33, 989, 0), (8, 300, 8, 32, 988, 0)]
def ai_lp : List (Nat × Nat × Nat × Nat × Nat × Nat × Nat) := [(0, 9, 0, 0, 2, 112, 1), (0, 15, 0, 1, 2, 113, 1), (0, 18, 0, 2, 2, 114, 0), (0, 21, 0, 3, 0, 115, 0), (0, 25, 0, 4, 0, 116, 0), (0, 28, 0, 5, 0, 117, 0), (0, 31, 0, 6, 0, 118, 0), (0, 34, 0, 7, 0, 119, 0), (1, 9, 1, 0, 2, 78, 1), (1, 15, 1, 1, 2, 80, 1), (1, 18, 1, 2, 0, 81, 0), (1, 22, 1, 3, 0, 83, 0), (2, 9, 2, 0, 2, 99, 1), (2, 15, 2, 1, 0, 100, 0), (3, 11, 3, 1, 2, 201, 1), (3, 17, 3, 2, 2, 204, 1), (3, 21, 3, 3, 2, 205, 1), (3, 24, 3, 4, 0, 206, 0), (3, 28, 3, 5, 0, 208, 0), (3, 31, 3, 0, 0, 197, 1), (4, 24, 4, 0, 2, 700, 1), (5, 9, 5, 0, 2, 146, 1), (5, 15, 5, 1, 2, 147, 1), (5, 18, 5, 2, 2, 148, 1), (5, 21, 5, 3, 2, 149, 1), (5, 24, 5, 4, 2, 150, 1), (5, 27, 5, 5, 2, 151, 1), (5, 32, 5, 6, 2, 153, 1), (5, 35, 5, 7, 2, 154, 1), (5, 38, 5, 8, 0, 155, 0), (5, 42, 5, 9, 0, 157, 0), (5, 45, 5, 10, 0, 159, 0), (5, 48, 5, 11, 0, 161, 0), (5, 51, 5, 12, 1, 163, 0), (6, 9, 6, 0, 2, 36, 1), (6, 15, 6, 1, 2, 38, 1), (6, 20, 6, 2, 2, 39, 1), (6, 24, 6, 3, 2, 40, 1), (6, 28, 6, 4, 2, 41, 1), (6, 31, 6, 5, 2, 43, 1), (6, 34, 6, 6, 2, 45, 1), (6, 37, 6, 7, 0, 46, 0), (6, 41, 6, 8, 0, 49, 0), (7, 11, 7, 0, 2, 224, 1), (7, 15, 7, 1, 2, 225, 1), (7, 18, 7, 2, 2, 226, 1), (7, 22, 7, 3, 2, 227, 1), (7, 25, 7, 4, 2, 228, 1), (7, 31, 7, 5, 2, 229, 1), (7, 38, 7, 6, 2, 230, 1), (7, 45, 7, 7, 2, 231, 1), (7, 52, 7, 8, 2, 232, 1), (7, 59, 7, 9, 2, 233, 1), (7, 63, 7, 10, 0, 234, 0), (7, 67, 7, 11, 0, 235, 0), (7, 70, 7, 12, 0, 236, 0), (7, 73, 7, 13, 0, 237, 0), (7, 76, 7, 14, 1, 238, 0), (8, 7, 8, 1, 0, 957, 0), (8, 14, 8, 2, 2, 958, 1), (8, 18, 8, 3, 2, 959, 1), (8, 21, 8, 4, 2, 960, 1), (8, 24, 8, 5, 2, 961, 1), (8, 27, 8, 6, 2, 962, 1), (8, 31, 8, 7, 2, 963, 1), (8, 34, 8, 8, 2, 964, 1), (8, 37, 8, 9, 2, 965, 1), (8, 40, 8, 10, 2, 966, 1), (8, 43, 8, 11, 2, 967, 1), (8, 46, 8, 14, 2, 970, 1), (8, 49, 8, 15, 2, 971, 1), (8, 52, 8, 18, 0, 974, 0), (8, 55, 8, 25, 2, 981, 1), (8, 58, 8, 26, 2, 982, 1), (8, 61, 8, 27, 2, 983, 1), (8, 64, 8, 28, 2, 984, 1), (8, 67, 8, 29, 2, 985, 1), (8, 70, 8, 30, 2, 986, 1), (8, 73, 8, 31, 2, 987, 1), (8, 76, 8, 35, 2, 991, 1), (8, 79, 8, 36, 2, 992, 1), (8, 82, 8, 37, 2, 993, 1), (8, 85, 8, 0, 0, 956, 0), (8, 96, 8, 34, 1, 990, 0), (8, 100, 8, 17, 0, 973, 0), (8, 103, 8, 24, 0, 980, 0), (8, 106, 8, 23, 0, 979, 0), (8, 140, 8, 12, 0, 968, 0), (8, 143, 8, 13, 0, 969, 0), (8, 237, 8, 21, 0, 977, 0), (8, 240, 8, 22, 0, 978, 0), (8, 243, 8, 19, 0, 975, 0), (8, 246, 8, 20, 0, 976, 0), (8, 297, 8, 33, 0, 989, 0), (8, 300, 8, 32, 0, 988, 0)]
def ai_ln : List (Nat × Nat × Nat × Nat × Nat × Nat) := [(2, 46, 4, 678, 679, 16), (7, 9, 3, 26, 191, 7), (7, 28, 6, 28, 29, 2), (7, 35, 1, 72, 73, 3), (7, 42, 2, 93, 94, 4), (7, 49, 0, 106, 107, 5), (7, 56, 5, 138, 139, 6), (9, 8, 7, 18, 19, 1), (9, 74, 8, 949, 950, 8)]
def ai_la : List (Nat × Nat × Nat × Nat) := [(3, 9, 5, 196), (6, 18, 5, 34), (7, 9, 4, 26)]
def ai_lm : List (Nat × Nat × Nat) := [(5, 30, 144)]
def ai_lcon : List (Nat × Nat × Nat × Nat) := [(0, 50, 65535, 812), (3, 54, 65535, 630), (8, 13, 531366, 955), (8, 185, 65535, 1184), (8, 211, 531210, 1201)]
def ai_loi : List (Nat × Nat × Nat) := [(0, 3, 111), (1, 3, 77), (2, 3, 98), (3, 3, 195), (4, 3, 683), (5, 3, 143), (6, 3, 33), (7, 3, 23), (8, 1, 954)]
def ai_lcp : List (Nat × Nat × Nat) := [(3, 40, 321), (5, 75, 939), (7, 309, 324), (11, 150, 699)]
def ai_lc : List (Nat × Nat × Nat × Nat × Nat × Nat × Nat) := [(0, 43, 44, 3, 0, 0, 796), (0, 46, 47, 4, 0, 0, 808), (0, 51, 46, 3, 0, 0, 813), (0, 55, 45, 3, 0, 0, 817), (0, 58, 48, 1, 0, 0, 834), (0, 61, 42, 3, 0, 0, 804), (0, 64, 43, 1, 0, 0, 800), (1, 25, 88, 2, 0, 6, 635), (2, 19, 55, 2, 0, 2, 656), (2, 28, 67, 2, 0, 3, 660), (2, 35, 57, 2, 0, 2, 661), (2, 48, 68, 3, 1, 4, 680), (3, 34, 166, 2, 3, 0, 408), (3, 46, 67, 2, 0, 3, 476), (3, 50, 30, 2, 6, 0, 477), (3, 55, 73, 1, 0, 4, 708), (3, 83, 69, 1, 0, 4, 712), (3, 91, 61, 1, 0, 3, 718), (3, 94, 64, 1, 0, 3, 726), (4, 18, 165, 2, 3, 0, 688), (4, 30, 70, 2, 0, 4, 463), (4, 34, 72, 2, 0, 4, 527), (5, 55, 80, 2, 0, 5, 930), (5, 65, 78, 2, 0, 5, 935), (6, 53, 89, 2, 0, 6, 467), (6, 57, 82, 2, 0, 6, 490), (6, 60, 86, 1, 0, 6, 531), (6, 63, 87, 1, 0, 6, 544), (6, 93, 67, 2, 0, 3, 471), (7, 30, 81, 1, 2, 6, 30), (7, 37, 49, 1, 2, 1, 74), (7, 44, 52, 1, 2, 2, 95), (7, 51, 40, 1, 2, 0, 108), (7, 58, 74, 1, 2, 5, 140), (7, 80, 58, 2, 1, 3, 192), (7, 90, 62, 1, 0, 3, 404), (7, 104, 22, 2, 0, 7, 442), (7, 108, 67, 2, 0, 3, 447), (7, 112, 37, 2, 0, 7, 451), (7, 125, 83, 3, 0, 6, 548), (7, 134, 88, 2, 0, 6, 576), (7, 152, 32, 4, 0, 7, 608), (7, 178, 59, 1, 0, 3, 626), (7, 182, 17, 1, 3, 0, 286), (7, 186, 24, 2, 0, 7, 293), (7, 189, 50, 3, 0, 1, 631), (7, 193, 51, 2, 0, 1, 648), (7, 196, 53, 3, 0, 2, 652), (7, 200, 55, 2, 0, 2, 665), (7, 203, 56, 2, 0, 2, 666), (7, 207, 23, 2, 0, 7, 670), (7, 214, 66, 3, 0, 3, 612), (7, 222, 4, 4, 3, 0, 768), (7, 234, 10, 2, 0, 7, 274), (7, 239, 41, 4, 0, 0, 791), (7, 246, 25, 3, 0, 7, 838), (7, 256, 7, 2, 3, 0, 872), (7, 260, 12, 3, 3, 0, 879), (7, 268, 84, 2, 0, 6, 905), (7, 276, 71, 1, 0, 4, 736), (7, 283, 76, 2, 0, 5, 289), (7, 286, 75, 4, 0, 5, 301), (7, 290, 77, 1, 0, 5, 309), (7, 291, 79, 1, 0, 5, 926), (7, 305, 60, 2, 0, 3, 317), (7, 319, 85, 2, 0, 6, 455), (7, 338, 54, 1, 0, 2, 674), (7, 342, 63, 2, 0, 3, 704), (7, 346, 65, 1, 0, 3, 714), (7, 349, 16, 3, 3, 0, 875), (8, 88, 127, 3, 3, 0, 1079), (8, 92, 128, 2, 0, 8, 1094), (8, 109, 118, 2, 0, 8, 1086), (8, 113, 124, 4, 0, 8, 1124), (8, 120, 148, 3, 3, 0, 1109), (8, 124, 135, 3, 0, 8, 1120), (8, 130, 137, 3, 0, 8, 1112), (8, 133, 152, 3, 0, 8, 1116), (8, 136, 156, 2, 0, 8, 1102), (8, 172, 157, 2, 0, 8, 1098), (8, 175, 123, 2, 0, 8, 1144), (8, 178, 111, 2, 0, 8, 1159), (8, 181, 141, 4, 0, 8, 1180), (8, 186, 110, 3, 0, 8, 1210), (8, 189, 146, 2, 0, 8, 1218), (8, 192, 115, 3, 0, 8, 1214), (8, 198, 129, 2, 0, 8, 1189), (8, 201, 113, 3, 0, 8, 1176), (8, 204, 145, 1, 0, 8, 1185), (8, 208, 130, 2, 0, 8, 1193), (8, 212, 136, 5, 0, 8, 1202), (8, 215, 117, 2, 0, 8, 1206), (8, 218, 133, 3, 0, 8, 1246), (8, 249, 164, 3, 0, 8, 1291), (8, 252, 142, 3, 0, 8, 1287), (8, 255, 144, 3, 0, 8, 1295), (8, 267, 143, 1, 0, 8, 1283), (8, 291, 131, 4, 0, 8, 1331), (8, 294, 162, 2, 0, 8, 1375), (8, 309, 138, 2, 0, 8, 1371), (8, 312, 167, 3, 0, 8, 1391), (9, 7, 39, 2, 0, 7, 333), (9, 15, 6, 2, 0, 7, 415), (9, 21, 21, 3, 0, 7, 438), (9, 25, 35, 4, 0, 7, 572), (9, 29, 31, 5, 0, 7, 604), (9, 33, 29, 4, 0, 7, 622), (9, 36, 34, 3, 0, 7, 740), (9, 39, 36, 3, 0, 7, 751), (9, 42, 19, 5, 0, 7, 764), (9, 45, 20, 5, 0, 7, 774), (9, 48, 14, 3, 0, 7, 786), (9, 51, 28, 5, 0, 7, 861), (9, 54, 18, 4, 0, 7, 868), (9, 57, 11, 3, 0, 7, 886), (9, 60, 3, 3, 0, 7, 893), (9, 64, 38, 3, 0, 7, 900), (9, 67, 13, 3, 0, 7, 913), (9, 70, 33, 2, 0, 7, 922), (9, 73, 1, 1, 1, 7, 20), (9, 76, 108, 1, 1, 8, 951), (9, 77, 107, 2, 4, 0, 329), (9, 82, 163, 2, 0, 8, 1075), (9, 83, 159, 1, 0, 8, 1071), (9, 87, 91, 3, 4, 0, 411), (9, 90, 116, 2, 0, 8, 1082), (9, 91, 98, 4, 4, 0, 435), (9, 94, 140, 3, 0, 8, 1090), (9, 95, 104, 5, 4, 0, 569), (9, 98, 158, 4, 0, 8, 1164), (9, 99, 101, 6, 4, 0, 601), (9, 102, 153, 5, 0, 8, 1168), (9, 103, 100, 5, 4, 0, 619), (9, 105, 151, 4, 0, 8, 1172), (9, 106, 103, 4, 4, 0, 737), (9, 108, 155, 3, 0, 8, 1238), (9, 109, 105, 4, 4, 0, 748), (9, 111, 160, 3, 0, 8, 1242), (9, 112, 96, 6, 4, 0, 761), (9, 114, 134, 5, 0, 8, 1250), (9, 115, 97, 6, 4, 0, 771), (9, 117, 139, 5, 0, 8, 1255), (9, 118, 9, 6, 0, 7, 270), (9, 122, 120, 6, 0, 8, 1275), (9, 123, 94, 4, 4, 0, 783), (9, 125, 125, 3, 0, 8, 1279), (9, 126, 8, 1, 0, 7, 278), (9, 129, 119, 1, 0, 8, 1319), (9, 130, 99, 6, 4, 0, 858), (9, 132, 150, 5, 0, 8, 1323), (9, 133, 95, 5, 4, 0, 865), (9, 135, 132, 4, 0, 8, 1327), (9, 136, 92, 4, 4, 0, 883), (9, 138, 121, 3, 0, 8, 1339), (9, 139, 90, 4, 4, 0, 890), (9, 141, 112, 3, 0, 8, 1343), (9, 142, 106, 4, 4, 0, 897), (9, 144, 161, 3, 0, 8, 1347), (9, 145, 93, 4, 4, 0, 910), (9, 147, 122, 3, 0, 8, 1351), (9, 148, 27, 2, 0, 7, 282), (9, 151, 149, 2, 0, 8, 1355), (9, 152, 2, 4, 0, 7, 297), (9, 155, 109, 4, 0, 8, 1359), (9, 156, 5, 1, 0, 7, 305), (9, 159, 114, 1, 0, 8, 1363), (9, 160, 102, 3, 4, 0, 919), (9, 162, 154, 2, 0, 8, 1367), (9, 163, 15, 1, 0, 7, 313), (9, 166, 126, 1, 0, 8, 1387), (9, 167, 26, 1, 0, 7, 325), (9, 171, 147, 1, 0, 8, 1395)]
def ai_lth : List (Nat × Nat × Nat × Nat × Nat × Nat × Nat) := [(7, 83, 3, 0, 85, 87, 337), (7, 83, 3, 9, 237, 87, 337), (7, 99, 2, 1, 101, 103, 419), (7, 99, 2, 2, 315, 103, 419), (7, 99, 2, 3, 132, 103, 419), (7, 99, 2, 4, 137, 103, 419), (7, 99, 2, 6, 317, 103, 419), (7, 99, 2, 10, 264, 103, 419), (7, 99, 2, 11, 266, 103, 419), (7, 99, 2, 12, 271, 103, 419), (7, 99, 2, 13, 300, 103, 419)]
def ai_ltw : List (Nat × Nat × Nat) := [(7, 87, 3), (7, 103, 2)]
def ai_mw : List (Nat × Nat × Nat × Nat × Nat × Nat) := [(0, 0, 0, 0, 1, 9), (22, 1, 21, 0, 0, 3), (300, 1, 298, 299, 3, 0), (896, 1, 894, 895, 2, 0), (770, 1, 769, 0, 4, 1), (308, 1, 306, 307, 0, 0), (418, 1, 416, 417, 1, 0), (874, 1, 873, 0, 2, 1), (281, 1, 279, 280, 0, 0), (273, 1, 271, 272, 5, 0), (277, 1, 276, 5000, 1, 0), (889, 1, 887, 888, 2, 0), (881, 1, 880, 0, 3, 1), (916, 1, 914, 915, 2, 0), (789, 1, 787, 788, 2, 0), (316, 1, 314, 315, 0, 0), (877, 1, 876, 0, 3, 1), (288, 1, 287, 0, 1, 1), (871, 1, 869, 870, 3, 0), (767, 1, 765, 766, 4, 0), (777, 1, 775, 776, 4, 0), (441, 1, 439, 440, 2, 0), (445, 1, 444, 5003, 1, 0), (673, 1, 672, 5018, 1, 0), (296, 1, 295, 5001, 1, 0), (841, 1, 840, 5033, 2, 0), (328, 1, 326, 327, 0, 0), (285, 1, 283, 284, 1, 0), (864, 1, 862, 863, 4, 0), (625, 1, 623, 624, 3, 0), (479, 1, 478, 0, 2, 1), (607, 1, 605, 606, 4, 0), (611, 1, 610, 5017, 3, 0), (925, 1, 923, 924, 1, 0), (743, 1, 741, 742, 2, 0), (575, 1, 573, 574, 3, 0), (754, 1, 752, 753, 2, 0), (454, 1, 453, 5004, 1, 0), (903, 1, 901, 902, 2, 0), (336, 1, 334, 335, 1, 0), (110, 5, 109, 0, 0, 3), (794, 5, 792, 793, 3, 0), (807, 5, 806, 5025, 2, 0), (803, 5, 802, 5024, 0, 0), (799, 5, 798, 5023, 2, 0), (820, 5, 819, 5028, 2, 0), (816, 5, 815, 5027, 2, 0), (811, 5, 810, 5026, 3, 0), (837, 5, 836, 5032, 0, 0), (76, 3, 75, 0, 0, 3), (634, 3, 632, 633, 2, 0), (651, 3, 649, 650, 1, 0), (97, 4, 96, 0, 0, 3), (655, 4, 653, 654, 2, 0), (677, 4, 675, 676, 0, 0), (659, 4, 657, 658, 1, 0), (669, 4, 667, 668, 1, 0), (664, 4, 662, 663, 1, 0), (194, 7, 193, 0, 1, 3), (629, 7, 627, 628, 0, 0), (320, 7, 318, 319, 1, 0), (721, 7, 720, 5019, 0, 0), (407, 7, 405, 406, 0, 0), (707, 7, 705, 706, 1, 0), (729, 7, 728, 5020, 0, 0), (717, 7, 715, 716, 0, 0), (475, 7, 473, 474, 2, 0), (450, 7, 448, 449, 1, 0), (682, 16, 681, 0, 2, 3), (526, 16, 524, 525, 0, 0), (466, 16, 464, 465, 1, 0), (725, 16, 723, 724, 0, 0), (530, 16, 528, 529, 1, 0), (711, 16, 709, 710, 0, 0), (142, 6, 141, 0, 0, 3), (304, 6, 302, 303, 3, 0), (292, 6, 290, 291, 1, 0), (312, 6, 310, 311, 0, 0), (938, 6, 937, 5036, 1, 0), (929, 6, 927, 928, 0, 0), (933, 6, 932, 5035, 1, 0), (32, 2, 31, 0, 0, 3), (493, 2, 492, 5007, 1, 0), (551, 2, 549, 550, 2, 0), (908, 2, 906, 907, 1, 0), (458, 2, 456, 457, 1, 0), (534, 2, 533, 5011, 0, 0), (547, 2, 546, 5013, 0, 0), (579, 2, 577, 578, 1, 0), (470, 2, 469, 5005, 1, 0), (892, 0, 891, 0, 4, 2), (413, 0, 412, 0, 3, 2), (885, 0, 884, 0, 4, 2), (912, 0, 911, 0, 4, 2), (785, 0, 784, 0, 4, 2), (867, 0, 866, 0, 5, 2), (763, 0, 762, 0, 6, 2), (773, 0, 772, 0, 6, 2), (437, 0, 436, 0, 4, 2), (860, 0, 859, 0, 6, 2), (621, 0, 620, 0, 5, 2), (603, 0, 602, 0, 6, 2), (921, 0, 920, 0, 3, 2), (739, 0, 738, 0, 4, 2), (571, 0, 570, 0, 5, 2), (750, 0, 749, 0, 4, 2), (899, 0, 898, 0, 4, 2), (331, 0, 330, 0, 2, 2), (953, 8, 952, 0, 0, 3), (1362, 8, 1360, 1361, 3, 0), (1213, 8, 1212, 5063, 2, 0), (1162, 8, 1161, 5054, 1, 0), (1346, 8, 1344, 1345, 2, 0), (1179, 8, 1178, 5055, 2, 0), (1366, 8, 1364, 1365, 0, 0), (1217, 8, 1216, 5064, 2, 0), (1085, 8, 1083, 1084, 1, 0), (1209, 8, 1208, 5062, 1, 0), (1089, 8, 1088, 5039, 1, 0), (1322, 8, 1320, 1321, 0, 0), (1278, 8, 1276, 1277, 5, 0), (1342, 8, 1340, 1341, 2, 0), (1354, 8, 1352, 1353, 2, 0), (1147, 8, 1146, 5051, 1, 0), (1127, 8, 1126, 5046, 3, 0), (1282, 8, 1280, 1281, 2, 0), (1390, 8, 1388, 1389, 0, 0), (1081, 8, 1080, 0, 3, 1), (1097, 8, 1096, 5040, 1, 0), (1192, 8, 1191, 5058, 1, 0), (1196, 8, 1195, 5059, 1, 0), (1334, 8, 1333, 5084, 3, 0), (1330, 8, 1328, 1329, 3, 0), (1249, 8, 1248, 5070, 2, 0), (1253, 8, 1251, 1252, 4, 0), (1123, 8, 1122, 5045, 2, 0), (1205, 8, 1204, 5061, 4, 0), (1115, 8, 1114, 5043, 2, 0), (1374, 8, 1373, 5086, 1, 0), (1258, 8, 1256, 1257, 4, 0), (1093, 8, 1091, 1092, 2, 0), (1183, 8, 1182, 5056, 3, 0), (1290, 8, 1289, 5076, 2, 0), (1286, 8, 1285, 5075, 0, 0), (1298, 8, 1297, 5078, 2, 0), (1188, 8, 1187, 5057, 0, 0), (1221, 8, 1220, 5065, 1, 0), (1398, 8, 1396, 1397, 0, 0), (1111, 8, 1110, 0, 3, 1), (1358, 8, 1356, 1357, 1, 0), (1326, 8, 1324, 1325, 4, 0), (1175, 8, 1173, 1174, 3, 0), (1119, 8, 1118, 5044, 2, 0), (1171, 8, 1169, 1170, 4, 0), (1370, 8, 1368, 1369, 1, 0), (1241, 8, 1239, 1240, 2, 0), (1105, 8, 1104, 5042, 1, 0), (1101, 8, 1100, 5041, 1, 0), (1167, 8, 1165, 1166, 3, 0), (1074, 8, 1072, 1073, 0, 0), (1245, 8, 1243, 1244, 2, 0), (1350, 8, 1348, 1349, 2, 0), (1378, 8, 1377, 5087, 1, 0), (1078, 8, 1076, 1077, 1, 0), (1294, 8, 1293, 5077, 2, 0), (690, 13, 689, 0, 2, 1), (410, 13, 409, 0, 2, 1), (1394, 8, 1393, 5090, 2, 0)]
def ai_lmm : List (Nat × Nat × Nat × Nat) := [(0, 37, 9, 795), (3, 86, 8, 713), (4, 9, 9, 684), (4, 15, 8, 685), (5, 59, 8, 934), (8, 156, 8, 1163), (11, 304, 9, 698)]
def ai_up : List (List Nat) := [[121, 123, 125, 127, 129, 131, 133, 135], [84, 86, 88, 90], [101, 103], [211, 213, 215, 217, 219, 221], [701], [164, 166, 168, 170, 172, 174, 176, 178, 180, 182, 184, 186, 188], [51, 53, 55, 57, 59, 61, 63, 65, 67], [239, 241, 243, 245, 247, 249, 251, 253, 255, 257, 259, 261, 263, 265, 267], [994, 996, 998, 1000, 1002, 1004, 1006, 1008, 1010, 1012, 1014, 1016, 1018, 1020, 1022, 1024, 1026, 1028, 1030, 1032, 1034, 1036, 1038, 1040, 1042, 1044, 1046, 1048, 1050, 1052, 1054, 1056, 1058, 1060, 1062, 1064, 1066, 1068]]
def ai_cn (oc : Nat) : String := (ai_cns[oc]?).getD ""
theorem ai_tm {i : Nat} {w : Cond} (h : tables_1[i]? = some w) : w ∈ lw_tbl := List.mem_append_right _ (List.mem_of_getElem? h)
def ai_tw (i : Nat) (w : Cond) : Bool := decide (tables_1[i]? = some w)
theorem ai_tw_in {i : Nat} {w : Cond} (h : ai_tw i w = true) : w ∈ lw_tbl := ai_tm (of_decide_eq_true h)
-- fields
def ai_bU (ci : Nat) : Bool := match vwCl[ci]?, ai_up[ci]? with
  | some (C, T, N), some ps => (List.range N).all (fun k => match ps[k]? with
    | some i => ai_tw i (u_lay C T k) && (u_lay C T k).onTables
    | none => false)
  | _, _ => false
theorem ai_bU_ok : (List.range 9).all ai_bU = true := by decide +kernel
def ai_bG (q : Nat × Nat × Nat × Nat × Nat × Nat) : Bool := match q with
  | (oc, idx, ci, k, pos, nest) => match vwCl[ci]? with
    | some (_, T, N) => decide (k < N) && cond (Nat.beq nest 0) (ai_tw pos (.fieldLink (ai_cn oc) idx (T k).1 (T k).2.1 (T k).2.2.1)) (ai_tw pos (.fieldLinkNest (ai_cn oc) idx (T k).1 (T k).2.1 (T k).2.2.1 "PenPage"))
    | none => false
theorem ai_bG_ok : ai_lg.all ai_bG = true := by decide +kernel
def ai_ty0 (T : u_T) (k : Nat) : FieldType := (parseFieldDescriptor (T k).2.2.1).getD .int
def ai_btyOK (t : Nat) (ty : FieldType) : Bool := match t, ty with
  | 0, .int => true
  | 1, .boolean => true
  | 2, .object _ => true
  | 2, .array _ => true
  | _, _ => false
def ai_bP (q : Nat × Nat × Nat × Nat × Nat × Nat × Nat) : Bool := match q with
  | (oc, idx, ci, k, t, pos, fin) => match vwCl[ci]? with
    | some (_, T, N) => decide (k < N) && ai_tw pos (.fieldLink (ai_cn oc) idx (T k).1 (T k).2.1 (T k).2.2.1) && ai_btyOK t (ai_ty0 T k) && (!(T k).2.2.2 || (Nat.beq fin 1 && decide ((T k).1 = ai_cn oc)))
    | none => false
theorem ai_bP_ok : ai_lp.all ai_bP = true := by decide +kernel
def ai_bT (ci : Nat) : Bool := match vwCl[ci]? with
  | some (_, T, N) => (List.range N).all (fun k => (parseFieldDescriptor (T k).2.2.1).isSome)
  | none => false
theorem ai_bT_ok : (List.range 9).all ai_bT = true := by decide +kernel
-- new objects and arrays
def ai_dv (v : ai_V) : Value := if v.1 = 0 then .int 0 else .null
def ai_bN (q : Nat × Nat × Nat × Nat × Nat × Nat) : Bool := match q with
  | (oc, idx, ci, p1, p2, p3) => match vwCl[ci]? with
    | some (C, T, N) => ai_tw p1 (.classLink (ai_cn oc) idx C) && ai_tw p2 (.instantiable C N) && ai_tw p3 (.initialized C) && decide ((ai_fld ci).length = N) && (ai_fld ci).all (fun v => decide (v = ai_i 0 ∨ v = ai_nul)) && (List.range N).all (fun j => decide (defaultValue (ai_ty0 T j) = vp_V ((ai_fld ci).map ai_dv) j))
    | none => false
theorem ai_bN_ok : ai_ln.all ai_bN = true := by decide +kernel
def ai_bA (q : Nat × Nat × Nat × Nat) : Bool := match q with
  | (oc, idx, t, pos) => cond (Nat.beq t 4) (ai_tw pos (.classLink (ai_cn oc) idx "PenPage$Page")) (Nat.beq t 5 && ai_tw pos (.classLink (ai_cn oc) idx "PenPage$Step"))
theorem ai_bA_ok : ai_la.all ai_bA = true := by decide +kernel
def ai_bMn (q : Nat × Nat × Nat) : Bool := match q with
  | (oc, idx, pos) => ai_tw pos (.classLink (ai_cn oc) idx ("[" ++ (FieldType.array .int).toString))
theorem ai_bMn_ok : ai_lm.all ai_bMn = true := by decide +kernel
def ai_bK (q : Nat × Nat × Nat × Nat) : Bool := match q with
  | (oc, idx, v, pos) => ai_tw pos (.constant (ai_cn oc) idx (Int32.ofNat v)) && decide ((Int32.ofNat v).toInt = (v : Int))
theorem ai_bK_ok : ai_lcon.all ai_bK = true := by decide +kernel
def ai_bO (q : Nat × Nat × Nat) : Bool := match q with
  | (oc, idx, pos) => ai_tw pos (.methodLink (ai_cn oc) idx Lib.objectInit)
theorem ai_bO_ok : ai_loi.all ai_bO = true := by decide +kernel
theorem ai_bO1 : ai_tw 24 (.instanceMethod Lib.objectInit) = true := by decide +kernel
theorem ai_bO2 : tables_1[25]? = some (.code Lib.objectInit ⟨#[0xb1]⟩ 1 none) := by decide +kernel
def ai_bC (q : Nat × Nat × Nat) : Bool := match q with
  | (oc, idx, pos) => ai_tw pos (.methodLink (ai_cn oc) idx arraycopyName)
theorem ai_bC_ok : ai_lcp.all ai_bC = true := by decide +kernel
theorem ai_bC1 : (ai_tw 323 (.native arraycopyName) && ai_tw 322 (.static arraycopyName) && ai_tw 17 (.initialized "java/lang/System")) = true := by decide +kernel
def ai_bMM (q : Nat × Nat × Nat × Nat) : Bool := match q with
  | (oc, idx, k, pos) => cond (Nat.beq k 8) (ai_tw pos (.methodLink (ai_cn oc) idx Lib.Math.max.name)) (Nat.beq k 9 && ai_tw pos (.methodLink (ai_cn oc) idx Lib.Math.min.name))
theorem ai_bMM_ok : ai_lmm.all ai_bMM = true := by decide +kernel
theorem ai_bMM1 : (ai_tw 686 (.static Lib.Math.max.name) && ai_tw 687 (.code Lib.Math.max.name Lib.Math.max.code 2 (some .int)) && ai_tw 641 (.static Lib.Math.min.name) && ai_tw 642 (.code Lib.Math.min.name Lib.Math.min.code 2 (some .int)) && ai_tw 15 (.initialized "java/lang/Math")) = true := by decide +kernel
-- methods and calls
def ai_code (M : ai_M) : Cond := match M.2.2.2.2.2.1 with
  | [] => .code M.1 M.2.1 M.2.2.1 M.2.2.2.1
  | h :: t => .codeWith M.1 M.2.1 M.2.2.1 M.2.2.2.1 (h :: t)
def ai_bWd (M : ai_M) (q : Nat × Nat × Nat × Nat × Nat × Nat) : Bool := match q with
  | (_, p2, p3, p4, n, kind) => ai_tw p2 (.initialized M.1.cls) && plainName M.1.cls && decide (M.1.cls = ai_cn M.2.2.2.2.1) && decide (M.1.cls ≠ "java/lang/invoke/MethodHandle" ∧ M.1.cls ≠ "java/lang/invoke/VarHandle") && decide ((parseMethodDescriptor M.1.desc).map (fun d => d.parameters.length) = some n) && Nat.ble M.2.2.1 10 &&
    (match kind with
    | 0 => ai_tw p3 (.instanceMethod M.1) && (ai_tw p4 (.selects M.1.cls M.1 M.1) || decide ((k2_sels lw_privs)[p4 - 5000]? = some (.selects M.1.cls M.1 M.1))) && decide (M.2.2.2.2.2.1 = [])
    | 1 => ai_tw p3 (.static M.1) && decide (M.2.2.2.2.2.1 = [])
    | 2 => ai_tw p3 (.static M.1) && decide (M.2.2.2.2.2.1 ≠ [])
    | 3 => ai_tw p3 (.instanceMethod M.1) && decide (M.2.2.2.2.2.1 = []) && decide (M.1.name = "<init>") && decide (M.2.2.2.1 = none)
    | _ => false)
noncomputable def ai_bWds (ms : List ai_M) (qs : List (Nat × Nat × Nat × Nat × Nat × Nat)) : Bool :=
  List.rec (motive := fun _ => List (Nat × Nat × Nat × Nat × Nat × Nat) → Bool) (fun qs => qs.isEmpty) (fun M _ ih qs => List.casesOn qs false (fun q t => ai_bWd M q && ih t)) ms qs
theorem ai_bWds_ok : ai_bWds ai_meths.tail ai_mw.tail = true := by decide +kernel
theorem ai_t1_in {i : Nat} {w : Cond} (h : tables_1_1[i]? = some w) : w ∈ lw_tbl := by
  have h := List.mem_of_getElem? h
  exact List.mem_append_right _ (show w ∈ tables_1_1 ++ (tables_1_2 ++ (tables_1_3 ++ (tables_1_4 ++ (tables_1_5 ++ tables_1_6)))) from List.mem_append_left _ h)
theorem ai_t2_in {i : Nat} {w : Cond} (h : tables_1_2[i]? = some w) : w ∈ lw_tbl := by
  have h := List.mem_of_getElem? h
  exact List.mem_append_right _ (show w ∈ tables_1_1 ++ (tables_1_2 ++ (tables_1_3 ++ (tables_1_4 ++ (tables_1_5 ++ tables_1_6)))) from List.mem_append_right _ (List.mem_append_left _ h))
theorem ai_t3_in {i : Nat} {w : Cond} (h : tables_1_3[i]? = some w) : w ∈ lw_tbl := by
  have h := List.mem_of_getElem? h
  exact List.mem_append_right _ (show w ∈ tables_1_1 ++ (tables_1_2 ++ (tables_1_3 ++ (tables_1_4 ++ (tables_1_5 ++ tables_1_6)))) from List.mem_append_right _ (List.mem_append_right _ (List.mem_append_left _ h)))
theorem ai_t4_in {i : Nat} {w : Cond} (h : tables_1_4[i]? = some w) : w ∈ lw_tbl := by
  have h := List.mem_of_getElem? h
  exact List.mem_append_right _ (show w ∈ tables_1_1 ++ (tables_1_2 ++ (tables_1_3 ++ (tables_1_4 ++ (tables_1_5 ++ tables_1_6)))) from List.mem_append_right _ (List.mem_append_right _ (List.mem_append_right _ (List.mem_append_left _ h))))
theorem ai_t5_in {i : Nat} {w : Cond} (h : tables_1_5[i]? = some w) : w ∈ lw_tbl := by
  have h := List.mem_of_getElem? h
  exact List.mem_append_right _ (show w ∈ tables_1_1 ++ (tables_1_2 ++ (tables_1_3 ++ (tables_1_4 ++ (tables_1_5 ++ tables_1_6)))) from List.mem_append_right _ (List.mem_append_right _ (List.mem_append_right _ (List.mem_append_right _ (List.mem_append_left _ h)))))
theorem ai_t6_in {i : Nat} {w : Cond} (h : tables_1_6[i]? = some w) : w ∈ lw_tbl := by
  have h := List.mem_of_getElem? h
  exact List.mem_append_right _ (show w ∈ tables_1_1 ++ (tables_1_2 ++ (tables_1_3 ++ (tables_1_4 ++ (tables_1_5 ++ tables_1_6)))) from List.mem_append_right _ (List.mem_append_right _ (List.mem_append_right _ (List.mem_append_right _ (List.mem_append_right _ (h))))))
theorem ai_mc1 : ai_code ai_m1 ∈ lw_tbl := ai_t1_in (i := 22) rfl
theorem ai_mc2 : ai_code ai_m2 ∈ lw_tbl := ai_t2_in (i := 60) rfl
theorem ai_mc3 : ai_code ai_m3 ∈ lw_tbl := ai_t4_in (i := 176) rfl
theorem ai_mc4 : ai_code ai_m4 ∈ lw_tbl := ai_t4_in (i := 50) rfl
theorem ai_mc5 : ai_code ai_m5 ∈ lw_tbl := ai_t2_in (i := 68) rfl
theorem ai_mc6 : ai_code ai_m6 ∈ lw_tbl := ai_t2_in (i := 178) rfl
theorem ai_mc7 : ai_code ai_m7 ∈ lw_tbl := ai_t4_in (i := 154) rfl
theorem ai_mc8 : ai_code ai_m8 ∈ lw_tbl := ai_t2_in (i := 41) rfl
theorem ai_mc9 : ai_code ai_m9 ∈ lw_tbl := ai_t2_in (i := 33) rfl
theorem ai_mc10 : ai_code ai_m10 ∈ lw_tbl := ai_t2_in (i := 37) rfl
theorem ai_mc11 : ai_code ai_m11 ∈ lw_tbl := ai_t4_in (i := 169) rfl
theorem ai_mc12 : ai_code ai_m12 ∈ lw_tbl := ai_t4_in (i := 161) rfl
theorem ai_mc13 : ai_code ai_m13 ∈ lw_tbl := ai_t4_in (i := 196) rfl
theorem ai_mc14 : ai_code ai_m14 ∈ lw_tbl := ai_t4_in (i := 69) rfl
theorem ai_mc15 : ai_code ai_m15 ∈ lw_tbl := ai_t2_in (i := 76) rfl
theorem ai_mc16 : ai_code ai_m16 ∈ lw_tbl := ai_t4_in (i := 157) rfl
theorem ai_mc17 : ai_code ai_m17 ∈ lw_tbl := ai_t2_in (i := 48) rfl
theorem ai_mc18 : ai_code ai_m18 ∈ lw_tbl := ai_t4_in (i := 151) rfl
theorem ai_mc19 : ai_code ai_m19 ∈ lw_tbl := ai_t4_in (i := 47) rfl
theorem ai_mc20 : ai_code ai_m20 ∈ lw_tbl := ai_t4_in (i := 57) rfl
theorem ai_mc21 : ai_code ai_m21 ∈ lw_tbl := ai_t2_in (i := 201) rfl
theorem ai_mc22 : ai_code ai_m22 ∈ lw_tbl := ai_t2_in (i := 205) rfl
theorem ai_mc23 : ai_code ai_m23 ∈ lw_tbl := ai_t3_in (i := 193) rfl
theorem ai_mc24 : ai_code ai_m24 ∈ lw_tbl := ai_t2_in (i := 56) rfl
theorem ai_mc25 : ai_code ai_m25 ∈ lw_tbl := ai_t4_in (i := 121) rfl
theorem ai_mc26 : ai_code ai_m26 ∈ lw_tbl := ai_t2_in (i := 88) rfl
theorem ai_mc27 : ai_code ai_m27 ∈ lw_tbl := ai_t2_in (i := 45) rfl
theorem ai_mc28 : ai_code ai_m28 ∈ lw_tbl := ai_t4_in (i := 144) rfl
theorem ai_mc29 : ai_code ai_m29 ∈ lw_tbl := ai_t3_in (i := 145) rfl
theorem ai_mc30 : ai_code ai_m30 ∈ lw_tbl := ai_t2_in (i := 239) rfl
theorem ai_mc31 : ai_code ai_m31 ∈ lw_tbl := ai_t3_in (i := 127) rfl
theorem ai_mc32 : ai_code ai_m32 ∈ lw_tbl := ai_t3_in (i := 131) rfl
theorem ai_mc33 : ai_code ai_m33 ∈ lw_tbl := ai_t4_in (i := 205) rfl
theorem ai_mc34 : ai_code ai_m34 ∈ lw_tbl := ai_t4_in (i := 23) rfl
theorem ai_mc35 : ai_code ai_m35 ∈ lw_tbl := ai_t3_in (i := 95) rfl
theorem ai_mc36 : ai_code ai_m36 ∈ lw_tbl := ai_t4_in (i := 34) rfl
theorem ai_mc37 : ai_code ai_m37 ∈ lw_tbl := ai_t2_in (i := 214) rfl
theorem ai_mc38 : ai_code ai_m38 ∈ lw_tbl := ai_t4_in (i := 183) rfl
theorem ai_mc39 : ai_code ai_m39 ∈ lw_tbl := ai_t2_in (i := 96) rfl
theorem ai_mc40 : ai_code ai_m40 ∈ lw_tbl := ai_t1_in (i := 110) rfl
theorem ai_mc41 : ai_code ai_m41 ∈ lw_tbl := ai_t4_in (i := 74) rfl
theorem ai_mc42 : ai_code ai_m42 ∈ lw_tbl := ai_t4_in (i := 87) rfl
theorem ai_mc43 : ai_code ai_m43 ∈ lw_tbl := ai_t4_in (i := 83) rfl
theorem ai_mc44 : ai_code ai_m44 ∈ lw_tbl := ai_t4_in (i := 79) rfl
theorem ai_mc45 : ai_code ai_m45 ∈ lw_tbl := ai_t4_in (i := 100) rfl
theorem ai_mc46 : ai_code ai_m46 ∈ lw_tbl := ai_t4_in (i := 96) rfl
theorem ai_mc47 : ai_code ai_m47 ∈ lw_tbl := ai_t4_in (i := 91) rfl
theorem ai_mc48 : ai_code ai_m48 ∈ lw_tbl := ai_t4_in (i := 117) rfl
theorem ai_mc49 : ai_code ai_m49 ∈ lw_tbl := ai_t1_in (i := 76) rfl
theorem ai_mc50 : ai_code ai_m50 ∈ lw_tbl := ai_t3_in (i := 154) rfl
theorem ai_mc51 : ai_code ai_m51 ∈ lw_tbl := ai_t3_in (i := 171) rfl
theorem ai_mc52 : ai_code ai_m52 ∈ lw_tbl := ai_t1_in (i := 97) rfl
theorem ai_mc53 : ai_code ai_m53 ∈ lw_tbl := ai_t3_in (i := 175) rfl
theorem ai_mc54 : ai_code ai_m54 ∈ lw_tbl := ai_t3_in (i := 197) rfl
theorem ai_mc55 : ai_code ai_m55 ∈ lw_tbl := ai_t3_in (i := 179) rfl
theorem ai_mc56 : ai_code ai_m56 ∈ lw_tbl := ai_t3_in (i := 189) rfl
theorem ai_mc57 : ai_code ai_m57 ∈ lw_tbl := ai_t3_in (i := 184) rfl
theorem ai_mc58 : ai_code ai_m58 ∈ lw_tbl := ai_t1_in (i := 194) rfl
theorem ai_mc59 : ai_code ai_m59 ∈ lw_tbl := ai_t3_in (i := 149) rfl
theorem ai_mc60 : ai_code ai_m60 ∈ lw_tbl := ai_t2_in (i := 80) rfl
theorem ai_mc61 : ai_code ai_m61 ∈ lw_tbl := ai_t4_in (i := 1) rfl
theorem ai_mc62 : ai_code ai_m62 ∈ lw_tbl := ai_t2_in (i := 167) rfl
theorem ai_mc63 : ai_code ai_m63 ∈ lw_tbl := ai_t3_in (i := 227) rfl
theorem ai_mc64 : ai_code ai_m64 ∈ lw_tbl := ai_t4_in (i := 9) rfl
theorem ai_mc65 : ai_code ai_m65 ∈ lw_tbl := ai_t3_in (i := 237) rfl
theorem ai_mc66 : ai_code ai_m66 ∈ lw_tbl := ai_t2_in (i := 235) rfl
theorem ai_mc67 : ai_code ai_m67 ∈ lw_tbl := ai_t2_in (i := 210) rfl
theorem ai_mc68 : ai_code ai_m68 ∈ lw_tbl := ai_t3_in (i := 202) rfl
theorem ai_mc69 : ai_code ai_m69 ∈ lw_tbl := ai_t3_in (i := 46) rfl
theorem ai_mc70 : ai_code ai_m70 ∈ lw_tbl := ai_t2_in (i := 226) rfl
theorem ai_mc71 : ai_code ai_m71 ∈ lw_tbl := ai_t4_in (i := 5) rfl
theorem ai_mc72 : ai_code ai_m72 ∈ lw_tbl := ai_t3_in (i := 50) rfl
theorem ai_mc73 : ai_code ai_m73 ∈ lw_tbl := ai_t3_in (i := 231) rfl
theorem ai_mc74 : ai_code ai_m74 ∈ lw_tbl := ai_t1_in (i := 142) rfl
theorem ai_mc75 : ai_code ai_m75 ∈ lw_tbl := ai_t2_in (i := 64) rfl
theorem ai_mc76 : ai_code ai_m76 ∈ lw_tbl := ai_t2_in (i := 52) rfl
theorem ai_mc77 : ai_code ai_m77 ∈ lw_tbl := ai_t2_in (i := 72) rfl
theorem ai_mc78 : ai_code ai_m78 ∈ lw_tbl := ai_t4_in (i := 218) rfl
theorem ai_mc79 : ai_code ai_m79 ∈ lw_tbl := ai_t4_in (i := 209) rfl
theorem ai_mc80 : ai_code ai_m80 ∈ lw_tbl := ai_t4_in (i := 213) rfl
theorem ai_mc81 : ai_code ai_m81 ∈ lw_tbl := ai_t1_in (i := 32) rfl
theorem ai_mc82 : ai_code ai_m82 ∈ lw_tbl := ai_t3_in (i := 13) rfl
theorem ai_mc83 : ai_code ai_m83 ∈ lw_tbl := ai_t3_in (i := 71) rfl
theorem ai_mc84 : ai_code ai_m84 ∈ lw_tbl := ai_t4_in (i := 188) rfl
theorem ai_mc85 : ai_code ai_m85 ∈ lw_tbl := ai_t2_in (i := 218) rfl
theorem ai_mc86 : ai_code ai_m86 ∈ lw_tbl := ai_t3_in (i := 54) rfl
theorem ai_mc87 : ai_code ai_m87 ∈ lw_tbl := ai_t3_in (i := 67) rfl
theorem ai_mc88 : ai_code ai_m88 ∈ lw_tbl := ai_t3_in (i := 99) rfl
theorem ai_mc89 : ai_code ai_m89 ∈ lw_tbl := ai_t2_in (i := 230) rfl
theorem ai_mc90 : ai_code ai_m90 ∈ lw_tbl := ai_t4_in (i := 172) rfl
theorem ai_mc91 : ai_code ai_m91 ∈ lw_tbl := ai_t2_in (i := 173) rfl
theorem ai_mc92 : ai_code ai_m92 ∈ lw_tbl := ai_t4_in (i := 165) rfl
theorem ai_mc93 : ai_code ai_m93 ∈ lw_tbl := ai_t4_in (i := 192) rfl
theorem ai_mc94 : ai_code ai_m94 ∈ lw_tbl := ai_t4_in (i := 65) rfl
theorem ai_mc95 : ai_code ai_m95 ∈ lw_tbl := ai_t4_in (i := 147) rfl
theorem ai_mc96 : ai_code ai_m96 ∈ lw_tbl := ai_t4_in (i := 43) rfl
theorem ai_mc97 : ai_code ai_m97 ∈ lw_tbl := ai_t4_in (i := 53) rfl
theorem ai_mc98 : ai_code ai_m98 ∈ lw_tbl := ai_t2_in (i := 197) rfl
theorem ai_mc99 : ai_code ai_m99 ∈ lw_tbl := ai_t4_in (i := 140) rfl
theorem ai_mc100 : ai_code ai_m100 ∈ lw_tbl := ai_t3_in (i := 141) rfl
theorem ai_mc101 : ai_code ai_m101 ∈ lw_tbl := ai_t3_in (i := 123) rfl
theorem ai_mc102 : ai_code ai_m102 ∈ lw_tbl := ai_t4_in (i := 201) rfl
theorem ai_mc103 : ai_code ai_m103 ∈ lw_tbl := ai_t4_in (i := 19) rfl
theorem ai_mc104 : ai_code ai_m104 ∈ lw_tbl := ai_t3_in (i := 91) rfl
theorem ai_mc105 : ai_code ai_m105 ∈ lw_tbl := ai_t4_in (i := 30) rfl
theorem ai_mc106 : ai_code ai_m106 ∈ lw_tbl := ai_t4_in (i := 179) rfl
theorem ai_mc107 : ai_code ai_m107 ∈ lw_tbl := ai_t2_in (i := 91) rfl
theorem ai_mc108 : ai_code ai_m108 ∈ lw_tbl := ai_t4_in (i := 233) rfl
theorem ai_mc109 : ai_code ai_m109 ∈ lw_tbl := ai_t6_in (i := 162) rfl
theorem ai_mc110 : ai_code ai_m110 ∈ lw_tbl := ai_t6_in (i := 13) rfl
theorem ai_mc111 : ai_code ai_m111 ∈ lw_tbl := ai_t5_in (i := 202) rfl
theorem ai_mc112 : ai_code ai_m112 ∈ lw_tbl := ai_t6_in (i := 146) rfl
theorem ai_mc113 : ai_code ai_m113 ∈ lw_tbl := ai_t5_in (i := 219) rfl
theorem ai_mc114 : ai_code ai_m114 ∈ lw_tbl := ai_t6_in (i := 166) rfl
theorem ai_mc115 : ai_code ai_m115 ∈ lw_tbl := ai_t6_in (i := 17) rfl
theorem ai_mc116 : ai_code ai_m116 ∈ lw_tbl := ai_t5_in (i := 125) rfl
theorem ai_mc117 : ai_code ai_m117 ∈ lw_tbl := ai_t6_in (i := 9) rfl
theorem ai_mc118 : ai_code ai_m118 ∈ lw_tbl := ai_t5_in (i := 129) rfl
theorem ai_mc119 : ai_code ai_m119 ∈ lw_tbl := ai_t6_in (i := 122) rfl
theorem ai_mc120 : ai_code ai_m120 ∈ lw_tbl := ai_t6_in (i := 78) rfl
theorem ai_mc121 : ai_code ai_m121 ∈ lw_tbl := ai_t6_in (i := 142) rfl
theorem ai_mc122 : ai_code ai_m122 ∈ lw_tbl := ai_t6_in (i := 154) rfl
theorem ai_mc123 : ai_code ai_m123 ∈ lw_tbl := ai_t5_in (i := 187) rfl
theorem ai_mc124 : ai_code ai_m124 ∈ lw_tbl := ai_t5_in (i := 167) rfl
theorem ai_mc125 : ai_code ai_m125 ∈ lw_tbl := ai_t6_in (i := 82) rfl
theorem ai_mc126 : ai_code ai_m126 ∈ lw_tbl := ai_t6_in (i := 190) rfl
theorem ai_mc127 : ai_code ai_m127 ∈ lw_tbl := ai_t5_in (i := 121) rfl
theorem ai_mc128 : ai_code ai_m128 ∈ lw_tbl := ai_t5_in (i := 137) rfl
theorem ai_mc129 : ai_code ai_m129 ∈ lw_tbl := ai_t5_in (i := 232) rfl
theorem ai_mc130 : ai_code ai_m130 ∈ lw_tbl := ai_t5_in (i := 236) rfl
theorem ai_mc131 : ai_code ai_m131 ∈ lw_tbl := ai_t6_in (i := 134) rfl
theorem ai_mc132 : ai_code ai_m132 ∈ lw_tbl := ai_t6_in (i := 130) rfl
theorem ai_mc133 : ai_code ai_m133 ∈ lw_tbl := ai_t6_in (i := 49) rfl
theorem ai_mc134 : ai_code ai_m134 ∈ lw_tbl := ai_t6_in (i := 53) rfl
theorem ai_mc135 : ai_code ai_m135 ∈ lw_tbl := ai_t5_in (i := 163) rfl
theorem ai_mc136 : ai_code ai_m136 ∈ lw_tbl := ai_t6_in (i := 5) rfl
theorem ai_mc137 : ai_code ai_m137 ∈ lw_tbl := ai_t5_in (i := 155) rfl
theorem ai_mc138 : ai_code ai_m138 ∈ lw_tbl := ai_t6_in (i := 174) rfl
theorem ai_mc139 : ai_code ai_m139 ∈ lw_tbl := ai_t6_in (i := 58) rfl
theorem ai_mc140 : ai_code ai_m140 ∈ lw_tbl := ai_t5_in (i := 133) rfl
theorem ai_mc141 : ai_code ai_m141 ∈ lw_tbl := ai_t5_in (i := 223) rfl
theorem ai_mc142 : ai_code ai_m142 ∈ lw_tbl := ai_t6_in (i := 90) rfl
theorem ai_mc143 : ai_code ai_m143 ∈ lw_tbl := ai_t6_in (i := 86) rfl
theorem ai_mc144 : ai_code ai_m144 ∈ lw_tbl := ai_t6_in (i := 98) rfl
theorem ai_mc145 : ai_code ai_m145 ∈ lw_tbl := ai_t5_in (i := 228) rfl
theorem ai_mc146 : ai_code ai_m146 ∈ lw_tbl := ai_t6_in (i := 21) rfl
theorem ai_mc147 : ai_code ai_m147 ∈ lw_tbl := ai_t6_in (i := 198) rfl
theorem ai_mc148 : ai_code ai_m148 ∈ lw_tbl := ai_t5_in (i := 151) rfl
theorem ai_mc149 : ai_code ai_m149 ∈ lw_tbl := ai_t6_in (i := 158) rfl
theorem ai_mc150 : ai_code ai_m150 ∈ lw_tbl := ai_t6_in (i := 126) rfl
theorem ai_mc151 : ai_code ai_m151 ∈ lw_tbl := ai_t5_in (i := 215) rfl
theorem ai_mc152 : ai_code ai_m152 ∈ lw_tbl := ai_t5_in (i := 159) rfl
theorem ai_mc153 : ai_code ai_m153 ∈ lw_tbl := ai_t5_in (i := 211) rfl
theorem ai_mc154 : ai_code ai_m154 ∈ lw_tbl := ai_t6_in (i := 170) rfl
theorem ai_mc155 : ai_code ai_m155 ∈ lw_tbl := ai_t6_in (i := 41) rfl
theorem ai_mc156 : ai_code ai_m156 ∈ lw_tbl := ai_t5_in (i := 145) rfl
theorem ai_mc157 : ai_code ai_m157 ∈ lw_tbl := ai_t5_in (i := 141) rfl
theorem ai_mc158 : ai_code ai_m158 ∈ lw_tbl := ai_t5_in (i := 207) rfl
theorem ai_mc159 : ai_code ai_m159 ∈ lw_tbl := ai_t5_in (i := 114) rfl
theorem ai_mc160 : ai_code ai_m160 ∈ lw_tbl := ai_t6_in (i := 45) rfl
theorem ai_mc161 : ai_code ai_m161 ∈ lw_tbl := ai_t6_in (i := 150) rfl
theorem ai_mc162 : ai_code ai_m162 ∈ lw_tbl := ai_t6_in (i := 178) rfl
theorem ai_mc163 : ai_code ai_m163 ∈ lw_tbl := ai_t5_in (i := 118) rfl
theorem ai_mc164 : ai_code ai_m164 ∈ lw_tbl := ai_t6_in (i := 94) rfl
theorem ai_mc165 : ai_code ai_m165 ∈ lw_tbl := ai_t3_in (i := 210) rfl
theorem ai_mc166 : ai_code ai_m166 ∈ lw_tbl := ai_t2_in (i := 170) rfl
theorem ai_mc167 : ai_code ai_m167 ∈ lw_tbl := ai_t6_in (i := 194) rfl
theorem ai_mcs0 : ∀ M ∈ ai_ms0.tail, ai_code M ∈ lw_tbl := List.forall_mem_cons.mpr ⟨ai_mc1, List.forall_mem_cons.mpr ⟨ai_mc2, List.forall_mem_cons.mpr ⟨ai_mc3, List.forall_mem_cons.mpr ⟨ai_mc4, List.forall_mem_cons.mpr ⟨ai_mc5, List.forall_mem_cons.mpr ⟨ai_mc6, List.forall_mem_cons.mpr ⟨ai_mc7, List.forall_mem_cons.mpr ⟨ai_mc8, List.forall_mem_cons.mpr ⟨ai_mc9, fun _ h => nomatch h⟩⟩⟩⟩⟩⟩⟩⟩⟩
theorem ai_mcs1 : ∀ M ∈ ai_ms1, ai_code M ∈ lw_tbl := List.forall_mem_cons.mpr ⟨ai_mc10, List.forall_mem_cons.mpr ⟨ai_mc11, List.forall_mem_cons.mpr ⟨ai_mc12, List.forall_mem_cons.mpr ⟨ai_mc13, List.forall_mem_cons.mpr ⟨ai_mc14, List.forall_mem_cons.mpr ⟨ai_mc15, List.forall_mem_cons.mpr ⟨ai_mc16, List.forall_mem_cons.mpr ⟨ai_mc17, List.forall_mem_cons.mpr ⟨ai_mc18, List.forall_mem_cons.mpr ⟨ai_mc19, fun _ h => nomatch h⟩⟩⟩⟩⟩⟩⟩⟩⟩⟩
theorem ai_mcs2 : ∀ M ∈ ai_ms2, ai_code M ∈ lw_tbl := List.forall_mem_cons.mpr ⟨ai_mc20, List.forall_mem_cons.mpr ⟨ai_mc21, List.forall_mem_cons.mpr ⟨ai_mc22, List.forall_mem_cons.mpr ⟨ai_mc23, List.forall_mem_cons.mpr ⟨ai_mc24, List.forall_mem_cons.mpr ⟨ai_mc25, List.forall_mem_cons.mpr ⟨ai_mc26, List.forall_mem_cons.mpr ⟨ai_mc27, List.forall_mem_cons.mpr ⟨ai_mc28, List.forall_mem_cons.mpr ⟨ai_mc29, fun _ h => nomatch h⟩⟩⟩⟩⟩⟩⟩⟩⟩⟩
theorem ai_mcs3 : ∀ M ∈ ai_ms3, ai_code M ∈ lw_tbl := List.forall_mem_cons.mpr ⟨ai_mc30, List.forall_mem_cons.mpr ⟨ai_mc31, List.forall_mem_cons.mpr ⟨ai_mc32, List.forall_mem_cons.mpr ⟨ai_mc33, List.forall_mem_cons.mpr ⟨ai_mc34, List.forall_mem_cons.mpr ⟨ai_mc35, List.forall_mem_cons.mpr ⟨ai_mc36, List.forall_mem_cons.mpr ⟨ai_mc37, List.forall_mem_cons.mpr ⟨ai_mc38, List.forall_mem_cons.mpr ⟨ai_mc39, fun _ h => nomatch h⟩⟩⟩⟩⟩⟩⟩⟩⟩⟩
theorem ai_mcs4 : ∀ M ∈ ai_ms4, ai_code M ∈ lw_tbl := List.forall_mem_cons.mpr ⟨ai_mc40, List.forall_mem_cons.mpr ⟨ai_mc41, List.forall_mem_cons.mpr ⟨ai_mc42, List.forall_mem_cons.mpr ⟨ai_mc43, List.forall_mem_cons.mpr ⟨ai_mc44, List.forall_mem_cons.mpr ⟨ai_mc45, List.forall_mem_cons.mpr ⟨ai_mc46, List.forall_mem_cons.mpr ⟨ai_mc47, List.forall_mem_cons.mpr ⟨ai_mc48, List.forall_mem_cons.mpr ⟨ai_mc49, fun _ h => nomatch h⟩⟩⟩⟩⟩⟩⟩⟩⟩⟩
theorem ai_mcs5 : ∀ M ∈ ai_ms5, ai_code M ∈ lw_tbl := List.forall_mem_cons.mpr ⟨ai_mc50, List.forall_mem_cons.mpr ⟨ai_mc51, List.forall_mem_cons.mpr ⟨ai_mc52, List.forall_mem_cons.mpr ⟨ai_mc53, List.forall_mem_cons.mpr ⟨ai_mc54, List.forall_mem_cons.mpr ⟨ai_mc55, List.forall_mem_cons.mpr ⟨ai_mc56, List.forall_mem_cons.mpr ⟨ai_mc57, List.forall_mem_cons.mpr ⟨ai_mc58, List.forall_mem_cons.mpr ⟨ai_mc59, fun _ h => nomatch h⟩⟩⟩⟩⟩⟩⟩⟩⟩⟩
theorem ai_mcs6 : ∀ M ∈ ai_ms6, ai_code M ∈ lw_tbl := List.forall_mem_cons.mpr ⟨ai_mc60, List.forall_mem_cons.mpr ⟨ai_mc61, List.forall_mem_cons.mpr ⟨ai_mc62, List.forall_mem_cons.mpr ⟨ai_mc63, List.forall_mem_cons.mpr ⟨ai_mc64, List.forall_mem_cons.mpr ⟨ai_mc65, List.forall_mem_cons.mpr ⟨ai_mc66, List.forall_mem_cons.mpr ⟨ai_mc67, List.forall_mem_cons.mpr ⟨ai_mc68, List.forall_mem_cons.mpr ⟨ai_mc69, fun _ h => nomatch h⟩⟩⟩⟩⟩⟩⟩⟩⟩⟩
theorem ai_mcs7 : ∀ M ∈ ai_ms7, ai_code M ∈ lw_tbl := List.forall_mem_cons.mpr ⟨ai_mc70, List.forall_mem_cons.mpr ⟨ai_mc71, List.forall_mem_cons.mpr ⟨ai_mc72, List.forall_mem_cons.mpr ⟨ai_mc73, List.forall_mem_cons.mpr ⟨ai_mc74, List.forall_mem_cons.mpr ⟨ai_mc75, List.forall_mem_cons.mpr ⟨ai_mc76, List.forall_mem_cons.mpr ⟨ai_mc77, List.forall_mem_cons.mpr ⟨ai_mc78, List.forall_mem_cons.mpr ⟨ai_mc79, fun _ h => nomatch h⟩⟩⟩⟩⟩⟩⟩⟩⟩⟩
theorem ai_mcs8 : ∀ M ∈ ai_ms8, ai_code M ∈ lw_tbl := List.forall_mem_cons.mpr ⟨ai_mc80, List.forall_mem_cons.mpr ⟨ai_mc81, List.forall_mem_cons.mpr ⟨ai_mc82, List.forall_mem_cons.mpr ⟨ai_mc83, List.forall_mem_cons.mpr ⟨ai_mc84, List.forall_mem_cons.mpr ⟨ai_mc85, List.forall_mem_cons.mpr ⟨ai_mc86, List.forall_mem_cons.mpr ⟨ai_mc87, List.forall_mem_cons.mpr ⟨ai_mc88, List.forall_mem_cons.mpr ⟨ai_mc89, fun _ h => nomatch h⟩⟩⟩⟩⟩⟩⟩⟩⟩⟩
theorem ai_mcs9 : ∀ M ∈ ai_ms9, ai_code M ∈ lw_tbl := List.forall_mem_cons.mpr ⟨ai_mc90, List.forall_mem_cons.mpr ⟨ai_mc91, List.forall_mem_cons.mpr ⟨ai_mc92, List.forall_mem_cons.mpr ⟨ai_mc93, List.forall_mem_cons.mpr ⟨ai_mc94, List.forall_mem_cons.mpr ⟨ai_mc95, List.forall_mem_cons.mpr ⟨ai_mc96, List.forall_mem_cons.mpr ⟨ai_mc97, List.forall_mem_cons.mpr ⟨ai_mc98, List.forall_mem_cons.mpr ⟨ai_mc99, fun _ h => nomatch h⟩⟩⟩⟩⟩⟩⟩⟩⟩⟩
theorem ai_mcs10 : ∀ M ∈ ai_ms10, ai_code M ∈ lw_tbl := List.forall_mem_cons.mpr ⟨ai_mc100, List.forall_mem_cons.mpr ⟨ai_mc101, List.forall_mem_cons.mpr ⟨ai_mc102, List.forall_mem_cons.mpr ⟨ai_mc103, List.forall_mem_cons.mpr ⟨ai_mc104, List.forall_mem_cons.mpr ⟨ai_mc105, List.forall_mem_cons.mpr ⟨ai_mc106, List.forall_mem_cons.mpr ⟨ai_mc107, List.forall_mem_cons.mpr ⟨ai_mc108, List.forall_mem_cons.mpr ⟨ai_mc109, fun _ h => nomatch h⟩⟩⟩⟩⟩⟩⟩⟩⟩⟩
theorem ai_mcs11 : ∀ M ∈ ai_ms11, ai_code M ∈ lw_tbl := List.forall_mem_cons.mpr ⟨ai_mc110, List.forall_mem_cons.mpr ⟨ai_mc111, List.forall_mem_cons.mpr ⟨ai_mc112, List.forall_mem_cons.mpr ⟨ai_mc113, List.forall_mem_cons.mpr ⟨ai_mc114, List.forall_mem_cons.mpr ⟨ai_mc115, List.forall_mem_cons.mpr ⟨ai_mc116, List.forall_mem_cons.mpr ⟨ai_mc117, List.forall_mem_cons.mpr ⟨ai_mc118, List.forall_mem_cons.mpr ⟨ai_mc119, fun _ h => nomatch h⟩⟩⟩⟩⟩⟩⟩⟩⟩⟩
theorem ai_mcs12 : ∀ M ∈ ai_ms12, ai_code M ∈ lw_tbl := List.forall_mem_cons.mpr ⟨ai_mc120, List.forall_mem_cons.mpr ⟨ai_mc121, List.forall_mem_cons.mpr ⟨ai_mc122, List.forall_mem_cons.mpr ⟨ai_mc123, List.forall_mem_cons.mpr ⟨ai_mc124, List.forall_mem_cons.mpr ⟨ai_mc125, List.forall_mem_cons.mpr ⟨ai_mc126, List.forall_mem_cons.mpr ⟨ai_mc127, List.forall_mem_cons.mpr ⟨ai_mc128, List.forall_mem_cons.mpr ⟨ai_mc129, fun _ h => nomatch h⟩⟩⟩⟩⟩⟩⟩⟩⟩⟩
theorem ai_mcs13 : ∀ M ∈ ai_ms13, ai_code M ∈ lw_tbl := List.forall_mem_cons.mpr ⟨ai_mc130, List.forall_mem_cons.mpr ⟨ai_mc131, List.forall_mem_cons.mpr ⟨ai_mc132, List.forall_mem_cons.mpr ⟨ai_mc133, List.forall_mem_cons.mpr ⟨ai_mc134, List.forall_mem_cons.mpr ⟨ai_mc135, List.forall_mem_cons.mpr ⟨ai_mc136, List.forall_mem_cons.mpr ⟨ai_mc137, List.forall_mem_cons.mpr ⟨ai_mc138, List.forall_mem_cons.mpr ⟨ai_mc139, fun _ h => nomatch h⟩⟩⟩⟩⟩⟩⟩⟩⟩⟩
theorem ai_mcs14 : ∀ M ∈ ai_ms14, ai_code M ∈ lw_tbl := List.forall_mem_cons.mpr ⟨ai_mc140, List.forall_mem_cons.mpr ⟨ai_mc141, List.forall_mem_cons.mpr ⟨ai_mc142, List.forall_mem_cons.mpr ⟨ai_mc143, List.forall_mem_cons.mpr ⟨ai_mc144, List.forall_mem_cons.mpr ⟨ai_mc145, List.forall_mem_cons.mpr ⟨ai_mc146, List.forall_mem_cons.mpr ⟨ai_mc147, List.forall_mem_cons.mpr ⟨ai_mc148, List.forall_mem_cons.mpr ⟨ai_mc149, fun _ h => nomatch h⟩⟩⟩⟩⟩⟩⟩⟩⟩⟩
theorem ai_mcs15 : ∀ M ∈ ai_ms15, ai_code M ∈ lw_tbl := List.forall_mem_cons.mpr ⟨ai_mc150, List.forall_mem_cons.mpr ⟨ai_mc151, List.forall_mem_cons.mpr ⟨ai_mc152, List.forall_mem_cons.mpr ⟨ai_mc153, List.forall_mem_cons.mpr ⟨ai_mc154, List.forall_mem_cons.mpr ⟨ai_mc155, List.forall_mem_cons.mpr ⟨ai_mc156, List.forall_mem_cons.mpr ⟨ai_mc157, List.forall_mem_cons.mpr ⟨ai_mc158, List.forall_mem_cons.mpr ⟨ai_mc159, fun _ h => nomatch h⟩⟩⟩⟩⟩⟩⟩⟩⟩⟩
theorem ai_mcs16 : ∀ M ∈ ai_ms16, ai_code M ∈ lw_tbl := List.forall_mem_cons.mpr ⟨ai_mc160, List.forall_mem_cons.mpr ⟨ai_mc161, List.forall_mem_cons.mpr ⟨ai_mc162, List.forall_mem_cons.mpr ⟨ai_mc163, List.forall_mem_cons.mpr ⟨ai_mc164, List.forall_mem_cons.mpr ⟨ai_mc165, List.forall_mem_cons.mpr ⟨ai_mc166, List.forall_mem_cons.mpr ⟨ai_mc167, fun _ h => nomatch h⟩⟩⟩⟩⟩⟩⟩⟩
theorem ai_mcs : ∀ M ∈ ai_meths.tail, ai_code M ∈ lw_tbl := by
  show ∀ M ∈ ai_ms0.tail ++ (ai_ms1 ++ (ai_ms2 ++ (ai_ms3 ++ (ai_ms4 ++ (ai_ms5 ++ (ai_ms6 ++ (ai_ms7 ++ (ai_ms8 ++ (ai_ms9 ++ (ai_ms10 ++ (ai_ms11 ++ (ai_ms12 ++ (ai_ms13 ++ (ai_ms14 ++ (ai_ms15 ++ (ai_ms16)))))))))))))))), ai_code M ∈ lw_tbl
  exact List.forall_mem_append.mpr ⟨ai_mcs0, List.forall_mem_append.mpr ⟨ai_mcs1, List.forall_mem_append.mpr ⟨ai_mcs2, List.forall_mem_append.mpr ⟨ai_mcs3, List.forall_mem_append.mpr ⟨ai_mcs4, List.forall_mem_append.mpr ⟨ai_mcs5, List.forall_mem_append.mpr ⟨ai_mcs6, List.forall_mem_append.mpr ⟨ai_mcs7, List.forall_mem_append.mpr ⟨ai_mcs8, List.forall_mem_append.mpr ⟨ai_mcs9, List.forall_mem_append.mpr ⟨ai_mcs10, List.forall_mem_append.mpr ⟨ai_mcs11, List.forall_mem_append.mpr ⟨ai_mcs12, List.forall_mem_append.mpr ⟨ai_mcs13, List.forall_mem_append.mpr ⟨ai_mcs14, List.forall_mem_append.mpr ⟨ai_mcs15, ai_mcs16⟩⟩⟩⟩⟩⟩⟩⟩⟩⟩⟩⟩⟩⟩⟩⟩
def ai_mdf : ai_M := (⟨"", "", ""⟩, ⟨#[]⟩, 0, none, 0, [], [])
def ai_bCl (q : Nat × Nat × Nat × Nat × Nat × Nat × Nat) : Bool := match q with
  | (oc, idx, j, n, kind, ci, pos) => match ai_meths[j]?, ai_mw[j]? with
    | some M, some (_, _, _, _, ar, kd) => decide (j ≠ 0) && (match kind with
      | 0 => ai_tw pos (.methodLink (ai_cn oc) idx M.1) && Nat.beq kd 0 && Nat.beq n (ar + 1) && (match vwCl[ci]? with
        | some (C, _, _) => decide (M.1.cls = C)
        | none => false)
      | 1 => ai_tw pos (.methodLink (ai_cn oc) idx M.1) && Nat.beq kd 3 && Nat.beq n (ar + 1)
      | 2 => ai_tw pos (.methodLinkNest (ai_cn oc) idx M.1 "PenPage") && Nat.beq kd 3 && Nat.beq n (ar + 1)
      | 3 => ai_tw pos (.methodLink (ai_cn oc) idx M.1) && Nat.beq kd 1 && Nat.beq n ar
      | 4 => ai_tw pos (.methodLink (ai_cn oc) idx M.1) && Nat.beq kd 2 && Nat.beq n ar
      | 6 => ai_tw pos (.methodLinkNest (ai_cn oc) idx M.1 "PenPage") && Nat.beq kd 1 && Nat.beq n ar
      | _ => false)
    | _, _ => false
theorem ai_bCl_ok : ai_lc.all ai_bCl = true := by decide +kernel
end
section
/-! ===== the words of the throws ===== -/
def ai_thn : List String := ["java/lang/RuntimeException", "java/lang/Exception"]
def ai_ix (k : Nat) : Nat := if k = 2 then 13 else 7
def ai_rx (k : Nat) : ByteArray := if k = 2 then ⟨#[0x2a, 0x2b, 0xb7, 0x00, 0x0d, 0xb1]⟩ else ⟨#[0x2a, 0x2b, 0xb7, 0x00, 0x07, 0xb1]⟩
theorem ai_rx_ok {k : Nat} (h : k = 2 ∨ k = 3) : decode (ai_rx k) 0 = .ok (.aload_n 0, 1) ∧ decode (ai_rx k) 1 = .ok (.aload_n 1, 1) ∧ decode (ai_rx k) 2 = .ok (.invokespecial (ai_ix k), 3) ∧ decode (ai_rx k) 5 = .ok (.return_, 1) := by
  rcases h with rfl | rfl
  · exact ⟨by decide +kernel, by decide +kernel, by decide +kernel, by decide +kernel⟩
  · exact ⟨by decide +kernel, by decide +kernel, by decide +kernel, by decide +kernel⟩
def ai_bTw (q : Nat × Nat × Nat) : Bool := match q with
  | (oc, ic, k) => (ai_atX (ai_cn oc) ic (ai_exc k) (ai_ix k) (ai_rx k) ai_thn).all (fun w => decide (w ∈ lw_tbl) && w.onTables && vx_ot w)
theorem ai_bTw_ok : ai_ltw.all ai_bTw = true := by decide +kernel
def ai_bTh (q : Nat × Nat × Nat × Nat × Nat × Nat × Nat) : Bool := match q with
  | (oc, ik, k, k1, is, ic, pos) => ai_tw pos (.classLink (ai_cn oc) ik (ai_exc k)) && (Nat.beq k 2 || Nat.beq k 3) && (match ai_strs[k1]? with
    | some (o, i, _) => decide (o = ai_cn oc) && Nat.beq i is
    | none => false) && ai_bTw (oc, ic, k)
theorem ai_bTh_ok : ai_lth.all (fun q => match q with
  | (oc, ik, k, k1, is, ic, pos) => ai_tw pos (.classLink (ai_cn oc) ik (ai_exc k)) && (Nat.beq k 2 || Nat.beq k 3) && (match ai_strs[k1]? with
    | some (o, i, _) => decide (o = ai_cn oc) && Nat.beq i is
    | none => false) && ai_ltw.any (fun z => Nat.beq z.1 oc && Nat.beq z.2.1 ic && Nat.beq z.2.2 k)) = true := by decide +kernel
theorem ai_bTi : (ai_tw 14 (.initialized (ai_exc 2)) && ai_tw 12 (.initialized (ai_exc 3))) = true := by decide +kernel
theorem ai_bTf : (Bundle.fit (ai_exc 2) && Bundle.fit (ai_exc 3) && ai_thn.all Bundle.fit) = true := by decide +kernel
theorem ai_bTo : ∀ (o : String) (i : Nat) (k : Nat), vx_ot (Cond.classLink o i (ai_exc k)) = true ∧ vx_ot (Cond.initialized (ai_exc k)) = true := fun _ _ _ => ⟨rfl, rfl⟩
end
section
/-! ===== a method's body in its world; calls ===== -/
def ai_rm (d mc ms : Nat) : Room := { frames := d + 8, cells := mc, slots := ms, locals := 60 * d + 300 }
def ai_Pc (b0 L base : Nat) (rho : Nat → Int32) (tc dC : Nat → ClassId) (dI : Nat → Nat → Nat) (sa : Nat → Nat) (ws : va_W) (as : List Value) : Array Value → State → Prop := fun v U => v = as.toArray ∧ va_P (dC, dI) vwCl ws U.heap ∧ ai_SF b0 L base rho tc dC dI sa U
/-- what the interpreter says of a call is what the machine does -/
def ai_CS (l : Launch) (b0 L base : Nat) (rho : Nat → Int32) (tc dC : Nat → ClassId) (dI : Nat → Nat → Nat) (sa : Nat → Nat) (call : ai_K) (d : Nat) : Prop :=
  ∀ (j : Nat) (a : List ai_V) (g : ai_G) (os : List ai_O) (x1 x2 : Nat), call j a g = some (os, x1, x2) → ∀ M, ai_meths[j]? = some M → j ≠ 0 → ∀ (ws : va_W) (as : List Value), ai_WR b0 rho tc ws g.1 (ai_nx g) → va_D (ai_A base) ws → ai_EV rho (ai_x g) → ai_SR b0 rho ws a as →
    vx_Met l M.1 [ai_code M] (ai_rm d (x1 - ai_kc g) (x2 - ai_ks g)) (ai_Pc b0 L base rho tc dC dI sa ws as) (ai_Qc b0 rho tc dC dI base ws os) (ai_XC b0 rho tc dC dI base ws os) (x1 - ai_kc g) (x2 - ai_ks g) (ai_A base)
def ai_Cx (p : Program) (l : Launch) (e : Env) (R : Room) (s : State) (m : MethodId) (args : Array Value) (below : List Frame) (meth : Method) (c : Code) (nL b0 : Nat) (rho : Nat → Int32) (tc dC : Nat → ClassId) (dI : Nat → Nat → Nat) (base : Nat) (ws0 : va_W) (kE sE mk0 ms0 : Nat) (os0 : List ai_O) (Q : State → Prop)
    (M : ai_M) (L : Nat) (sa : Nat → Nat) (sl : Int × Int) (d : Nat) : Prop :=
  (p.tables.exec = Jvm.exec ∧ c.code = M.2.1 ∧ c.maxLocals = nL ∧ M.2.2.1 = nL ∧ s.vm.findClass (ai_cn M.2.2.2.2.1) = some m.cls ∧ meth.locks = false ∧ meth.sig.returnType = M.2.2.2.1 ∧ meth.name = M.1.name ∧ c.exceptionTable.toList = tableOf M.2.2.2.2.2.1) ∧
  l.stackTraces = false ∧ ai_SF b0 L base rho tc dC dI sa s ∧ ai_D rho ∧ (L < 2 ^ 31 ∧ sl.1 ≤ (L : Int) ∧ (L : Int) ≤ sl.2) ∧ (mk0 ≤ kE + R.cells ∧ ms0 ≤ sE + R.slots) ∧
  Q = vx_MQ below (ai_Qc b0 rho tc dC dI base ws0 os0) (ai_XC b0 rho tc dC dI base ws0 os0) args s (mk0 - kE) (ms0 - sE) (ai_A base) ∧ (d + 9 ≤ R.frames ∧ 60 * d + 360 ≤ R.locals)
theorem ai_cat4 : ∀ {vs : List Value}, vs.length ≤ 4 → (vs.map fun v => v.category).sum ≤ 8 := by
  have key : ∀ vs : List Value, (vs.map fun v => v.category).sum ≤ 2 * vs.length := by
    intro vs
    induction vs with
    | nil => exact Nat.le_refl _
    | cons v t ih =>
      have hv : v.category ≤ 2 := by cases v <;> simp [Value.category]
      simp only [List.map_cons, List.sum_cons, List.length_cons]
      omega
  intro vs h
  have := key vs
  omega
theorem ai_bWds_at : ∀ (ms : List ai_M) (qs : List (Nat × Nat × Nat × Nat × Nat × Nat)), ai_bWds ms qs = true → ∀ (j : Nat) (M : ai_M) (q : Nat × Nat × Nat × Nat × Nat × Nat), ms[j]? = some M → qs[j]? = some q → ai_bWd M q = true
  | [], _, _, j, M, q, hM, _ => by simp at hM
  | M0 :: ms, [], h, _, _, _, _, hq => by simp at hq
  | M0 :: ms, q0 :: qs, h, j, M, q, hM, hq => by
    have h : (ai_bWd M0 q0 && ai_bWds ms qs) = true := h
    rw [Bool.and_eq_true] at h
    cases j with
    | zero =>
      simp only [List.getElem?_cons_zero, Option.some.injEq] at hM hq
      rw [← hM, ← hq]; exact h.1
    | succ j =>
      rw [List.getElem?_cons_succ] at hM hq
      exact ai_bWds_at ms qs h.2 j M q hM hq
theorem ai_tail {α : Type} {l : List α} {j : Nat} {x : α} (h : l[j]? = some x) (hj : j ≠ 0) : l.tail[j - 1]? = some x := by
  cases l with
  | nil => simp at h
  | cons a t =>
    cases j with
    | zero => exact absurd rfl hj
    | succ j => rw [List.getElem?_cons_succ] at h; exact h
theorem ai_mw_ok {j : Nat} {M : ai_M} {q : Nat × Nat × Nat × Nat × Nat × Nat} (hj : j ≠ 0) (hM : ai_meths[j]? = some M) (hq : ai_mw[j]? = some q) : ai_bWd M q = true := ai_bWds_at _ _ ai_bWds_ok (j - 1) M q (ai_tail hM hj) (ai_tail hq hj)
theorem ai_mc_ok {j : Nat} {M : ai_M} (hj : j ≠ 0) (hM : ai_meths[j]? = some M) : ai_code M ∈ lw_tbl := ai_mcs M (List.mem_of_getElem? (ai_tail hM hj))
theorem ai_code_good (M : ai_M) : (ai_code M).onTables = true ∧ ((ai_code M).onTables && (ai_code M).keeps) = true := by
  unfold ai_code
  split <;> exact ⟨rfl, rfl⟩
theorem ai_code_nil {M : ai_M} (h : M.2.2.2.2.2.1 = []) : ai_code M = .code M.1 M.2.1 M.2.2.1 M.2.2.2.1 := by
  unfold ai_code
  rw [h]
theorem ai_code_cons {M : ai_M} (h : M.2.2.2.2.2.1 ≠ []) : ai_code M = .codeWith M.1 M.2.1 M.2.2.1 M.2.2.2.1 M.2.2.2.2.2.1 := by
  unfold ai_code
  cases h2 : M.2.2.2.2.2.1 with
  | nil => exact absurd h2 h
  | cons a t => rfl
theorem ai_Pc.blind {b0 L base : Nat} {rho : Nat → Int32} {tc dC : Nat → ClassId} {dI : Nat → Nat → Nat} {sa : Nat → Nat} {ws : va_W} {as : List Value} : FrameBlind (ai_Pc b0 L base rho tc dC dI sa ws as) := fun a U g mk h => ⟨h.1, h.2.1, h.2.2.calling g mk a⟩
/-- what the tables say of the method j -/
theorem ai_mfacts {s : State} {args : Array Value} (hA : ai_AW s) {j : Nat} {M : ai_M} {p1 p2 p3 p4 ar kd : Nat} (hj : j ≠ 0) (hM : ai_meths[j]? = some M) (hq : ai_mw[j]? = some (p1, p2, p3, p4, ar, kd)) :
    (∀ w ∈ [ai_code M], ∀ (a' : Array Value) (U : State), s.WarmedH U.vm → w.before a' U = true) ∧ (ai_code M).before args s = true ∧ (Cond.initialized M.1.cls).before args s = true ∧ (M.1.cls ≠ "java/lang/invoke/MethodHandle" ∧ M.1.cls ≠ "java/lang/invoke/VarHandle") ∧
    (∀ sig, parseMethodDescriptor M.1.desc = some sig → ar = sig.parameters.length) ∧ M.2.2.1 ≤ 10 ∧ plainName M.1.cls = true ∧ M.1.cls = ai_cn M.2.2.2.2.1 ∧
    (kd = 0 → (Cond.instanceMethod M.1).before args s = true ∧ (Cond.selects M.1.cls M.1 M.1).before args s = true ∧ M.2.2.2.2.2.1 = []) ∧ (kd = 1 → (Cond.static M.1).before args s = true ∧ M.2.2.2.2.2.1 = []) ∧ (kd = 2 → (Cond.static M.1).before args s = true ∧ M.2.2.2.2.2.1 ≠ []) ∧
    (kd = 3 → (Cond.instanceMethod M.1).before args s = true ∧ M.2.2.2.2.2.1 = [] ∧ M.1.name = "<init>" ∧ M.2.2.2.1 = none) := by
  have hb := ai_mw_ok hj hM hq
  have hc := ai_mc_ok hj hM
  have hcw := hA.use hc (ai_code_good M).1 args
  unfold ai_bWd at hb
  simp only [Bool.and_eq_true] at hb
  obtain ⟨⟨⟨⟨⟨⟨h1, h2⟩, h3⟩, h4⟩, h5⟩, h6⟩, h7⟩ := hb
  refine ⟨fun w hw a' U hW => ?_, hcw, hA.use (ai_tw_in h1) rfl args, of_decide_eq_true h4, fun sig hs => ?_, Nat.le_of_ble_eq_true h6, h2, of_decide_eq_true h3, fun hk => ?_, fun hk => ?_, fun hk => ?_, fun hk => ?_⟩
  · rw [List.mem_singleton.mp hw]
    exact word_at hW (Or.inl (ai_code_good M).2) hcw
  · have h5 := of_decide_eq_true h5
    rw [hs] at h5
    exact (Option.some.inj h5).symm
  · subst hk
    simp only [Bool.and_eq_true, Bool.or_eq_true] at h7
    obtain ⟨⟨q1, q2⟩, q3⟩ := h7
    refine ⟨hA.use (ai_tw_in q1) rfl args, hA.use ?_ rfl args, of_decide_eq_true q3⟩
    rcases q2 with q2 | q2
    · exact ai_tw_in q2
    · exact List.mem_append_left _ (List.mem_of_getElem? (of_decide_eq_true q2))
  · subst hk
    simp only [Bool.and_eq_true] at h7
    exact ⟨hA.use (ai_tw_in h7.1) rfl args, of_decide_eq_true h7.2⟩
  · subst hk
    simp only [Bool.and_eq_true] at h7
    exact ⟨hA.use (ai_tw_in h7.1) rfl args, of_decide_eq_true h7.2⟩
  · subst hk
    simp only [Bool.and_eq_true] at h7
    obtain ⟨⟨⟨q1, q2⟩, q3⟩, q4⟩ := h7
    exact ⟨hA.use (ai_tw_in q1) rfl args, of_decide_eq_true q2, of_decide_eq_true q3, of_decide_eq_true q4⟩
end
section
section OPC
variable {p : Program} {l : Launch} {e : Env} {R : Room} {s : State} {m : MethodId} {args : Array Value} {below : List Frame} {meth : Method} {c : Code} {nL b0 : Nat} {rho : Nat → Int32} {tc dC : Nat → ClassId} {dI : Nat → Nat → Nat} {base : Nat} {ws0 : va_W} {kE sE mk0 ms0 : Nat} {os0 : List ai_O} {Q : State → Prop}
variable {M : ai_M} {L : Nat} {sa : Nat → Nat} {sl : Int × Int} {d : Nat} {call : ai_K} {K : ai_K4} {pc npc : Nat} {loc st : List ai_V} {g : ai_G} {r : ai_R}
theorem ai_loc_le {a d0 r0 : Nat} (h : a ≤ 10) (h2 : 60 * d0 + 360 ≤ r0) : 8 + (a + 11) + (60 * d0 + 300) ≤ r0 := by
  have h3 : 8 + (a + 11) ≤ 60 := Nat.le_trans (Nat.add_le_add_left (Nat.add_le_add_right h 11) 8) (by decide)
  refine Nat.le_trans (Nat.add_le_add_right h3 _) (Nat.le_trans (Nat.le_of_eq ?_) h2)
  rw [Nat.add_comm 60, Nat.add_assoc]
theorem ai_take_recv {vs : List Value} {n : Nat} {w : Value} (hn : 1 ≤ n) (hw : vs[n - 1]? = some w) : (vs.take n).reverse = w :: (vs.take (n - 1)).reverse ∧ vs = (vs.take (n - 1)).reverse.reverse ++ w :: vs.drop n := by
  have hlt : n - 1 < vs.length := (List.getElem?_eq_some_iff.mp hw).1
  have e1 : vs.take n = vs.take (n - 1) ++ [w] := by
    have h0 := List.take_succ (l := vs) (i := n - 1)
    rw [show n - 1 + 1 = n by omega, hw] at h0
    exact h0
  refine ⟨by rw [e1, List.reverse_append]; rfl, ?_⟩
  rw [List.reverse_reverse]
  conv => lhs; rw [← List.take_append_drop n vs, e1, List.append_assoc]
  rfl
/-- the receiver: an object of the class ci -/
theorem ai_recv {H : Heap} {locs : List Loc} {cells slots : Nat} {ls : Array Slot} {vs : List Value} {ws : va_W} {n ci i : Nat} {cl : ai_C} (hV : va_K (dC, dI) vwCl (ai_tys tc) s) (hF : ai_Fr s nL b0 rho tc dC dI base ws0 kE sE loc st g H locs cells slots ls vs ws) (hn : 1 ≤ n) (hnl : n ≤ st.length) (hcell : ai_cell g (ai_nth ai_un st (n - 1)) = some (i, cl)) (h0 : cl.1 = 0) (hci : cl.2.1 = ci) :
    ∃ (b : Nat) (C : String) (T : u_T) (N : Nat), vwCl[ci]? = some (C, T, N) ∧ vs[n - 1]? = some (.ref b) ∧ ∃ cellB : Cell, H[b]? = some cellB ∧ cellB.vm.isStatics = false ∧ s.vm.findClass C = some cellB.cls := by
  obtain ⟨f0, f1, f2, f3, f4, f5, f6, f7, f8⟩ := hF
  have hlt : n - 1 < st.length := by omega
  have hst : st[n - 1]? = some st[n - 1] := List.getElem?_eq_getElem hlt
  obtain ⟨w, q1, q2⟩ := f2.at hst
  have e9 : ai_nth ai_un st (n - 1) = st[n - 1] := by rw [ai_nth_eq, hst]; rfl
  rw [e9] at hcell
  obtain ⟨gh, gx⟩ := g
  obtain ⟨gn, gy⟩ := gx
  obtain ⟨b, e1, rfl, k1, -, -, k2⟩ := ai_cell_ok (x := gy) f3 hcell q2
  rcases k2 with ⟨-, us, rfl, -⟩ | ⟨k2, -⟩ | ⟨k2, -⟩ | ⟨k2, -⟩
  · obtain ⟨⟨C, T, N⟩, hr, cellB, hB, hc1, hc2, -⟩ := f4 i _ k1
    have hr : vwCl[cl.2.1]? = some (C, T, N) := hr
    rw [hci] at hr
    have hB : H[b]? = some cellB := hB
    refine ⟨b, C, T, N, hr, q1, cellB, hB, by rw [hc2]; rfl, ?_⟩
    have hc1 : cellB.cls = dC cl.2.1 := hc1
    rw [hc1, hci]
    exact (hV.1 ci _ hr).2.1
  · exfalso; omega
  · exfalso; omega
  · exfalso; omega
theorem ai_noX {os : List ai_O} {ws : va_W} (h : ∀ q ∈ os, q.1 ≤ 1) : ∀ E st t, ¬ ai_XC b0 rho tc dC dI base ws os E st t := by
  rintro E st t ⟨q, hq, w1, -, h23, -⟩
  have := h q hq
  omega
theorem ai_any3 {α : Type} {p1 : α → Bool} {l1 : List α} (h : l1.any p1 = true) : ∃ q ∈ l1, p1 q = true := List.any_eq_true.mp h
/-- a call by invokevirtual -/
theorem op_virt (hCx : ai_Cx p l e R s m args below meth c nL b0 rho tc dC dI base ws0 kE sE mk0 ms0 os0 Q M L sa sl d) (hCS : ai_CS l b0 L base rho tc dC dI sa call d) {oc idx j n ci pos h2 h3 : Nat} (hoc : oc = M.2.2.2.2.1) (hlc : (oc, idx, j, n, 0, ci, pos) ∈ ai_lc) (hdg : decode M.2.1 pc = .ok (.invokevirtual idx, 3)) (hnpc : npc = pc + 3)
    (hc2 : ai_Ct p l e R s m args below meth c Q pc 2 h2) (hc3 : ai_Ct p l e R s m args below meth c Q pc 3 h3) (hK5 : ∀ loc st g, K 65535 loc st g = none) (hK : ai_KS p l e R s m args below meth c nL b0 rho tc dC dI base ws0 kE sE mk0 ms0 os0 Q K) (h : ai_o_virt true ci j n h2 h3 npc call K loc st g = some r) : ai_At p l e R s m args below meth c nL b0 rho tc dC dI base ws0 kE sE mk0 ms0 os0 Q pc loc st g r := by
  obtain ⟨⟨hx, hb, hml, hMl, hown, hlocks, hret, hname, htab⟩, hst, hSF, hD, hL, ⟨hRc, hRs⟩, hQ, hfr, hlo⟩ := hCx
  have hbl := List.all_eq_true.mp ai_bCl_ok _ hlc
  unfold ai_bCl at hbl
  simp only at hbl
  cases hM : ai_meths[j]? with
  | none => rw [hM] at hbl; cases hbl
  | some M2 =>
    cases hq : ai_mw[j]? with
    | none => rw [hM, hq] at hbl; cases hbl
    | some qq =>
      obtain ⟨p1, p2, p3, p4, ar, kd⟩ := qq
      rw [hM, hq] at hbl
      simp only [Bool.and_eq_true] at hbl
      obtain ⟨hj, ⟨⟨b1, b2⟩, b3⟩, b4⟩ := hbl
      have hj : j ≠ 0 := of_decide_eq_true hj
      have b2 : kd = 0 := Nat.eq_of_beq_eq_true b2
      have b3 : n = ar + 1 := Nat.eq_of_beq_eq_true b3
      obtain ⟨m1, m2, m3, m4, m5, m6, -, -, m9, -, -, -⟩ := ai_mfacts hSF.1 (args := args) hj hM hq
      obtain ⟨m9a, m9b, m9c⟩ := m9 b2
      unfold ai_o_virt at h
      have hn1 : Nat.pred n = n - 1 := rfl
      rw [hn1] at h
      cases hcell : ai_cell g (ai_nth ai_un st (n - 1)) with
      | none => rw [hcell] at h; cases h
      | some q0 =>
        obtain ⟨i, t0, c0, z1, z2⟩ := q0
        rw [hcell] at h
        simp only at h
        cases hcc : (Nat.beq t0 0 && Nat.beq c0 ci) with
        | false => rw [hcc] at h; cases h
        | true =>
          rw [hcc] at h
          rw [Bool.and_eq_true] at hcc
          have h0 : t0 = 0 := Nat.eq_of_beq_eq_true hcc.1
          have hci : c0 = ci := Nat.eq_of_beq_eq_true hcc.2
          refine so_call hlocks hnpc hRc hRs hQ (fun {H locs cells slots ls vs ws os x1 x2} hF hcl hnl hd4 _ hmc hms => ?_) hc2 hc3 hK5 hK h
          obtain ⟨bA, C, T, N, hcl9, hrv, cellB, hB, hBs, hBc⟩ := ai_recv hSF.2.1 hF (by omega) hnl hcell h0 hci
          obtain ⟨e1, e2⟩ := ai_take_recv (by omega) hrv
          obtain ⟨f0, f1, f2, f3, f4, f5, f6, f7, f8⟩ := hF
          have hmet := (hCS j _ g os x1 x2 hcl) M2 hM hj ws ((vs.take n).reverse) f3 f5 f7 ((f2.take n).rev)
          rw [ai_code_nil m9c] at hmet m1 m2
          rw [hcl9] at b4
          have b4 : M2.1.cls = C := of_decide_eq_true b4
          refine ⟨(Value.ref bA :: (vs.take (n - 1)).reverse).toArray, vx_runV (cc := M.2.1) (nL := nL) (own := ai_cn M.2.2.2.2.1) (C := C) (index := idx) (n := ar) (b := bA) (As := (vs.take (n - 1)).reverse) (Ts := []) ⟨hx, hb, hml, hown, fun w hw => nomatch hw⟩ hmet
            ⟨⟨rfl, rfl, ?_, ?_, m1, List.mem_singleton.mpr rfl, m2, m3, m4, m5, ?_⟩, m9a, ?_⟩ ⟨ai_Pc.blind, ⟨cellB, hB, hBs, hBc⟩, fun U hU hW => ⟨by rw [e1], by rw [hU]; exact f4, ai_SF.moved hSF hW (by rw [hU]; exact f6)⟩⟩ rfl ?_ ?_ ?_ ?_ ?_ ⟨hmc, hms⟩⟩
          · show d + 8 + 1 ≤ R.frames; omega
          · exact ai_loc_le m6 hlo
          · rw [← hoc]; exact hSF.1.use (ai_tw_in b1) rfl args
          · rw [← b4]; exact m9b
          · have := f2.len
            rw [List.length_reverse, List.length_take]; omega
          · exact f1.sz
          · exact e2
          · exact lv_room (ai_cat4 hd4)
          · exact hdg
theorem ai_lc_ok {oc idx j n kind ci pos : Nat} (hlc : (oc, idx, j, n, kind, ci, pos) ∈ ai_lc) : ∃ (M2 : ai_M) (p1 p2 p3 p4 ar kd : Nat), ai_meths[j]? = some M2 ∧ ai_mw[j]? = some (p1, p2, p3, p4, ar, kd) ∧ j ≠ 0 ∧
    (kind = 1 → Cond.methodLink (ai_cn oc) idx M2.1 ∈ lw_tbl ∧ kd = 3 ∧ n = ar + 1) ∧ (kind = 2 → Cond.methodLinkNest (ai_cn oc) idx M2.1 "PenPage" ∈ lw_tbl ∧ kd = 3 ∧ n = ar + 1) ∧ (kind = 3 → Cond.methodLink (ai_cn oc) idx M2.1 ∈ lw_tbl ∧ kd = 1 ∧ n = ar) ∧
    (kind = 4 → Cond.methodLink (ai_cn oc) idx M2.1 ∈ lw_tbl ∧ kd = 2 ∧ n = ar) ∧ (kind = 6 → Cond.methodLinkNest (ai_cn oc) idx M2.1 "PenPage" ∈ lw_tbl ∧ kd = 1 ∧ n = ar) := by
  have hbl := List.all_eq_true.mp ai_bCl_ok _ hlc
  unfold ai_bCl at hbl
  simp only at hbl
  cases hM : ai_meths[j]? with
  | none => rw [hM] at hbl; cases hbl
  | some M2 =>
    cases hq : ai_mw[j]? with
    | none => rw [hM, hq] at hbl; cases hbl
    | some qq =>
      obtain ⟨p1, p2, p3, p4, ar, kd⟩ := qq
      rw [hM, hq] at hbl
      rw [Bool.and_eq_true] at hbl
      obtain ⟨hj, hk⟩ := hbl
      refine ⟨M2, p1, p2, p3, p4, ar, kd, rfl, rfl, of_decide_eq_true hj, fun e => ?_, fun e => ?_, fun e => ?_, fun e => ?_, fun e => ?_⟩ <;>
      · subst e
        simp only [Bool.and_eq_true] at hk
        exact ⟨ai_tw_in hk.1.1, Nat.eq_of_beq_eq_true hk.1.2, Nat.eq_of_beq_eq_true hk.2⟩
/-- a constructor's call by invokespecial -/
theorem op_spec (hCx : ai_Cx p l e R s m args below meth c nL b0 rho tc dC dI base ws0 kE sE mk0 ms0 os0 Q M L sa sl d) (hCS : ai_CS l b0 L base rho tc dC dI sa call d) {oc idx j n ci pos kind cj : Nat} (hoc : oc = M.2.2.2.2.1) (hkd : kind = 1 ∨ kind = 2) (hlc : (oc, idx, j, n, kind, cj, pos) ∈ ai_lc) (hdg : decode M.2.1 pc = .ok (.invokespecial idx, 3)) (hnpc : npc = pc + 3)
    (hc2 : ai_Ct p l e R s m args below meth c Q pc 2 0) (hc3 : ai_Ct p l e R s m args below meth c Q pc 3 0) (hK5 : ∀ loc st g, K 65535 loc st g = none) (hK : ai_KS p l e R s m args below meth c nL b0 rho tc dC dI base ws0 kE sE mk0 ms0 os0 Q K) (h : ai_o_virt false ci j n 0 0 npc call K loc st g = some r) : ai_At p l e R s m args below meth c nL b0 rho tc dC dI base ws0 kE sE mk0 ms0 os0 Q pc loc st g r := by
  obtain ⟨⟨hx, hb, hml, hMl, hown, hlocks, hret, hname, htab⟩, hst, hSF, hD, hL, ⟨hRc, hRs⟩, hQ, hfr, hlo⟩ := hCx
  obtain ⟨M2, p1, p2, p3, p4, ar, kd, hM, hq, hj, b1, b2, -, -, -⟩ := ai_lc_ok hlc
  have hnk : n = ar + 1 ∧ kd = 3 := by
    rcases hkd with hk | hk
    · exact ⟨(b1 hk).2.2, (b1 hk).2.1⟩
    · exact ⟨(b2 hk).2.2, (b2 hk).2.1⟩
  obtain ⟨m1, m2, m3, m4, m5, m6, -, -, -, -, -, m9⟩ := ai_mfacts hSF.1 (args := args) hj hM hq
  obtain ⟨m9a, m9c, m9d, m9e⟩ := m9 hnk.2
  unfold ai_o_virt at h
  have hn1 : Nat.pred n = n - 1 := rfl
  rw [hn1] at h
  cases hcell : ai_cell g (ai_nth ai_un st (n - 1)) with
  | none => rw [hcell] at h; cases h
  | some q0 =>
    obtain ⟨i, t0, c0, z1, z2⟩ := q0
    rw [hcell] at h
    simp only at h
    cases hcc : (Nat.beq t0 0 && Nat.beq c0 ci) with
    | false => rw [hcc] at h; cases h
    | true =>
      rw [hcc] at h
      rw [Bool.and_eq_true] at hcc
      have h0 : t0 = 0 := Nat.eq_of_beq_eq_true hcc.1
      have hci : c0 = ci := Nat.eq_of_beq_eq_true hcc.2
      refine so_call hlocks hnpc hRc hRs hQ (fun {H locs cells slots ls vs ws os x1 x2} hF hcl hnl hd4 hvk hmc hms => ?_) hc2 hc3 hK5 hK h
      have hvk : ∀ q ∈ os, q.1 ≤ 1 := by
        rcases hvk with hv | hv
        · cases hv
        · exact hv
      obtain ⟨bA, C, T, N, hcl9, hrv, cellB, hB, hBs, hBc⟩ := ai_recv hSF.2.1 hF (by omega) hnl hcell h0 hci
      obtain ⟨e1, e2⟩ := ai_take_recv (by omega) hrv
      obtain ⟨f0, f1, f2, f3, f4, f5, f6, f7, f8⟩ := hF
      have hmet := (hCS j _ g os x1 x2 hcl) M2 hM hj ws ((vs.take n).reverse) f3 f5 f7 ((f2.take n).rev)
      rw [ai_code_nil m9c, m9e] at hmet m1 m2
      have hmet := ai_met hmet (ai_noX hvk)
      have hlen : (vs.take (n - 1)).reverse.length = ar := by
        have := f2.len
        rw [List.length_reverse, List.length_take]; omega
      have hPre : PreS s H (ai_Pc b0 L base rho tc dC dI sa ws ((vs.take n).reverse)) (.ref bA :: (vs.take (n - 1)).reverse) := ⟨ai_Pc.blind, fun U hU hW => ⟨by rw [e1], by rw [hU]; exact f4, ai_SF.moved hSF hW (by rw [hU]; exact f6)⟩⟩
      have hfr9 : d + 8 + 1 ≤ R.frames := by omega
      refine ⟨(Value.ref bA :: (vs.take (n - 1)).reverse).toArray, ?_⟩
      rcases hkd with hk | hk
      · have hl1 : (Cond.methodLink (ai_cn M.2.2.2.2.1) idx M2.1).before args s = true := by rw [← hoc]; exact hSF.1.use (b1 hk).1 rfl args
        exact ai_run_x (va_runI (cc := M.2.1) (nL := nL) (own := ai_cn M.2.2.2.2.1) (index := idx) (n := ar) (b := bA) (As := (vs.take (n - 1)).reverse) (Ts := []) ⟨hx, hb, hml, hown, fun w hw => nomatch hw⟩ hmet
          ⟨⟨rfl, rfl, hfr9, ai_loc_le m6 hlo, m1, List.mem_singleton.mpr rfl, m2, m3, m4, m5, hl1⟩, m9d, m9a⟩ hPre rfl hlen f1.sz e2 (lv_room (ai_cat4 hd4)) hdg ⟨hmc, hms⟩)
      · have hl1 : (Cond.methodLinkNest (ai_cn M.2.2.2.2.1) idx M2.1 "PenPage").before args s = true := by rw [← hoc]; exact hSF.1.use (b2 hk).1 rfl args
        exact ai_run_x (va_runIN (cc := M.2.1) (nL := nL) (own := ai_cn M.2.2.2.2.1) (index := idx) (n := ar) (b := bA) (As := (vs.take (n - 1)).reverse) (Ts := []) ⟨hx, hb, hml, hown, fun w hw => nomatch hw⟩ hmet
          ⟨⟨⟨rfl, rfl, hfr9, ai_loc_le m6 hlo, m1, List.mem_singleton.mpr rfl⟩, m2, m3, m4, m5, hl1⟩, m9d, m9a⟩ hPre rfl hlen f1.sz e2 (lv_room (ai_cat4 hd4)) hdg ⟨hmc, hms⟩)
/-- a static call -/
theorem op_stat (hCx : ai_Cx p l e R s m args below meth c nL b0 rho tc dC dI base ws0 kE sE mk0 ms0 os0 Q M L sa sl d) (hCS : ai_CS l b0 L base rho tc dC dI sa call d) {oc idx j n pos kind cj : Nat} (hoc : oc = M.2.2.2.2.1) (hkd : kind = 3 ∨ kind = 4 ∨ kind = 6) (hlc : (oc, idx, j, n, kind, cj, pos) ∈ ai_lc) (hdg : decode M.2.1 pc = .ok (.invokestatic idx, 3)) (hnpc : npc = pc + 3)
    (hc2 : ai_Ct p l e R s m args below meth c Q pc 2 0) (hc3 : ai_Ct p l e R s m args below meth c Q pc 3 0) (hK5 : ∀ loc st g, K 65535 loc st g = none) (hK : ai_KS p l e R s m args below meth c nL b0 rho tc dC dI base ws0 kE sE mk0 ms0 os0 Q K) (h : ai_o_call false j n 0 0 npc call K loc st g = some r) : ai_At p l e R s m args below meth c nL b0 rho tc dC dI base ws0 kE sE mk0 ms0 os0 Q pc loc st g r := by
  obtain ⟨⟨hx, hb, hml, hMl, hown, hlocks, hret, hname, htab⟩, hst, hSF, hD, hL, ⟨hRc, hRs⟩, hQ, hfr, hlo⟩ := hCx
  obtain ⟨M2, p1, p2, p3, p4, ar, kd, hM, hq, hj, -, -, b3, b4, b6⟩ := ai_lc_ok hlc
  have hnk : n = ar := by
    rcases hkd with hk | hk | hk
    · exact (b3 hk).2.2
    · exact (b4 hk).2.2
    · exact (b6 hk).2.2
  obtain ⟨m1, m2, m3, m4, m5, m6, -, -, -, q1, q2, -⟩ := ai_mfacts hSF.1 (args := args) hj hM hq
  refine so_call hlocks hnpc hRc hRs hQ (fun {H locs cells slots ls vs ws os x1 x2} hF hcl hnl hd4 hvk hmc hms => ?_) hc2 hc3 hK5 hK h
  have hvk : ∀ q ∈ os, q.1 ≤ 1 := by
    rcases hvk with hv | hv
    · cases hv
    · exact hv
  obtain ⟨f0, f1, f2, f3, f4, f5, f6, f7, f8⟩ := hF
  have hmet := (hCS j _ g os x1 x2 hcl) M2 hM hj ws ((vs.take n).reverse) f3 f5 f7 ((f2.take n).rev)
  have hlen : (vs.take n).reverse.length = ar := by
    have := f2.len
    rw [List.length_reverse, List.length_take]; omega
  have hstk : vs = (vs.take n).reverse.reverse ++ vs.drop n := by rw [List.reverse_reverse, List.take_append_drop]
  have hPre : PreS s H (ai_Pc b0 L base rho tc dC dI sa ws ((vs.take n).reverse)) ((vs.take n).reverse) := ⟨ai_Pc.blind, fun U hU hW => ⟨rfl, by rw [hU]; exact f4, ai_SF.moved hSF hW (by rw [hU]; exact f6)⟩⟩
  have hfr9 : d + 8 + 1 ≤ R.frames := by omega
  refine ⟨((vs.take n).reverse).toArray, ?_⟩
  rcases hkd with hk | hk | hk
  · obtain ⟨q1a, q1b⟩ := q1 (b3 hk).2.1
    rw [ai_code_nil q1b] at hmet m1 m2
    have hl1 : (Cond.methodLink (ai_cn M.2.2.2.2.1) idx M2.1).before args s = true := by rw [← hoc]; exact hSF.1.use (b3 hk).1 rfl args
    exact vx_runS (cc := M.2.1) (nL := nL) (own := ai_cn M.2.2.2.2.1) (index := idx) (n := ar) (As := (vs.take n).reverse) (Ts := []) ⟨hx, hb, hml, hown, fun w hw => nomatch hw⟩ hmet
      ⟨⟨rfl, rfl, hfr9, ai_loc_le m6 hlo, m1, List.mem_singleton.mpr rfl, m2, m3, m4, m5, hl1⟩, q1a⟩ hPre rfl hlen f1.sz hstk (lv_room (ai_cat4 hd4)) hdg ⟨hmc, hms⟩
  · obtain ⟨q1a, q1b⟩ := q2 (b4 hk).2.1
    rw [ai_code_cons q1b] at hmet m1 m2
    have hl1 : (Cond.methodLink (ai_cn M.2.2.2.2.1) idx M2.1).before args s = true := by rw [← hoc]; exact hSF.1.use (b4 hk).1 rfl args
    exact vx_runSX (cc := M.2.1) (nL := nL) (own := ai_cn M.2.2.2.2.1) (index := idx) (n := ar) (As := (vs.take n).reverse) (Ts := []) ⟨hx, hb, hml, hown, fun w hw => nomatch hw⟩ hmet
      ⟨⟨rfl, rfl, hfr9, ai_loc_le m6 hlo, m1, List.mem_singleton.mpr rfl⟩, m2, m3, m4, m5, hl1, q1a⟩ hPre rfl hlen f1.sz hstk (lv_room (ai_cat4 hd4)) hdg ⟨hmc, hms⟩
  · obtain ⟨q1a, q1b⟩ := q1 (b6 hk).2.1
    rw [ai_code_nil q1b] at hmet m1 m2
    have hl1 : (Cond.methodLinkNest (ai_cn M.2.2.2.2.1) idx M2.1 "PenPage").before args s = true := by rw [← hoc]; exact hSF.1.use (b6 hk).1 rfl args
    exact ai_run_x (va_runSN (cc := M.2.1) (nL := nL) (own := ai_cn M.2.2.2.2.1) (index := idx) (n := ar) (As := (vs.take n).reverse) (Ts := []) ⟨hx, hb, hml, hown, fun w hw => nomatch hw⟩ (ai_met hmet (ai_noX hvk))
      ⟨⟨⟨rfl, rfl, hfr9, ai_loc_le m6 hlo, m1, List.mem_singleton.mpr rfl⟩, m2, m3, m4, m5, hl1⟩, q1a, trivial⟩ hPre rfl hlen f1.sz hstk (lv_room (ai_cat4 hd4)) hdg ⟨hmc, hms⟩)
end OPC
end
section
/-! ===== the other instructions ===== -/
theorem ai_con_tags {f : Int32 → Int32 → Int32} {x : ai_E} {u v w : ai_V} (h : ai_con f x u v = some w) : u.1 ≤ 1 ∧ v.1 ≤ 1 := by
  unfold ai_con at h
  cases h1 : ai_one x u with
  | none =>
    rw [h1] at h
    simp only at h
    cases hb : (ai_isn u && ai_isn v) with
    | false => rw [hb] at h; cases h
    | true => rw [Bool.and_eq_true, ai_isn_iff, ai_isn_iff] at hb; exact hb
  | some a =>
    cases h2 : ai_one x v with
    | none =>
      rw [h1, h2] at h
      simp only at h
      cases hb : (ai_isn u && ai_isn v) with
      | false => rw [hb] at h; cases h
      | true => rw [Bool.and_eq_true, ai_isn_iff, ai_isn_iff] at hb; exact hb
    | some b => exact ⟨ai_one_none (rho := fun _ => 0) h1, ai_one_none (rho := fun _ => 0) h2⟩
theorem ai_mul_tags {x : ai_E} {u v w : ai_V} (h : ai_mul x u v = some w) : u.1 ≤ 1 ∧ v.1 ≤ 1 := by
  unfold ai_mul at h
  cases h1 : ai_one x u with
  | none =>
    rw [h1] at h
    simp only at h
    cases hb : (ai_isn u && ai_isn v) with
    | false => rw [hb] at h; cases h
    | true => rw [Bool.and_eq_true, ai_isn_iff, ai_isn_iff] at hb; exact hb
  | some a =>
    cases h2 : ai_one x v with
    | none =>
      rw [h1, h2] at h
      simp only at h
      cases hb : (ai_isn u && ai_isn v) with
      | false => rw [hb] at h; cases h
      | true => rw [Bool.and_eq_true, ai_isn_iff, ai_isn_iff] at hb; exact hb
    | some b => exact ⟨ai_one_none (rho := fun _ => 0) h1, ai_one_none (rho := fun _ => 0) h2⟩
theorem ai_and_tags {x : ai_E} {u v w : ai_V} (h : ai_and x u v = some w) : u.1 ≤ 1 ∧ v.1 ≤ 1 := by
  unfold ai_and at h
  cases h2 : ai_one x v with
  | none =>
    cases h1 : ai_one x u <;>
    · rw [h1, h2] at h
      simp only at h
      cases hb : (ai_isn u && ai_isn v) with
      | false => rw [hb] at h; cases h
      | true => rw [Bool.and_eq_true, ai_isn_iff, ai_isn_iff] at hb; exact hb
  | some b =>
    refine ⟨?_, ai_one_none (rho := fun _ => 0) h2⟩
    cases h1 : ai_one x u with
    | some a => exact ai_one_none (rho := fun _ => 0) h1
    | none =>
      rw [h1, h2] at h
      simp only at h
      cases hv0 : (ai_v0 u && ai_ieq b 31) with
      | true =>
        unfold ai_v0 at hv0
        simp only [Bool.and_eq_true] at hv0
        exact Nat.le_of_eq (Nat.eq_of_beq_eq_true hv0.1.1.1)
      | false =>
        rw [hv0] at h
        simp only [cond_false] at h
        cases hb : ai_isn u with
        | true => exact (ai_isn_iff u).mp hb
        | false => rw [hb] at h; simp at h
theorem ai_div_tags {x : ai_E} {u v w : ai_V} (h : ai_div x u v = some w) : u.1 ≤ 1 ∧ v.1 ≤ 1 := by
  unfold ai_div at h
  cases h2 : ai_one x v with
  | none => rw [h2] at h; cases h
  | some b =>
    rw [h2] at h
    simp only at h
    refine ⟨?_, ai_one_none (rho := fun _ => 0) h2⟩
    cases hb : ai_ieq b 0 with
    | true => rw [hb] at h; cases h
    | false =>
      rw [hb] at h
      simp only [cond_false] at h
      split at h
      · exact Nat.le_refl _
      · cases h1 : ai_one x u with
        | some a => exact ai_one_none (rho := fun _ => 0) h1
        | none =>
          rw [h1] at h
          simp only at h
          cases hb : ai_isn u with
          | true => exact (ai_isn_iff u).mp hb
          | false => rw [hb] at h; cases h
theorem ai_rem_tags {x : ai_E} {u v w : ai_V} (h : ai_rem x u v = some w) : u.1 ≤ 1 ∧ v.1 ≤ 1 := by
  unfold ai_rem at h
  cases h2 : ai_one x v with
  | none => rw [h2] at h; cases h
  | some b =>
    rw [h2] at h
    simp only at h
    refine ⟨?_, ai_one_none (rho := fun _ => 0) h2⟩
    cases hb : ai_ieq b 0 with
    | true => rw [hb] at h; cases h
    | false =>
      rw [hb] at h
      simp only [cond_false] at h
      split at h
      · exact Nat.le_refl _
      · cases h1 : ai_one x u with
        | some a => exact ai_one_none (rho := fun _ => 0) h1
        | none =>
          rw [h1] at h
          simp only at h
          cases hb : ai_isn u with
          | true => exact (ai_isn_iff u).mp hb
          | false => rw [hb] at h; cases h
theorem ai_lt_tags {x : ai_E} {u v : ai_V} {l1 : ai_B} (h1 : ai_lt x u v = some l1) : u.1 ≤ 1 ∧ v.1 ≤ 1 := by
  unfold ai_lt at h1
  cases h2 : ai_rng x u with
  | none => simp only [h2] at h1; cases h1
  | some q1 =>
    cases h3 : ai_rng x v with
    | none => simp only [h2, h3] at h1; cases h1
    | some q2 => exact ⟨ai_rng_tag h2, ai_rng_tag h3⟩
section OPD
variable {p : Program} {l : Launch} {e : Env} {R : Room} {s : State} {m : MethodId} {args : Array Value} {below : List Frame} {meth : Method} {c : Code} {nL b0 : Nat} {rho : Nat → Int32} {tc dC : Nat → ClassId} {dI : Nat → Nat → Nat} {base : Nat} {ws0 : va_W} {kE sE mk0 ms0 : Nat} {os0 : List ai_O} {Q : State → Prop}
variable {call : ai_K} {K : ai_K4} {pc npc : Nat} {loc st : List ai_V} {g : ai_G} {r : ai_R}
theorem so_mm {mx : Bool} (hRc : mk0 ≤ kE + R.cells) (hRs : ms0 ≤ sE + R.slots) (row : ∀ {H : Heap} {locs : List Loc} {cells slots : Nat} {ls : Array Slot} {rest : List Value} {y z : Int32}, ls.size = nL → rest.length ≤ 4 → cells ≤ R.cells → slots ≤ R.slots →
      W p l e R s m args below meth c H locs cells slots Q (F0 m npc ls (.int (cond mx (if y < z then z else y) (if z < y then z else y)) :: rest)) → W p l e R s m args below meth c H locs cells slots Q (F0 m pc ls (.int z :: .int y :: rest)))
    (hK : ai_KS p l e R s m args below meth c nL b0 rho tc dC dI base ws0 kE sE mk0 ms0 os0 Q K) (h : ai_o_mm mx npc call K loc st g = some r) : ai_At p l e R s m args below meth c nL b0 rho tc dC dI base ws0 kE sE mk0 ms0 os0 Q pc loc st g r := by
  unfold ai_o_mm at h
  cases st with
  | nil => cases h
  | cons v st =>
    cases st with
    | nil => cases h
    | cons u st =>
      simp only at h
      cases h4 : Nat.ble st.length 4 with
      | false => rw [h4] at h; cases h
      | true =>
        rw [h4] at h
        simp only [cond_true] at h
        have h4 : st.length ≤ 4 := Nat.le_of_ble_eq_true h4
        cases hb : cond mx (ai_lt (ai_x g) u v) (ai_lt (ai_x g) v u) with
        | none => rw [hb] at h; cases h
        | some l1 =>
          rw [hb] at h
          simp only at h
          have htag : u.1 ≤ 1 ∧ v.1 ≤ 1 := by
            cases mx with
            | true => exact ai_lt_tags hb
            | false => exact (ai_lt_tags hb).symm
          have hmono : ai_kc g ≤ r.2.1 ∧ ai_ks g ≤ r.2.2 := by
            obtain ⟨hne, hall⟩ := ai_all_ok h
            cases l1 with
            | nil => exact absurd rfl hne
            | cons q l2 =>
              obtain ⟨rq, k1, -, k3, k4⟩ := hall q List.mem_cons_self
              have := (hK _ _ _ _ _ k1).1
              have e1 : ai_kc (ai_ge g q.2) = ai_kc g := rfl
              have e2 : ai_ks (ai_ge g q.2) = ai_ks g := rfl
              omega
          obtain ⟨hne, hall⟩ := ai_all_ok h
          refine ⟨hmono, fun g1 g2 g3 H locs cells slots ls vs ws hF => ?_⟩
          have hF2 := hF
          obtain ⟨f0, f1, f2, f3, f4, f5, f6, f7, f8, f9⟩ := hF
          obtain ⟨w1, rest, rfl, q1, q2⟩ := f2.cons
          obtain ⟨w2, rest, rfl, q3, q4⟩ := q2.cons
          obtain ⟨z, rfl, nz⟩ := q1.int htag.2
          obtain ⟨y, rfl, ny⟩ := q3.int htag.1
          have hw : ai_way rho l1 (cond mx (y < z) (z < y)) := by
            cases mx with
            | true => exact ai_lt_ok f7 ny nz hb
            | false => exact ai_lt_ok f7 nz ny hb
          refine row f1.sz (by rw [q4.len]; exact h4) (by omega) (by omega) ?_
          by_cases hcd : cond mx (y < z) (z < y)
          · obtain ⟨q, hq, e1, e2⟩ := hw.1 hcd
            obtain ⟨rq, k1, k2, k3, k4⟩ := hall q hq
            have ev : cond mx (if y < z then z else y) (if z < y then z else y) = z := by
              cases mx with
              | true => exact if_pos hcd
              | false => exact if_pos hcd
            rw [ev]
            refine (hK _ _ _ _ _ k1).2 (fun o ho => g1 o (k2 o ho)) (by omega) (by omega) _ _ _ _ _ _ ws (ai_ge_fr ⟨f0, f1, ⟨?_, q4⟩, f3, f4, f5, f6, f7, f8, f9⟩ e2)
            rw [e1]; exact q1
          · obtain ⟨q, hq, e1, e2⟩ := hw.2 hcd
            obtain ⟨rq, k1, k2, k3, k4⟩ := hall q hq
            have ev : cond mx (if y < z then z else y) (if z < y then z else y) = y := by
              cases mx with
              | true => exact if_neg hcd
              | false => exact if_neg hcd
            rw [ev]
            refine (hK _ _ _ _ _ k1).2 (fun o ho => g1 o (k2 o ho)) (by omega) (by omega) _ _ _ _ _ _ ws (ai_ge_fr ⟨f0, f1, ⟨?_, q4⟩, f3, f4, f5, f6, f7, f8, f9⟩ e2)
            rw [e1]; exact q3
theorem so_oinit (row : ∀ {H : Heap} {locs : List Loc} {cells slots : Nat} {ls : Array Slot} {a : Nat}, ls.size = nL → W p l e R s m args below meth c H locs cells slots Q (F0 m npc ls []) → W p l e R s m args below meth c H locs cells slots Q (F0 m pc ls [.ref a]))
    (hK : ai_KS p l e R s m args below meth c nL b0 rho tc dC dI base ws0 kE sE mk0 ms0 os0 Q K) (h : ai_o_oinit npc call K loc st g = some r) : ai_At p l e R s m args below meth c nL b0 rho tc dC dI base ws0 kE sE mk0 ms0 os0 Q pc loc st g r := by
  unfold ai_o_oinit at h
  match st, h with
  | [], h => cases h
  | _ :: _ :: _, h => cases h
  | [v], h =>
    simp only at h
    cases hb : Nat.beq (Prod.fst v) 3 with
    | false => rw [hb] at h; cases h
    | true =>
      rw [hb] at h
      have ht : v.1 = 3 := Nat.eq_of_beq_eq_true hb
      refine ai_At.step (hK _ _ _ _ _ h) ⟨Nat.le_refl _, Nat.le_refl _⟩ fun H locs cells slots ls vs ws ⟨f0, f1, f2, f3⟩ _ _ kk => ?_
      obtain ⟨w1, rest, rfl, q1, q2⟩ := f2.cons
      obtain ⟨a, e9, -, rfl⟩ := q1.rfr ht
      rw [q2.nil]
      exact row f1.sz (kk _ _ _ _ _ _ ws ⟨f0, f1, trivial, f3⟩)
end OPD
/-! ===== the check of an instruction's row ===== -/
def ai_dec (cc : ByteArray) (pc : Nat) (i : Instr) (n : Nat) : Bool := match decode cc pc with
  | .ok (j, k) => decide (j = i) && Nat.beq k n
  | .error _ => false
theorem ai_dec_ok {cc : ByteArray} {pc n : Nat} {i : Instr} (h : ai_dec cc pc i n = true) : decode cc pc = .ok (i, n) := by
  unfold ai_dec at h
  cases hd : decode cc pc with
  | error e => rw [hd] at h; cases h
  | ok q =>
    obtain ⟨j, k⟩ := q
    rw [hd] at h
    simp only [Bool.and_eq_true] at h
    rw [of_decide_eq_true h.1, Nat.eq_of_beq_eq_true h.2]
def ai_nocov (hs : List (Nat × Nat × Nat × Nat)) (pc : Nat) : Bool := hs.all (fun q => !(Nat.ble q.1 pc && Nat.blt pc q.2.1))
theorem ai_nocov_ok {hs : List (Nat × Nat × Nat × Nat)} {pc : Nat} (h : ai_nocov hs pc = true) : ∀ x ∈ tableOf hs, covers x pc = false := by
  intro x hx
  obtain ⟨q, hq, rfl⟩ := List.mem_map.mp hx
  have h1 := List.all_eq_true.mp h q hq
  rw [Bool.not_eq_true'] at h1
  show (decide (q.1 ≤ pc) && decide (pc < q.2.1)) = false
  by_cases c1 : q.1 ≤ pc
  · by_cases c2 : pc < q.2.1
    · have e1 : Nat.ble q.1 pc = true := Nat.ble_eq.mpr c1
      have e2 : Nat.blt pc q.2.1 = true := Nat.ble_eq.mpr c2
      rw [e1, e2] at h1; cases h1
    · simp [c2]
  · simp [c1]
def ai_ctn (k : Nat) : Nat := if k = 2 then 19 else 13
def ai_ctk (pc k h : Nat) : List (Nat × Nat × Nat × Nat) → Bool
  | [] => false
  | (a, b, hp, ct) :: t => cond (Nat.ble a pc && Nat.blt pc b) (cond (Nat.beq ct (ai_ctn k)) (Nat.beq hp h) (Nat.beq k 3 && Nat.beq ct 19 && ai_ctk pc k h t)) (ai_ctk pc k h t)
theorem ai_ctk_ok {pc k h : Nat} : ∀ {hs : List (Nat × Nat × Nat × Nat)}, ai_ctk pc k h hs = true → ∃ (pre : List ExceptionTableEntry) (x : ExceptionTableEntry) (suf : List ExceptionTableEntry), tableOf hs = pre ++ x :: suf ∧ (∀ z ∈ pre, covers z pc = false ∨ (k = 3 ∧ z.catchType = 19)) ∧ covers x pc = true ∧ x.handlerPc = h ∧ x.catchType = ai_ctn k
  | [], hh => by cases hh
  | (a, b, hp, ct) :: t, hh => by
    unfold ai_ctk at hh
    cases hc : (Nat.ble a pc && Nat.blt pc b) with
    | false =>
      rw [hc] at hh
      obtain ⟨pre, x, suf, e1, e2, e3⟩ := ai_ctk_ok (hs := t) hh
      refine ⟨⟨a, b, hp, ct⟩ :: pre, x, suf, by show _ :: tableOf t = _; rw [e1]; rfl, fun z hz => ?_, e3⟩
      rcases List.mem_cons.mp hz with rfl | hz
      · refine Or.inl ?_
        show (decide (a ≤ pc) && decide (pc < b)) = false
        by_cases c1 : a ≤ pc
        · by_cases c2 : pc < b
          · rw [Nat.ble_eq.mpr c1, show Nat.blt pc b = true from Nat.ble_eq.mpr c2] at hc; cases hc
          · simp [c2]
        · simp [c1]
      · exact e2 z hz
    | true =>
      rw [hc] at hh
      simp only [cond_true] at hh
      rw [Bool.and_eq_true] at hc
      have c1 : a ≤ pc := Nat.le_of_ble_eq_true hc.1
      have c2 : pc < b := Nat.le_of_ble_eq_true hc.2
      cases hk : Nat.beq ct (ai_ctn k) with
      | true =>
        rw [hk] at hh
        refine ⟨[], ⟨a, b, hp, ct⟩, tableOf t, rfl, (fun z hz => nomatch hz), ?_, Nat.eq_of_beq_eq_true hh, Nat.eq_of_beq_eq_true hk⟩
        show (decide (a ≤ pc) && decide (pc < b)) = true
        simp [c1, c2]
      | false =>
        rw [hk] at hh
        simp only [cond_false, Bool.and_eq_true] at hh
        obtain ⟨pre, x, suf, e1, e2, e3⟩ := ai_ctk_ok (hs := t) hh.2
        refine ⟨⟨a, b, hp, ct⟩ :: pre, x, suf, by show _ :: tableOf t = _; rw [e1]; rfl, fun z hz => ?_, e3⟩
        rcases List.mem_cons.mp hz with rfl | hz
        · exact Or.inr ⟨Nat.eq_of_beq_eq_true hh.1.1, Nat.eq_of_beq_eq_true hh.1.2⟩
        · exact e2 z hz
def ai_ctok (oc : Nat) (hs : List (Nat × Nat × Nat × Nat)) (pc k h : Nat) : Bool := cond (Nat.beq h 0) (ai_nocov hs pc) (Nat.beq h 65535 || (Nat.beq oc 9 && ai_ctk pc k h hs))
theorem ai_bH : (ai_tw 421 (.castable (ai_exc 2) (ai_exc 2)) && ai_tw 339 (.castable (ai_exc 3) (ai_exc 3)) && ai_tw 414 (.classLink (ai_cn 9) 19 (ai_exc 2)) && ai_tw 332 (.classLink (ai_cn 9) 13 (ai_exc 3))) = true := by decide +kernel
theorem ai_bArr : (ai_tw 70 (.arrayClass .int) && ai_tw 71 (.arrayClass .boolean) && ai_tw 1399 (.arrayClass .long)) = true := by decide +kernel
def ai_is (a b : Nat) : Bool := Nat.beq a b
noncomputable def ai_ck (M : ai_M) (pc : Nat) (e : ai_I) : Bool := match e with
  | (i, npc, k0, k1, k2, ks) => match i with
    | .iconst n => ai_dec M.2.1 pc i 1 && Nat.beq npc (pc + 1) && ai_ieq (Int32.ofInt n).toInt n
    | .bipush n => ai_dec M.2.1 pc i 2 && Nat.beq npc (pc + 2) && ai_ieq (Int8.ofInt n).toInt32.toInt n
    | .sipush n => ai_dec M.2.1 pc i 3 && Nat.beq npc (pc + 3) && ai_ieq (Int16.ofInt n).toInt32.toInt n
    | .ldc idx => ai_dec M.2.1 pc i 2 && Nat.beq npc (pc + 2) && ai_lcon.any (fun q => Nat.beq q.1 M.2.2.2.2.1 && Nat.beq q.2.1 idx && Nat.beq q.2.2.1 k0)
    | .lconst n => ai_dec M.2.1 pc i 1 && Nat.beq npc (pc + 1) && Nat.beq k0 n.val
    | .aconst_null => ai_dec M.2.1 pc i 1 && Nat.beq npc (pc + 1)
    | .iload k => ai_dec M.2.1 pc i 2 && Nat.beq npc (pc + 2) && Nat.beq k0 k
    | .iload_n k => ai_dec M.2.1 pc i 1 && Nat.beq npc (pc + 1) && Nat.beq k0 k.val
    | .aload k => ai_dec M.2.1 pc i 2 && Nat.beq npc (pc + 2) && Nat.beq k0 k
    | .aload_n k => ai_dec M.2.1 pc i 1 && Nat.beq npc (pc + 1) && Nat.beq k0 k.val
    | .istore k => ai_dec M.2.1 pc i 2 && Nat.beq npc (pc + 2) && Nat.beq k0 k && Nat.blt k0 M.2.2.1
    | .istore_n k => ai_dec M.2.1 pc i 1 && Nat.beq npc (pc + 1) && Nat.beq k0 k.val && Nat.blt k0 M.2.2.1
    | .astore k => ai_dec M.2.1 pc i 2 && Nat.beq npc (pc + 2) && Nat.beq k0 k && Nat.blt k0 M.2.2.1
    | .astore_n k => ai_dec M.2.1 pc i 1 && Nat.beq npc (pc + 1) && Nat.beq k0 k.val && Nat.blt k0 M.2.2.1
    | .iinc k n => ai_dec M.2.1 pc i 3 && Nat.beq npc (pc + 3) && Nat.beq k0 k && Nat.blt k0 M.2.2.1 && ai_ieq (Int32.ofInt n).toInt n
    | .goto off => ai_dec M.2.1 pc i 3 && ai_ieq ((pc : Int) + off) (k0 : Int)
    | .ifCond _ off => ai_dec M.2.1 pc i 3 && Nat.beq npc (pc + 3) && ai_ieq ((pc : Int) + off) (k0 : Int)
    | .if_icmp _ off => ai_dec M.2.1 pc i 3 && Nat.beq npc (pc + 3) && ai_ieq ((pc : Int) + off) (k0 : Int)
    | .ifnull off => ai_dec M.2.1 pc i 3 && Nat.beq npc (pc + 3) && ai_ieq ((pc : Int) + off) (k0 : Int)
    | .ifnonnull off => ai_dec M.2.1 pc i 3 && Nat.beq npc (pc + 3) && ai_ieq ((pc : Int) + off) (k0 : Int)
    | .tableswitch dflt lo hi offs => ai_dec M.2.1 pc i (npc - pc) && ai_ieq ((pc : Int) + dflt) (k0 : Int) && ai_ieq hi (lo + (ks.length : Int) - 1) && (List.range ks.length).all (fun i => match offs[i]? with
      | some off => ai_ieq ((pc : Int) + off) ((ai_nth k0 ks i : Nat) : Int)
      | none => false)
    | .getfield idx => ai_dec M.2.1 pc i 3 && Nat.beq npc (pc + 3) && ai_lg.any (fun q => Nat.beq q.1 M.2.2.2.2.1 && Nat.beq q.2.1 idx && Nat.beq q.2.2.1 k0 && Nat.beq q.2.2.2.1 k1)
    | .putfield idx => ai_dec M.2.1 pc i 3 && Nat.beq npc (pc + 3) && ai_lp.any (fun q => Nat.beq q.1 M.2.2.2.2.1 && Nat.beq q.2.1 idx && Nat.beq q.2.2.1 k0 && Nat.beq q.2.2.2.1 k1 && Nat.beq q.2.2.2.2.1 k2 && (Nat.beq q.2.2.2.2.2.2 0 || decide (M.1.name = "<init>")))
    | .newarray t => ai_dec M.2.1 pc i 2 && Nat.beq npc (pc + 2) && (match t with
      | .int => Nat.beq k0 1 && Nat.beq k1 0
      | .boolean => Nat.beq k0 2 && Nat.beq k1 0
      | .long => Nat.beq k0 3 && Nat.beq k1 4
      | _ => false)
    | .anewarray idx => ai_dec M.2.1 pc i 3 && Nat.beq npc (pc + 3) && ai_la.any (fun q => Nat.beq q.1 M.2.2.2.2.1 && Nat.beq q.2.1 idx && Nat.beq q.2.2.1 k0)
    | .multianewarray idx _ => ai_dec M.2.1 pc (.multianewarray idx 2) 4 && Nat.beq npc (pc + 4) && ai_lm.any (fun q => Nat.beq q.1 M.2.2.2.2.1 && Nat.beq q.2.1 idx)
    | .new idx => ai_dec M.2.1 pc i 3 && Nat.beq npc (pc + 3) && (match k2 with
      | 0 => ai_ln.any (fun q => Nat.beq q.1 M.2.2.2.2.1 && Nat.beq q.2.1 idx && Nat.beq q.2.2.1 k0)
      | _ => ai_lth.any (fun q => Nat.beq q.1 M.2.2.2.2.1 && Nat.beq q.2.1 idx && Nat.beq q.2.2.1 k0 && Nat.beq q.2.2.2.1 k1 && Nat.beq q.2.2.2.2.1 (ai_nth 0 ks 0) && Nat.beq q.2.2.2.2.2.1 (ai_nth 0 ks 1)) && ai_dec M.2.1 (pc + 3) .dup 1 &&
        (match ai_nth 0 ks 2 with
        | 0 => ai_dec M.2.1 (pc + 4) (.ldc (ai_nth 0 ks 0)) 2 && ai_dec M.2.1 (pc + 4 + 2) (.invokespecial (ai_nth 0 ks 1)) 3 && ai_dec M.2.1 (pc + 4 + 2 + 3) .athrow 1 && ai_nocov M.2.2.2.2.2.1 (pc + 4 + 2 + 3)
        | _ => ai_dec M.2.1 (pc + 4) (.ldc_w (ai_nth 0 ks 0)) 3 && ai_dec M.2.1 (pc + 4 + 3) (.invokespecial (ai_nth 0 ks 1)) 3 && ai_dec M.2.1 (pc + 4 + 3 + 3) .athrow 1 && ai_nocov M.2.2.2.2.2.1 (pc + 4 + 3 + 3)))
    | .invokevirtual idx => ai_dec M.2.1 pc i 3 && Nat.beq npc (pc + 3) && ai_lc.any (fun q => Nat.beq q.1 M.2.2.2.2.1 && Nat.beq q.2.1 idx && Nat.beq q.2.2.1 k0 && Nat.beq q.2.2.2.1 k1 && Nat.beq q.2.2.2.2.1 0 && Nat.beq q.2.2.2.2.2.1 (ai_nth 0 ks 0)) && ai_ctok M.2.2.2.2.1 M.2.2.2.2.2.1 pc 2 (ai_nth 0 ks 1) && ai_ctok M.2.2.2.2.1 M.2.2.2.2.2.1 pc 3 (ai_nth 0 ks 2)
    | .invokespecial idx => ai_dec M.2.1 pc i 3 && Nat.beq npc (pc + 3) && (match k2 with
      | 5 => ai_loi.any (fun q => Nat.beq q.1 M.2.2.2.2.1 && Nat.beq q.2.1 idx)
      | _ => ai_lc.any (fun q => Nat.beq q.1 M.2.2.2.2.1 && Nat.beq q.2.1 idx && Nat.beq q.2.2.1 k0 && Nat.beq q.2.2.2.1 k1 && (Nat.beq q.2.2.2.2.1 1 || Nat.beq q.2.2.2.2.1 2)) && ai_nocov M.2.2.2.2.2.1 pc)
    | .invokestatic idx => ai_dec M.2.1 pc i 3 && Nat.beq npc (pc + 3) && (match k2 with
      | 6 => ai_lcp.any (fun q => Nat.beq q.1 M.2.2.2.2.1 && Nat.beq q.2.1 idx)
      | 8 => ai_lmm.any (fun q => Nat.beq q.1 M.2.2.2.2.1 && Nat.beq q.2.1 idx && Nat.beq q.2.2.1 8)
      | 9 => ai_lmm.any (fun q => Nat.beq q.1 M.2.2.2.2.1 && Nat.beq q.2.1 idx && Nat.beq q.2.2.1 9)
      | _ => ai_lc.any (fun q => Nat.beq q.1 M.2.2.2.2.1 && Nat.beq q.2.1 idx && Nat.beq q.2.2.1 k0 && Nat.beq q.2.2.2.1 k1 && (Nat.beq q.2.2.2.2.1 3 || Nat.beq q.2.2.2.2.1 4 || Nat.beq q.2.2.2.2.1 6)) && ai_nocov M.2.2.2.2.2.1 pc)
    | .ireturn => ai_dec M.2.1 pc i 1 && (match k0 with
      | 0 => decide (M.2.2.2.1 = some .int)
      | _ => decide (M.2.2.2.1 = some .boolean))
    | .areturn => ai_dec M.2.1 pc i 1 && (match M.2.2.2.1 with
      | some (.object _) => true
      | some (.array _) => true
      | _ => false)
    | .return_ => ai_dec M.2.1 pc i 1 && decide (M.2.2.2.1 = none)
    | .ldc_w _ => false
    | _ => ai_dec M.2.1 pc i 1 && Nat.beq npc (pc + 1)
noncomputable def ai_ckM (M : ai_M) : Bool := M.2.2.2.2.2.2.all (fun q => ai_ck M q.1 q.2 && !(Nat.beq q.1 65535))
end
section
/-! ===== every instruction's row is sound ===== -/
theorem ai_vwlt {ci : Nat} {q : vw_C} (h : vwCl[ci]? = some q) : ci < 9 := (List.getElem?_eq_some_iff.mp h).1
theorem ai_uw {s : State} {args : Array Value} (hA : ai_AW s) {ci N : Nat} {C : String} {T : u_T} (hcl : vwCl[ci]? = some (C, T, N)) : ∀ w ∈ u_ws C T N, w.before args s = true := by
  intro w hw
  have hb := List.all_eq_true.mp ai_bU_ok ci (List.mem_range.mpr (ai_vwlt hcl))
  unfold ai_bU at hb
  rw [hcl] at hb
  cases hu : ai_up[ci]? with
  | none => rw [hu] at hb; cases hb
  | some ps =>
    rw [hu] at hb
    obtain ⟨k, hk, rfl⟩ := List.mem_map.mp hw
    have h1 := List.all_eq_true.mp hb k hk
    cases hp : ps[k]? with
    | none => simp only [hp] at h1; cases h1
    | some i =>
      simp only [hp, Bool.and_eq_true] at h1
      exact hA.use (ai_tw_in h1.1) h1.2 args
theorem ai_ty_ok {ci N : Nat} {C : String} {T : u_T} (hcl : vwCl[ci]? = some (C, T, N)) : ∀ k, k < N → parseFieldDescriptor (T k).2.2.1 = some (ai_ty0 T k) := by
  intro k hk
  have hb := List.all_eq_true.mp ai_bT_ok ci (List.mem_range.mpr (ai_vwlt hcl))
  unfold ai_bT at hb
  rw [hcl] at hb
  have h1 := List.all_eq_true.mp hb k (List.mem_range.mpr hk)
  unfold ai_ty0
  cases hp : parseFieldDescriptor (T k).2.2.1 with
  | none => rw [hp] at h1; cases h1
  | some t => rfl
theorem ai_nm_ok : ∀ {ci N : Nat} {C : String} {T : u_T}, vwCl[ci]? = some (C, T, N) → ∀ a, a < N → ∀ b, b < N → a ≠ b → (T a).2.1 ≠ (T b).2.1
  | 0, _, _, _, hcl => by
    have hcl : some (RX0, TX0, 8) = some (_, _, _) := hcl
    cases hcl
    exact nmX0
  | 1, _, _, _, hcl => by
    have hcl : some (RX1, TX1, 4) = some (_, _, _) := hcl
    cases hcl
    exact nmX1
  | 2, _, _, _, hcl => by
    have hcl : some (RX2, TX2, 2) = some (_, _, _) := hcl
    cases hcl
    exact nmX2
  | 3, _, _, _, hcl => by
    have hcl : some (RX3, TX3, 6) = some (_, _, _) := hcl
    cases hcl
    exact nmX3
  | 4, _, _, _, hcl => by
    have hcl : some (RX4, TX4, 1) = some (_, _, _) := hcl
    cases hcl
    exact nmX4
  | 5, _, _, _, hcl => by
    have hcl : some (RX5, TX5, 13) = some (_, _, _) := hcl
    cases hcl
    exact nmX5
  | 6, _, _, _, hcl => by
    have hcl : some (RX6, TX6, 9) = some (_, _, _) := hcl
    cases hcl
    exact nmX6
  | 7, _, _, _, hcl => by
    have hcl : some (RX7, TX7, 15) = some (_, _, _) := hcl
    cases hcl
    exact nmX7
  | 8, _, _, _, hcl => by
    have hcl : some (RX8, TX8, 38) = some (_, _, _) := hcl
    cases hcl
    exact nmX8
  | ci + 9, _, _, _, hcl => absurd (ai_vwlt hcl) (by omega)
theorem ai_any_in {α : Type} {l1 : List α} {f : α → Bool} (h : l1.any f = true) : ∃ q ∈ l1, f q = true := List.any_eq_true.mp h
section SND
variable {p : Program} {l : Launch} {e : Env} {R : Room} {s : State} {m : MethodId} {args : Array Value} {below : List Frame} {meth : Method} {c : Code} {nL b0 : Nat} {rho : Nat → Int32} {tc dC : Nat → ClassId} {dI : Nat → Nat → Nat} {base : Nat} {ws0 : va_W} {kE sE mk0 ms0 : Nat} {os0 : List ai_O} {Q : State → Prop}
variable {M : ai_M} {L : Nat} {sa : Nat → Nat} {sl : Int × Int} {d : Nat} {call : ai_K} {K : ai_K4} {pc npc : Nat} {loc st : List ai_V} {g : ai_G} {r : ai_R}
theorem ai_ct_of (hCx : ai_Cx p l e R s m args below meth c nL b0 rho tc dC dI base ws0 kE sE mk0 ms0 os0 Q M L sa sl d) {k h : Nat} (hk : k = 2 ∨ k = 3) (hc : ai_ctok M.2.2.2.2.1 M.2.2.2.2.2.1 pc k h = true) : ai_Ct p l e R s m args below meth c Q pc k h := by
  obtain ⟨⟨hx, hb, hml, hMl, hown, hlocks, hret, hname, htab⟩, hst, hSF, hD, hL, ⟨hRc, hRs⟩, hQ, hfr, hlo⟩ := hCx
  unfold ai_ctok at hc
  cases h0 : Nat.beq h 0 with
  | true =>
    rw [h0] at hc
    exact Or.inl ⟨Nat.eq_of_beq_eq_true h0, by rw [htab]; exact ai_nocov_ok hc⟩
  | false =>
    rw [h0] at hc
    simp only [cond_false, Bool.or_eq_true, Bool.and_eq_true] at hc
    rcases hc with hc | ⟨hoc, hc⟩
    · exact Or.inr (Or.inr (Nat.eq_of_beq_eq_true hc))
    · have hoc : M.2.2.2.2.1 = 9 := Nat.eq_of_beq_eq_true hoc
      rw [hoc] at hown
      obtain ⟨pre, x, suf, e1, e2, e3, e4, e5⟩ := ai_ctk_ok hc
      have hh0 : h ≠ 0 := fun q => by rw [q] at h0; cases h0
      have hbH := ai_bH
      simp only [Bool.and_eq_true] at hbH
      obtain ⟨⟨⟨w1, w2⟩, w3⟩, w4⟩ := hbH
      have l19 : (Cond.classLink (ai_cn 9) 19 (ai_exc 2)).before args s = true := hSF.1.use (ai_tw_in w3) rfl args
      have l13 : (Cond.classLink (ai_cn 9) 13 (ai_exc 3)).before args s = true := hSF.1.use (ai_tw_in w4) rfl args
      have hlk : (Cond.classLink (ai_cn 9) x.catchType (ai_exc k)).before args s = true := by
        rw [e5]
        rcases hk with rfl | rfl
        · exact l19
        · exact l13
      have hcast : (Cond.castable (ai_exc k) (ai_exc k)).before args s = true := by
        rcases hk with rfl | rfl
        · exact hSF.1.use (ai_tw_in w1) rfl args
        · exact hSF.1.use (ai_tw_in w2) rfl args
      refine Or.inr (Or.inl ⟨hh0, fun {H locs cells slots ls rest q ce} hq hv hcl kk => ?_⟩)
      refine vx_catch (own := ai_cn 9) (name := ai_exc k) hown pre x suf (by rw [htab]; exact e1) (fun z hz => ?_) e3 (fun q => ?_) hlk hcast hq hv hcl (by rw [e4]; exact kk)
      · rcases e2 z hz with hz1 | ⟨hz1, hz2⟩
        · exact Or.inl hz1
        · refine Or.inr ⟨by rw [hz2]; decide, ai_exc 2, by rw [hz2]; exact l19, ?_⟩
          rw [hz1]
          exact hSF.2.2.2.2.2.2.2.2.2.2.2.1
      · rw [e5] at q
        rcases hk with rfl | rfl <;> exact absurd q (by decide)
theorem ai_ct0 (hCx : ai_Cx p l e R s m args below meth c nL b0 rho tc dC dI base ws0 kE sE mk0 ms0 os0 Q M L sa sl d) {k : Nat} (hc : ai_nocov M.2.2.2.2.2.1 pc = true) : ai_Ct p l e R s m args below meth c Q pc k 0 := Or.inl ⟨rfl, by rw [hCx.1.2.2.2.2.2.2.2.2]; exact ai_nocov_ok hc⟩
theorem ai_dvSR : ∀ {fs : List ai_V}, fs.all (fun v => decide (v = ai_i 0 ∨ v = ai_nul)) = true → ∀ (ws : va_W), ai_SR b0 rho ws fs (fs.map ai_dv)
  | [], _, _ => trivial
  | v :: t, h, ws => by
    rw [List.all_cons, Bool.and_eq_true] at h
    refine ⟨?_, ai_dvSR h.2 ws⟩
    rcases of_decide_eq_true h.1 with rfl | rfl
    · exact ai_Rv.mkI (ai_num_i rfl)
    · exact ai_Rv.mkN
theorem op_new (hCx : ai_Cx p l e R s m args below meth c nL b0 rho tc dC dI base ws0 kE sE mk0 ms0 os0 Q M L sa sl d) (hK : ai_KS p l e R s m args below meth c nL b0 rho tc dC dI base ws0 kE sE mk0 ms0 os0 Q K) {idx k0 k1 k2 : Nat} {ks : List Nat} {op : ai_Op} (hck : ai_ck M pc (.new idx, npc, k0, k1, k2, ks) = true) (hop : ai_sem sl (.new idx, npc, k0, k1, k2, ks) = some op) (h : op call K loc st g = some r) : ai_At p l e R s m args below meth c nL b0 rho tc dC dI base ws0 kE sE mk0 ms0 os0 Q pc loc st g r := by
  obtain ⟨⟨hx, hb, hml, hMl, hown, hlocks, hret, hname, htab⟩, hst, hSF, hD, ⟨hL1, hL2, hL3⟩, ⟨hRc, hRs⟩, hQ, hfr, hlo⟩ := hCx
  match k2, hck, hop with
  | 0, hck, hop =>
    have hck : (ai_dec M.2.1 pc (.new idx) 3 && Nat.beq npc (pc + 3) && ai_ln.any (fun q => Nat.beq q.1 M.2.2.2.2.1 && Nat.beq q.2.1 idx && Nat.beq q.2.2.1 k0)) = true := hck
    have hop : some (ai_o_new k0 (ai_fld k0) npc) = some op := hop
    cases hop
    simp only [Bool.and_eq_true] at hck
    obtain ⟨⟨c1, c2⟩, c3⟩ := hck
    obtain ⟨⟨oc, ix, ci, p1, p2, p3⟩, hq, hqq⟩ := ai_any_in c3
    simp only [Bool.and_eq_true] at hqq
    obtain ⟨⟨e1, e2⟩, e3⟩ := hqq
    have e1 : oc = M.2.2.2.2.1 := Nat.eq_of_beq_eq_true e1
    have e2 : ix = idx := Nat.eq_of_beq_eq_true e2
    have e3 : ci = k0 := Nat.eq_of_beq_eq_true e3
    subst e1 e2 e3
    have hb9 := List.all_eq_true.mp ai_bN_ok _ hq
    unfold ai_bN at hb9
    simp only at hb9
    cases hcl : vwCl[ci]? with
    | none => rw [hcl] at hb9; cases hb9
    | some q0 =>
      obtain ⟨C, T, N⟩ := q0
      rw [hcl] at hb9
      simp only [Bool.and_eq_true] at hb9
      obtain ⟨⟨⟨⟨⟨g1, g2⟩, g3⟩, g4⟩, g5⟩, g6⟩ := hb9
      exact so_new (Ts := u_ws C T N) (ty0 := ai_ty0 T) (fv := (ai_fld ci).map ai_dv) hx hb (ai_uw hSF.1 hcl) hown hSF.2.1 hSF.2.2.2.2.2.2.2.2.2.1 hRc hRs hcl (fun w hw => hw) (ai_ty_ok hcl) (hSF.1.use (ai_tw_in g1) rfl args) (hSF.1.use (ai_tw_in g2) rfl args) (hSF.1.use (ai_tw_in g3) rfl args)
        (fun j hj => of_decide_eq_true (List.all_eq_true.mp g6 j (List.mem_range.mpr hj))) (ai_dvSR g5) (of_decide_eq_true g4) (ai_dec_ok c1) (Nat.eq_of_beq_eq_true c2) hK h
  | k2 + 1, hck, hop =>
    have hck : (ai_dec M.2.1 pc (.new idx) 3 && Nat.beq npc (pc + 3) && (ai_lth.any (fun q => Nat.beq q.1 M.2.2.2.2.1 && Nat.beq q.2.1 idx && Nat.beq q.2.2.1 k0 && Nat.beq q.2.2.2.1 k1 && Nat.beq q.2.2.2.2.1 (ai_nth 0 ks 0) && Nat.beq q.2.2.2.2.2.1 (ai_nth 0 ks 1)) && ai_dec M.2.1 (pc + 3) .dup 1 &&
        (match (generalizing := false) ai_nth 0 ks 2 with
        | 0 => ai_dec M.2.1 (pc + 4) (.ldc (ai_nth 0 ks 0)) 2 && ai_dec M.2.1 (pc + 4 + 2) (.invokespecial (ai_nth 0 ks 1)) 3 && ai_dec M.2.1 (pc + 4 + 2 + 3) .athrow 1 && ai_nocov M.2.2.2.2.2.1 (pc + 4 + 2 + 3)
        | _ => ai_dec M.2.1 (pc + 4) (.ldc_w (ai_nth 0 ks 0)) 3 && ai_dec M.2.1 (pc + 4 + 3) (.invokespecial (ai_nth 0 ks 1)) 3 && ai_dec M.2.1 (pc + 4 + 3 + 3) .athrow 1 && ai_nocov M.2.2.2.2.2.1 (pc + 4 + 3 + 3)))) = true := hck
    have hop : some (ai_o_throw k0) = some op := hop
    cases hop
    simp only [Bool.and_eq_true] at hck
    obtain ⟨⟨c1, c2⟩, ⟨c3, c4⟩, c5⟩ := hck
    obtain ⟨⟨oc, ik, k, k9, is, ic, pos⟩, hq, hqq⟩ := ai_any_in c3
    simp only [Bool.and_eq_true] at hqq
    obtain ⟨⟨⟨⟨⟨e1, e2⟩, e3⟩, e4⟩, e5⟩, e6⟩ := hqq
    have e1 : oc = M.2.2.2.2.1 := Nat.eq_of_beq_eq_true e1
    have e2 : ik = idx := Nat.eq_of_beq_eq_true e2
    have e3 : k = k0 := Nat.eq_of_beq_eq_true e3
    have e4 : k9 = k1 := Nat.eq_of_beq_eq_true e4
    have e5 : is = ai_nth 0 ks 0 := Nat.eq_of_beq_eq_true e5
    have e6 : ic = ai_nth 0 ks 1 := Nat.eq_of_beq_eq_true e6
    rw [← e5, ← e6] at c5
    subst e1 e2 e3 e4
    have hb9 := List.all_eq_true.mp ai_bTh_ok _ hq
    simp only [Bool.and_eq_true] at hb9
    obtain ⟨⟨⟨g1, g2⟩, g3⟩, g4⟩ := hb9
    have hk : k = 2 ∨ k = 3 := by
      rcases Bool.or_eq_true_iff.mp g2 with g2 | g2
      · exact Or.inl (Nat.eq_of_beq_eq_true g2)
      · exact Or.inr (Nat.eq_of_beq_eq_true g2)
    obtain ⟨⟨z1, z2, z3⟩, hz, hzz⟩ := ai_any_in g4
    simp only [Bool.and_eq_true] at hzz
    have y1 : z1 = M.2.2.2.2.1 := Nat.eq_of_beq_eq_true hzz.1.1
    have y2 : z2 = ic := Nat.eq_of_beq_eq_true hzz.1.2
    have y3 : z3 = k := Nat.eq_of_beq_eq_true hzz.2
    subst y1 y2 y3
    have hw9 := List.all_eq_true.mp ai_bTw_ok _ hz
    unfold ai_bTw at hw9
    simp only at hw9
    have hwat : ∀ w ∈ ai_atX (ai_cn M.2.2.2.2.1) z2 (ai_exc z3) (ai_ix z3) (ai_rx z3) ai_thn, w.before args s = true ∧ vx_ot w = true := fun w hw => by
      have q9 := List.all_eq_true.mp hw9 w hw
      simp only [Bool.and_eq_true] at q9
      exact ⟨hSF.1.use (of_decide_eq_true q9.1.1) q9.1.2 args, q9.2⟩
    cases hs9 : ai_strs[k9]? with
    | none => rw [hs9] at g3; cases g3
    | some qs =>
      obtain ⟨so, si, text⟩ := qs
      rw [hs9] at g3
      simp only [Bool.and_eq_true] at g3
      have y4 : so = ai_cn M.2.2.2.2.1 := of_decide_eq_true g3.1
      have y5 : si = is := Nat.eq_of_beq_eq_true g3.2
      subst y4 y5
      have hstr : vk_R (ai_cn M.2.2.2.2.1) si text (sa k9) s := hSF.2.2.2.2.2.1 k9 (ai_cn M.2.2.2.2.1, si, text) hs9
      obtain ⟨x0, x1, x2, x5⟩ := ai_rx_ok hk
      have hTi := ai_bTi
      have hTf := ai_bTf
      simp only [Bool.and_eq_true] at hTi hTf
      have hini : (Cond.initialized (ai_exc z3)).before args s = true := by
        rcases hk with rfl | rfl
        · exact hSF.1.use (ai_tw_in hTi.1) rfl args
        · exact hSF.1.use (ai_tw_in hTi.2) rfl args
      have hfit : Bundle.fit (ai_exc z3) = true := by
        rcases hk with rfl | rfl
        · exact hTf.1.1
        · exact hTf.1.2
      have hkk : (Cond.classLink (ai_cn M.2.2.2.2.1) ik (ai_exc z3)).before args s = true := hSF.1.use (ai_tw_in g1) rfl args
      have d4 : ∃ n4, ((decode M.2.1 (pc + 4) = .ok (.ldc si, 2) ∧ n4 = 2) ∨ (decode M.2.1 (pc + 4) = .ok (.ldc_w si, 3) ∧ n4 = 3)) ∧ decode M.2.1 (pc + 4 + n4) = .ok (.invokespecial z2, 3) ∧ decode M.2.1 (pc + 4 + n4 + 3) = .ok (.athrow, 1) ∧ ai_nocov M.2.2.2.2.2.1 (pc + 4 + n4 + 3) = true := by
        split at c5
        · simp only [Bool.and_eq_true] at c5
          exact ⟨2, Or.inl ⟨ai_dec_ok c5.1.1.1, rfl⟩, ai_dec_ok c5.1.1.2, ai_dec_ok c5.1.2, c5.2⟩
        · simp only [Bool.and_eq_true] at c5
          exact ⟨3, Or.inr ⟨ai_dec_ok c5.1.1.1, rfl⟩, ai_dec_ok c5.1.1.2, ai_dec_ok c5.1.2, c5.2⟩
      obtain ⟨n4, d4, d6, d9, hnc⟩ := d4
      refine so_throw hk hRc hRs hQ (fun {H locs cells slots ls} hS hsz hc1 hc2 hXC hlocs hc3 hc4 => ?_) h
      exact ai_throwX hx hb hst x0 x1 x2 x5 hown hfit (fun n hn => List.all_eq_true.mp hTf.2 n hn) hkk hini hstr (fun w hw => (hwat w hw).1)
        (fun w hw => by
          rcases List.mem_cons.mp hw with rfl | hw
          · exact (ai_bTo _ _ _).1
          · rcases List.mem_cons.mp hw with rfl | hw
            · exact (ai_bTo "" 0 _).2
            · exact (hwat w hw).2)
        hSF.2.2.2.2.2.2.1 hSF.2.2.2.2.2.2.2.1 hS (hsz.trans hml.symm) (ai_dec_ok c1) (ai_dec_ok c4) d4 d6 d9 (by rw [htab]; exact ai_nocov_ok hnc) (by show 2 + 3 < R.frames; omega) (Nat.le_trans (by show 13 * (2 + 1) + 43 ≤ 360; decide) (Nat.le_trans (Nat.le_add_left _ _) hlo)) hc1 hc2 hlocks hXC hlocs hc3 hc4
theorem op_special (hCx : ai_Cx p l e R s m args below meth c nL b0 rho tc dC dI base ws0 kE sE mk0 ms0 os0 Q M L sa sl d) (hCS : ai_CS l b0 L base rho tc dC dI sa call d) (hK5 : ∀ loc st g, K 65535 loc st g = none) (hK : ai_KS p l e R s m args below meth c nL b0 rho tc dC dI base ws0 kE sE mk0 ms0 os0 Q K) {idx k0 k1 k2 : Nat} {ks : List Nat} {op : ai_Op} (hck : ai_ck M pc (.invokespecial idx, npc, k0, k1, k2, ks) = true) (hop : ai_sem sl (.invokespecial idx, npc, k0, k1, k2, ks) = some op) (h : op call K loc st g = some r) : ai_At p l e R s m args below meth c nL b0 rho tc dC dI base ws0 kE sE mk0 ms0 os0 Q pc loc st g r := by
  have hCx0 := hCx
  obtain ⟨⟨hx, hb, hml, hMl, hown, hlocks, hret, hname, htab⟩, hst, hSF, hD, ⟨hL1, hL2, hL3⟩, ⟨hRc, hRs⟩, hQ, hfr, hlo⟩ := hCx
  have hck : (ai_dec M.2.1 pc (.invokespecial idx) 3 && Nat.beq npc (pc + 3) && (match (generalizing := false) k2 with
      | 5 => ai_loi.any (fun q => Nat.beq q.1 M.2.2.2.2.1 && Nat.beq q.2.1 idx)
      | _ => ai_lc.any (fun q => Nat.beq q.1 M.2.2.2.2.1 && Nat.beq q.2.1 idx && Nat.beq q.2.2.1 k0 && Nat.beq q.2.2.2.1 k1 && (Nat.beq q.2.2.2.2.1 1 || Nat.beq q.2.2.2.2.1 2)) && ai_nocov M.2.2.2.2.2.1 pc)) = true := hck
  have hop : (match (generalizing := false) k2 with
      | 5 => some (ai_o_oinit npc)
      | _ => some (ai_o_virt false (ai_nth 0 ks 0) k0 k1 0 0 npc)) = some op := hop
  rw [Bool.and_eq_true, Bool.and_eq_true] at hck
  obtain ⟨⟨c1, c2⟩, c3⟩ := hck
  have c1 := ai_dec_ok c1
  have c2 : npc = pc + 3 := Nat.eq_of_beq_eq_true c2
  by_cases hk : k2 = 5
  · subst hk
    cases hop
    obtain ⟨⟨oc, ix, pos⟩, hq, hqq⟩ := ai_any_in c3
    simp only [Bool.and_eq_true] at hqq
    have e1 : oc = M.2.2.2.2.1 := Nat.eq_of_beq_eq_true hqq.1
    have e2 : ix = idx := Nat.eq_of_beq_eq_true hqq.2
    subst e1 e2 c2
    have hb9 := List.all_eq_true.mp ai_bO_ok _ hq
    refine so_oinit (fun {H locs cells slots ls a} hsz k => ?_) hK h
    exact W.objInit hx hb hown (hSF.1.use (ai_tw_in hb9) rfl args) (hSF.1.use (ai_tw_in ai_bO1) rfl args) (hSF.1.use (ai_tm ai_bO2) rfl args) (g := F0 m pc ls [.ref a]) rfl (hsz.trans hml.symm) (rest := []) rfl c1 (by omega) (show 2 * 0 + 0 + 12 ≤ R.locals from Nat.le_trans (by decide) (Nat.le_trans (Nat.le_add_left _ _) hlo)) k
  · have c3 : (ai_lc.any (fun q => Nat.beq q.1 M.2.2.2.2.1 && Nat.beq q.2.1 idx && Nat.beq q.2.2.1 k0 && Nat.beq q.2.2.2.1 k1 && (Nat.beq q.2.2.2.2.1 1 || Nat.beq q.2.2.2.2.1 2)) && ai_nocov M.2.2.2.2.2.1 pc) = true := by
      split at c3
      · exact absurd rfl hk
      · exact c3
    have hop : some (ai_o_virt false (ai_nth 0 ks 0) k0 k1 0 0 npc) = some op := by
      split at hop
      · exact absurd rfl hk
      · exact hop
    cases hop
    rw [Bool.and_eq_true] at c3
    obtain ⟨⟨oc, ix, j, n, kind, ci, pos⟩, hq, hqq⟩ := ai_any_in c3.1
    simp only [Bool.and_eq_true] at hqq
    obtain ⟨⟨⟨⟨e1, e2⟩, e3⟩, e4⟩, e5⟩ := hqq
    have e1 : oc = M.2.2.2.2.1 := Nat.eq_of_beq_eq_true e1
    have e2 : ix = idx := Nat.eq_of_beq_eq_true e2
    have e3 : j = k0 := Nat.eq_of_beq_eq_true e3
    have e4 : n = k1 := Nat.eq_of_beq_eq_true e4
    have e5 : kind = 1 ∨ kind = 2 := (Bool.or_eq_true_iff.mp e5).imp (fun q => Nat.eq_of_beq_eq_true q) (fun q => Nat.eq_of_beq_eq_true q)
    subst e2 e3 e4
    exact op_spec hCx0 hCS e1 e5 hq c1 c2 (ai_ct0 hCx0 c3.2) (ai_ct0 hCx0 c3.2) hK5 hK h
theorem op_static (hCx : ai_Cx p l e R s m args below meth c nL b0 rho tc dC dI base ws0 kE sE mk0 ms0 os0 Q M L sa sl d) (hCS : ai_CS l b0 L base rho tc dC dI sa call d) (hK5 : ∀ loc st g, K 65535 loc st g = none) (hK : ai_KS p l e R s m args below meth c nL b0 rho tc dC dI base ws0 kE sE mk0 ms0 os0 Q K) {idx k0 k1 k2 : Nat} {ks : List Nat} {op : ai_Op} (hck : ai_ck M pc (.invokestatic idx, npc, k0, k1, k2, ks) = true) (hop : ai_sem sl (.invokestatic idx, npc, k0, k1, k2, ks) = some op) (h : op call K loc st g = some r) : ai_At p l e R s m args below meth c nL b0 rho tc dC dI base ws0 kE sE mk0 ms0 os0 Q pc loc st g r := by
  have hCx0 := hCx
  obtain ⟨⟨hx, hb, hml, hMl, hown, hlocks, hret, hname, htab⟩, hst, hSF, hD, ⟨hL1, hL2, hL3⟩, ⟨hRc, hRs⟩, hQ, hfr, hlo⟩ := hCx
  have hck : (ai_dec M.2.1 pc (.invokestatic idx) 3 && Nat.beq npc (pc + 3) && (match (generalizing := false) k2 with
      | 6 => ai_lcp.any (fun q => Nat.beq q.1 M.2.2.2.2.1 && Nat.beq q.2.1 idx)
      | 8 => ai_lmm.any (fun q => Nat.beq q.1 M.2.2.2.2.1 && Nat.beq q.2.1 idx && Nat.beq q.2.2.1 8)
      | 9 => ai_lmm.any (fun q => Nat.beq q.1 M.2.2.2.2.1 && Nat.beq q.2.1 idx && Nat.beq q.2.2.1 9)
      | _ => ai_lc.any (fun q => Nat.beq q.1 M.2.2.2.2.1 && Nat.beq q.2.1 idx && Nat.beq q.2.2.1 k0 && Nat.beq q.2.2.2.1 k1 && (Nat.beq q.2.2.2.2.1 3 || Nat.beq q.2.2.2.2.1 4 || Nat.beq q.2.2.2.2.1 6)) && ai_nocov M.2.2.2.2.2.1 pc)) = true := hck
  have hop : (match (generalizing := false) k2 with
      | 6 => some (ai_o_copy npc)
      | 8 => some (ai_o_mm true npc)
      | 9 => some (ai_o_mm false npc)
      | _ => some (ai_o_call false k0 k1 0 0 npc)) = some op := hop
  rw [Bool.and_eq_true, Bool.and_eq_true] at hck
  obtain ⟨⟨c1, c2⟩, c3⟩ := hck
  have c1 := ai_dec_ok c1
  have c2 : npc = pc + 3 := Nat.eq_of_beq_eq_true c2
  have hmm := ai_bMM1
  simp only [Bool.and_eq_true] at hmm
  obtain ⟨⟨⟨⟨w1, w2⟩, w3⟩, w4⟩, w5⟩ := hmm
  have h360 : 60 * d + 360 ≥ 360 := Nat.le_add_left _ _
  by_cases hk6 : k2 = 6
  · subst hk6
    cases hop
    obtain ⟨⟨oc, ix, pos⟩, hq, hqq⟩ := ai_any_in c3
    simp only [Bool.and_eq_true] at hqq
    have e1 : oc = M.2.2.2.2.1 := Nat.eq_of_beq_eq_true hqq.1
    have e2 : ix = idx := Nat.eq_of_beq_eq_true hqq.2
    subst e1 e2
    have hb9 := List.all_eq_true.mp ai_bC_ok _ hq
    have hc1 := ai_bC1
    simp only [Bool.and_eq_true] at hc1
    exact so_copy hx hb hml hown hSF.2.1 (hSF.1.use (ai_tw_in hb9) rfl args) (hSF.1.use (ai_tw_in hc1.1.1) rfl args) (hSF.1.use (ai_tw_in hc1.1.2) rfl args) (hSF.1.use (ai_tw_in hc1.2) rfl args) (by omega) (Nat.le_trans (by decide +kernel) (Nat.le_trans h360 hlo)) c1 c2 hK h
  · by_cases hk8 : k2 = 8
    · subst hk8
      cases hop
      obtain ⟨⟨oc, ix, kk, pos⟩, hq, hqq⟩ := ai_any_in c3
      simp only [Bool.and_eq_true] at hqq
      have e1 : oc = M.2.2.2.2.1 := Nat.eq_of_beq_eq_true hqq.1.1
      have e2 : ix = idx := Nat.eq_of_beq_eq_true hqq.1.2
      have e3 : kk = 8 := Nat.eq_of_beq_eq_true hqq.2
      subst e1 e2 e3 c2
      have hb9 := List.all_eq_true.mp ai_bMM_ok _ hq
      refine so_mm (mx := true) hRc hRs (fun {H locs cells slots ls rest y z} hsz h4 hc1 hc2 k => ?_) hK h
      have h8 := ai_cat4 h4
      exact va_mmax hx hb (hml.trans hsz.symm) hown (hSF.1.use (ai_tw_in hb9) rfl args) (hSF.1.use (ai_tw_in w1) rfl args) (hSF.1.use (ai_tw_in w5) rfl args) (hSF.1.use (ai_tw_in w2) rfl args) (by omega) (Nat.le_trans (Nat.add_le_add_right h8 13) (Nat.le_trans (by decide) (Nat.le_trans h360 hlo))) hc1 hc2 c1 k
    · by_cases hk9 : k2 = 9
      · subst hk9
        cases hop
        obtain ⟨⟨oc, ix, kk, pos⟩, hq, hqq⟩ := ai_any_in c3
        simp only [Bool.and_eq_true] at hqq
        have e1 : oc = M.2.2.2.2.1 := Nat.eq_of_beq_eq_true hqq.1.1
        have e2 : ix = idx := Nat.eq_of_beq_eq_true hqq.1.2
        have e3 : kk = 9 := Nat.eq_of_beq_eq_true hqq.2
        subst e1 e2 e3 c2
        have hb9 := List.all_eq_true.mp ai_bMM_ok _ hq
        have hb9 : (Nat.beq 9 9 && ai_tw pos (.methodLink (ai_cn M.2.2.2.2.1) ix Lib.Math.min.name)) = true := hb9
        refine so_mm (mx := false) hRc hRs (fun {H locs cells slots ls rest y z} hsz h4 hc1 hc2 k => ?_) hK h
        have h8 := ai_cat4 h4
        exact va_mmin hx hb (hml.trans hsz.symm) hown (hSF.1.use (ai_tw_in (Bool.and_eq_true_iff.mp hb9).2) rfl args) (hSF.1.use (ai_tw_in w3) rfl args) (hSF.1.use (ai_tw_in w5) rfl args) (hSF.1.use (ai_tw_in w4) rfl args) (by omega) (Nat.le_trans (Nat.add_le_add_right h8 13) (Nat.le_trans (by decide) (Nat.le_trans h360 hlo))) hc1 hc2 c1 k
      · have c3 : (ai_lc.any (fun q => Nat.beq q.1 M.2.2.2.2.1 && Nat.beq q.2.1 idx && Nat.beq q.2.2.1 k0 && Nat.beq q.2.2.2.1 k1 && (Nat.beq q.2.2.2.2.1 3 || Nat.beq q.2.2.2.2.1 4 || Nat.beq q.2.2.2.2.1 6)) && ai_nocov M.2.2.2.2.2.1 pc) = true := by
          split at c3
          · exact absurd rfl hk6
          · exact absurd rfl hk8
          · exact absurd rfl hk9
          · exact c3
        have hop : some (ai_o_call false k0 k1 0 0 npc) = some op := by
          split at hop
          · exact absurd rfl hk6
          · exact absurd rfl hk8
          · exact absurd rfl hk9
          · exact hop
        cases hop
        rw [Bool.and_eq_true] at c3
        obtain ⟨⟨oc, ix, j, n, kind, ci, pos⟩, hq, hqq⟩ := ai_any_in c3.1
        simp only [Bool.and_eq_true] at hqq
        obtain ⟨⟨⟨⟨e1, e2⟩, e3⟩, e4⟩, e5⟩ := hqq
        have e1 : oc = M.2.2.2.2.1 := Nat.eq_of_beq_eq_true e1
        have e2 : ix = idx := Nat.eq_of_beq_eq_true e2
        have e3 : j = k0 := Nat.eq_of_beq_eq_true e3
        have e4 : n = k1 := Nat.eq_of_beq_eq_true e4
        have e5 : kind = 3 ∨ kind = 4 ∨ kind = 6 := by
          simp only [Bool.or_eq_true] at e5
          rcases e5 with (q | q) | q
          · exact Or.inl (Nat.eq_of_beq_eq_true q)
          · exact Or.inr (Or.inl (Nat.eq_of_beq_eq_true q))
          · exact Or.inr (Or.inr (Nat.eq_of_beq_eq_true q))
        subst e2 e3 e4
        exact op_stat hCx0 hCS e1 e5 hq c1 c2 (ai_ct0 hCx0 c3.2) (ai_ct0 hCx0 c3.2) hK5 hK h
set_option maxHeartbeats 4000000 in
theorem op_sound (hCx : ai_Cx p l e R s m args below meth c nL b0 rho tc dC dI base ws0 kE sE mk0 ms0 os0 Q M L sa sl d) (hCS : ai_CS l b0 L base rho tc dC dI sa call d) (hK5 : ∀ loc st g, K 65535 loc st g = none) (hK : ai_KS p l e R s m args below meth c nL b0 rho tc dC dI base ws0 kE sE mk0 ms0 os0 Q K) {ei : ai_I} {op : ai_Op} (hck : ai_ck M pc ei = true) (hop : ai_sem sl ei = some op) (h : op call K loc st g = some r) : ai_At p l e R s m args below meth c nL b0 rho tc dC dI base ws0 kE sE mk0 ms0 os0 Q pc loc st g r := by
  have hCx0 := hCx
  obtain ⟨⟨hx, hb, hml, hMl, hown, hlocks, hret, hname, htab⟩, hst, hSF, hD, ⟨hL1, hL2, hL3⟩, ⟨hRc, hRs⟩, hQ, hfr, hlo⟩ := hCx
  have hV := hSF.2.1
  have hXs := hSF.2.2.2.2.2.2.2.2.1
  have hbs := hSF.2.2.2.2.2.2.2.2.2.1
  have hb0 := hSF.2.2.2.2.2.2.2.2.2.2.1
  have hbl : b0 < s.heap.size := Nat.lt_of_lt_of_le hb0 hbs
  have hbA : ¬ ai_A base b0 := Nat.not_le.mpr hb0
  obtain ⟨i, npc, k0, k1, k2, ks⟩ := ei
  cases i with
  | iconst n =>
    have hck : (ai_dec M.2.1 pc (.iconst n) 1 && Nat.beq npc (pc + 1) && ai_ieq (Int32.ofInt n).toInt n) = true := hck
    simp only [Bool.and_eq_true] at hck
    obtain ⟨⟨c1, c2⟩, c3⟩ := hck
    have c1 := ai_dec_ok c1
    have hop : some (ai_o_const n npc) = some op := hop
    cases hop
    have c2 : npc = pc + 1 := Nat.eq_of_beq_eq_true c2
    subst c2
    exact so_const (v := Int32.ofInt n) ((ai_ieq_iff _ _).mp c3) (fun k => lv_iconst hx hb c1 rfl k) hK h
  | bipush n =>
    have hck : (ai_dec M.2.1 pc (.bipush n) 2 && Nat.beq npc (pc + 2) && ai_ieq ((Int8.ofInt n).toInt32).toInt n) = true := hck
    simp only [Bool.and_eq_true] at hck
    obtain ⟨⟨c1, c2⟩, c3⟩ := hck
    have c1 := ai_dec_ok c1
    have hop : some (ai_o_const n npc) = some op := hop
    cases hop
    have c2 : npc = pc + 2 := Nat.eq_of_beq_eq_true c2
    subst c2
    exact so_const (v := (Int8.ofInt n).toInt32) ((ai_ieq_iff _ _).mp c3) (fun k => lv_bipush hx hb c1 rfl k) hK h
  | sipush n =>
    have hck : (ai_dec M.2.1 pc (.sipush n) 3 && Nat.beq npc (pc + 3) && ai_ieq ((Int16.ofInt n).toInt32).toInt n) = true := hck
    simp only [Bool.and_eq_true] at hck
    obtain ⟨⟨c1, c2⟩, c3⟩ := hck
    have c1 := ai_dec_ok c1
    have hop : some (ai_o_const n npc) = some op := hop
    cases hop
    have c2 : npc = pc + 3 := Nat.eq_of_beq_eq_true c2
    subst c2
    exact so_const (v := (Int16.ofInt n).toInt32) ((ai_ieq_iff _ _).mp c3) (fun k => lv_sipush hx hb c1 rfl k) hK h
  | ldc idx =>
    have hck : (ai_dec M.2.1 pc (.ldc idx) 2 && Nat.beq npc (pc + 2) && ai_lcon.any (fun q => Nat.beq q.1 M.2.2.2.2.1 && Nat.beq q.2.1 idx && Nat.beq q.2.2.1 k0)) = true := hck
    simp only [Bool.and_eq_true] at hck
    obtain ⟨⟨c1, c2⟩, c3⟩ := hck
    have c1 := ai_dec_ok c1
    have hop : some (ai_o_const (.ofNat k0) npc) = some op := hop
    cases hop
    have c2 : npc = pc + 2 := Nat.eq_of_beq_eq_true c2
    subst c2
    obtain ⟨⟨oc, ix, v, pos⟩, hq, hqq⟩ := ai_any_in c3
    simp only [Bool.and_eq_true] at hqq
    obtain ⟨⟨e1, e2⟩, e3⟩ := hqq
    have e1 : oc = M.2.2.2.2.1 := Nat.eq_of_beq_eq_true e1
    have e2 : ix = idx := Nat.eq_of_beq_eq_true e2
    have e3 : v = k0 := Nat.eq_of_beq_eq_true e3
    subst e1 e2 e3
    have hb9 := List.all_eq_true.mp ai_bK_ok _ hq
    unfold ai_bK at hb9
    simp only [Bool.and_eq_true] at hb9
    exact so_const (v := Int32.ofNat v) (of_decide_eq_true hb9.2) (fun k => lv_ldc hx hb hown (hSF.1.use (ai_tw_in hb9.1) rfl args) c1 k) hK h
  | lconst n =>
    have hck : (ai_dec M.2.1 pc (.lconst n) 1 && Nat.beq npc (pc + 1) && Nat.beq k0 n.val) = true := hck
    simp only [Bool.and_eq_true] at hck
    obtain ⟨⟨c1, c2⟩, c3⟩ := hck
    have c1 := ai_dec_ok c1
    have hop : some (ai_o_lconst (.ofNat k0) npc) = some op := hop
    cases hop
    have c2 : npc = pc + 1 := Nat.eq_of_beq_eq_true c2
    subst c2
    have c3 : k0 = n.val := Nat.eq_of_beq_eq_true c3
    subst c3
    exact so_lconst (v := Int64.ofNat n.val) (z := Int32.ofNat n.val) (by match n with | 0 => rfl | 1 => rfl) (by match n with | 0 => rfl | 1 => rfl) (fun k => lv_lconst hx hb c1 rfl k) hK h
  | aconst_null =>
    have hck : (ai_dec M.2.1 pc (.aconst_null) 1 && Nat.beq npc (pc + 1)) = true := hck
    simp only [Bool.and_eq_true] at hck
    obtain ⟨c1, c2⟩ := hck
    have c1 := ai_dec_ok c1
    have hop : some (ai_o_null npc) = some op := hop
    cases hop
    have c2 : npc = pc + 1 := Nat.eq_of_beq_eq_true c2
    subst c2
    exact so_null (fun k => lv_null hx hb c1 k) hK h
  | iload k =>
    have hck : (ai_dec M.2.1 pc (.iload k) 2 && Nat.beq npc (pc + 2) && Nat.beq k0 k) = true := hck
    simp only [Bool.and_eq_true] at hck
    obtain ⟨⟨c1, c2⟩, c3⟩ := hck
    have c1 := ai_dec_ok c1
    have hop : some (ai_o_iload k0 npc) = some op := hop
    cases hop
    have c2 : npc = pc + 2 := Nat.eq_of_beq_eq_true c2
    subst c2
    have c3 : k0 = k := Nat.eq_of_beq_eq_true c3
    subst c3
    exact so_iload (fun hl k => lv_iload hx hb c1 hl k) hK h
  | iload_n k =>
    have hck : (ai_dec M.2.1 pc (.iload_n k) 1 && Nat.beq npc (pc + 1) && Nat.beq k0 k.val) = true := hck
    simp only [Bool.and_eq_true] at hck
    obtain ⟨⟨c1, c2⟩, c3⟩ := hck
    have c1 := ai_dec_ok c1
    have hop : some (ai_o_iload k0 npc) = some op := hop
    cases hop
    have c2 : npc = pc + 1 := Nat.eq_of_beq_eq_true c2
    subst c2
    have c3 : k0 = k.val := Nat.eq_of_beq_eq_true c3
    subst c3
    exact so_iload (fun hl k => lv_iload_n hx hb c1 rfl hl k) hK h
  | aload k =>
    have hck : (ai_dec M.2.1 pc (.aload k) 2 && Nat.beq npc (pc + 2) && Nat.beq k0 k) = true := hck
    simp only [Bool.and_eq_true] at hck
    obtain ⟨⟨c1, c2⟩, c3⟩ := hck
    have c1 := ai_dec_ok c1
    have hop : some (ai_o_aload k0 npc) = some op := hop
    cases hop
    have c2 : npc = pc + 2 := Nat.eq_of_beq_eq_true c2
    subst c2
    have c3 : k0 = k := Nat.eq_of_beq_eq_true c3
    subst c3
    exact so_aload (fun hl k => lv_aload hx hb c1 hl k) (fun hl k => lv_aloadN hx hb c1 hl k) hK h
  | aload_n k =>
    have hck : (ai_dec M.2.1 pc (.aload_n k) 1 && Nat.beq npc (pc + 1) && Nat.beq k0 k.val) = true := hck
    simp only [Bool.and_eq_true] at hck
    obtain ⟨⟨c1, c2⟩, c3⟩ := hck
    have c1 := ai_dec_ok c1
    have hop : some (ai_o_aload k0 npc) = some op := hop
    cases hop
    have c2 : npc = pc + 1 := Nat.eq_of_beq_eq_true c2
    subst c2
    have c3 : k0 = k.val := Nat.eq_of_beq_eq_true c3
    subst c3
    exact so_aload (fun hl k => lv_aload_n hx hb c1 rfl hl k) (fun hl k => lv_aload_nN hx hb c1 rfl hl k) hK h
  | istore k =>
    have hck : (ai_dec M.2.1 pc (.istore k) 2 && Nat.beq npc (pc + 2) && Nat.beq k0 k && Nat.blt k0 M.2.2.1) = true := hck
    simp only [Bool.and_eq_true] at hck
    obtain ⟨⟨⟨c1, c2⟩, c3⟩, c4⟩ := hck
    have c1 := ai_dec_ok c1
    have hop : some (ai_o_istore k0 npc) = some op := hop
    cases hop
    have c2 : npc = pc + 2 := Nat.eq_of_beq_eq_true c2
    subst c2
    have c3 : k0 = k := Nat.eq_of_beq_eq_true c3
    subst c3
    have c4 : k0 < nL := by rw [← hMl]; exact Nat.le_of_ble_eq_true c4
    exact so_istore c4 (fun hl k => lv_istore hx hb c1 hl c4 rfl k) hK h
  | istore_n k =>
    have hck : (ai_dec M.2.1 pc (.istore_n k) 1 && Nat.beq npc (pc + 1) && Nat.beq k0 k.val && Nat.blt k0 M.2.2.1) = true := hck
    simp only [Bool.and_eq_true] at hck
    obtain ⟨⟨⟨c1, c2⟩, c3⟩, c4⟩ := hck
    have c1 := ai_dec_ok c1
    have hop : some (ai_o_istore k0 npc) = some op := hop
    cases hop
    have c2 : npc = pc + 1 := Nat.eq_of_beq_eq_true c2
    subst c2
    have c3 : k0 = k.val := Nat.eq_of_beq_eq_true c3
    subst c3
    have c4 : k.val < nL := by rw [← hMl]; exact Nat.le_of_ble_eq_true c4
    exact so_istore c4 (fun hl k => lv_istore_n hx hb c1 rfl hl c4 rfl k) hK h
  | astore k =>
    have hck : (ai_dec M.2.1 pc (.astore k) 2 && Nat.beq npc (pc + 2) && Nat.beq k0 k && Nat.blt k0 M.2.2.1) = true := hck
    simp only [Bool.and_eq_true] at hck
    obtain ⟨⟨⟨c1, c2⟩, c3⟩, c4⟩ := hck
    have c1 := ai_dec_ok c1
    have hop : some (ai_o_astore k0 npc) = some op := hop
    cases hop
    have c2 : npc = pc + 2 := Nat.eq_of_beq_eq_true c2
    subst c2
    have c3 : k0 = k := Nat.eq_of_beq_eq_true c3
    subst c3
    have c4 : k0 < nL := by rw [← hMl]; exact Nat.le_of_ble_eq_true c4
    exact so_astore c4 (fun hl k => lv_astore hx hb c1 hl c4 rfl k) (fun hl k => lv_astoreN hx hb c1 hl c4 rfl k) hK h
  | astore_n k =>
    have hck : (ai_dec M.2.1 pc (.astore_n k) 1 && Nat.beq npc (pc + 1) && Nat.beq k0 k.val && Nat.blt k0 M.2.2.1) = true := hck
    simp only [Bool.and_eq_true] at hck
    obtain ⟨⟨⟨c1, c2⟩, c3⟩, c4⟩ := hck
    have c1 := ai_dec_ok c1
    have hop : some (ai_o_astore k0 npc) = some op := hop
    cases hop
    have c2 : npc = pc + 1 := Nat.eq_of_beq_eq_true c2
    subst c2
    have c3 : k0 = k.val := Nat.eq_of_beq_eq_true c3
    subst c3
    have c4 : k.val < nL := by rw [← hMl]; exact Nat.le_of_ble_eq_true c4
    exact so_astore c4 (fun hl k => lv_astore_n hx hb c1 rfl hl c4 rfl k) (fun hl k => lv_astore_nN hx hb c1 rfl hl c4 rfl k) hK h
  | iinc k n =>
    have hck : (ai_dec M.2.1 pc (.iinc k n) 3 && Nat.beq npc (pc + 3) && Nat.beq k0 k && Nat.blt k0 M.2.2.1 && ai_ieq (Int32.ofInt n).toInt n) = true := hck
    simp only [Bool.and_eq_true] at hck
    obtain ⟨⟨⟨⟨c1, c2⟩, c3⟩, c4⟩, c5⟩ := hck
    have c1 := ai_dec_ok c1
    have hop : some (ai_o_inc k0 n npc) = some op := hop
    cases hop
    have c2 : npc = pc + 3 := Nat.eq_of_beq_eq_true c2
    subst c2
    have c3 : k0 = k := Nat.eq_of_beq_eq_true c3
    subst c3
    have c4 : k0 < nL := by rw [← hMl]; exact Nat.le_of_ble_eq_true c4
    exact so_inc (x2 := Int32.ofInt n) ((ai_ieq_iff _ _).mp c5) c4 (fun hl hk k => lv_iinc hx hb c1 hl hk rfl c4 rfl k) hK h
  | iadd =>
    have hck : (ai_dec M.2.1 pc (.iadd) 1 && Nat.beq npc (pc + 1)) = true := hck
    simp only [Bool.and_eq_true] at hck
    obtain ⟨c1, c2⟩ := hck
    have c1 := ai_dec_ok c1
    have hop : some (ai_o_bin (fun _ => ai_add) npc) = some op := hop
    cases hop
    have c2 : npc = pc + 1 := Nat.eq_of_beq_eq_true c2
    subst c2
    exact so_bin (f := fun _ => ai_add) (op := fun a b => a + b) (ok := fun _ => True) (fun h => ai_add_tags h) (fun _ hu hv h => ai_add_ok hu hv h) (fun _ _ _ => trivial) (fun _ k => lv_iadd hx hb c1 k) hK h
  | isub =>
    have hck : (ai_dec M.2.1 pc (.isub) 1 && Nat.beq npc (pc + 1)) = true := hck
    simp only [Bool.and_eq_true] at hck
    obtain ⟨c1, c2⟩ := hck
    have c1 := ai_dec_ok c1
    have hop : some (ai_o_bin (fun _ => ai_sub) npc) = some op := hop
    cases hop
    have c2 : npc = pc + 1 := Nat.eq_of_beq_eq_true c2
    subst c2
    exact so_bin (f := fun _ => ai_sub) (op := fun a b => a - b) (ok := fun _ => True) (fun h => ai_sub_tags h) (fun _ hu hv h => ai_sub_ok hu hv h) (fun _ _ _ => trivial) (fun _ k => lv_isub hx hb c1 k) hK h
  | imul =>
    have hck : (ai_dec M.2.1 pc (.imul) 1 && Nat.beq npc (pc + 1)) = true := hck
    simp only [Bool.and_eq_true] at hck
    obtain ⟨c1, c2⟩ := hck
    have c1 := ai_dec_ok c1
    have hop : some (ai_o_bin ai_mul npc) = some op := hop
    cases hop
    have c2 : npc = pc + 1 := Nat.eq_of_beq_eq_true c2
    subst c2
    exact so_bin (f := ai_mul) (op := fun a b => a * b) (ok := fun _ => True) (fun h => ai_mul_tags h) (fun hE hu hv h => ai_mul_ok hE hu hv h) (fun _ _ _ => trivial) (fun _ k => lv_imul hx hb c1 k) hK h
  | iand =>
    have hck : (ai_dec M.2.1 pc (.iand) 1 && Nat.beq npc (pc + 1)) = true := hck
    simp only [Bool.and_eq_true] at hck
    obtain ⟨c1, c2⟩ := hck
    have c1 := ai_dec_ok c1
    have hop : some (ai_o_bin ai_and npc) = some op := hop
    cases hop
    have c2 : npc = pc + 1 := Nat.eq_of_beq_eq_true c2
    subst c2
    exact so_bin (f := ai_and) (op := fun a b => a &&& b) (ok := fun _ => True) (fun h => ai_and_tags h) (fun hE hu hv h => ai_and_ok hD hE hu hv h) (fun _ _ _ => trivial) (fun _ k => lv_iand hx hb c1 k) hK h
  | idiv =>
    have hck : (ai_dec M.2.1 pc (.idiv) 1 && Nat.beq npc (pc + 1)) = true := hck
    simp only [Bool.and_eq_true] at hck
    obtain ⟨c1, c2⟩ := hck
    have c1 := ai_dec_ok c1
    have hop : some (ai_o_bin ai_div npc) = some op := hop
    cases hop
    have c2 : npc = pc + 1 := Nat.eq_of_beq_eq_true c2
    subst c2
    exact so_bin (f := ai_div) (op := fun a b => a / b) (ok := fun z => ¬ z = 0) (fun h => ai_div_tags h) (fun hE hu hv h => ai_div_ok hD hE hu hv h) (fun hE hv h => ai_div_ne hE hv h) (fun hz k => lv_idiv hx hb c1 hz k) hK h
  | irem =>
    have hck : (ai_dec M.2.1 pc (.irem) 1 && Nat.beq npc (pc + 1)) = true := hck
    simp only [Bool.and_eq_true] at hck
    obtain ⟨c1, c2⟩ := hck
    have c1 := ai_dec_ok c1
    have hop : some (ai_o_bin ai_rem npc) = some op := hop
    cases hop
    have c2 : npc = pc + 1 := Nat.eq_of_beq_eq_true c2
    subst c2
    exact so_bin (f := ai_rem) (op := fun a b => a - a / b * b) (ok := fun z => ¬ z = 0) (fun h => ai_rem_tags h) (fun hE hu hv h => ai_rem_ok hD hE hu hv h) (fun hE hv h => ai_rem_ne hE hv h) (fun hz k => lv_irem hx hb c1 hz k) hK h
  | ior =>
    have hck : (ai_dec M.2.1 pc (.ior) 1 && Nat.beq npc (pc + 1)) = true := hck
    simp only [Bool.and_eq_true] at hck
    obtain ⟨c1, c2⟩ := hck
    have c1 := ai_dec_ok c1
    have hop : some (ai_o_bin ai_or npc) = some op := hop
    cases hop
    have c2 : npc = pc + 1 := Nat.eq_of_beq_eq_true c2
    subst c2
    exact so_bin (f := ai_or) (op := fun a b => a ||| b) (ok := fun _ => True) (fun h => ai_con_tags h) (fun hE hu hv h => ai_con_ok (f := fun a b => a ||| b) hE hu hv h) (fun _ _ _ => trivial) (fun _ k => lv_ior hx hb c1 k) hK h
  | ishl =>
    have hck : (ai_dec M.2.1 pc (.ishl) 1 && Nat.beq npc (pc + 1)) = true := hck
    simp only [Bool.and_eq_true] at hck
    obtain ⟨c1, c2⟩ := hck
    have c1 := ai_dec_ok c1
    have hop : some (ai_o_bin ai_shl npc) = some op := hop
    cases hop
    have c2 : npc = pc + 1 := Nat.eq_of_beq_eq_true c2
    subst c2
    exact so_bin (f := ai_shl) (op := fun a b => a <<< (b &&& 31)) (ok := fun _ => True) (fun h => ai_con_tags h) (fun hE hu hv h => ai_con_ok (f := fun a b => a <<< (b &&& 31)) hE hu hv h) (fun _ _ _ => trivial) (fun _ k => lv_ishl hx hb c1 k) hK h
  | ishr =>
    have hck : (ai_dec M.2.1 pc (.ishr) 1 && Nat.beq npc (pc + 1)) = true := hck
    simp only [Bool.and_eq_true] at hck
    obtain ⟨c1, c2⟩ := hck
    have c1 := ai_dec_ok c1
    have hop : some (ai_o_bin ai_shr npc) = some op := hop
    cases hop
    have c2 : npc = pc + 1 := Nat.eq_of_beq_eq_true c2
    subst c2
    exact so_bin (f := ai_shr) (op := fun a b => a >>> (b &&& 31)) (ok := fun _ => True) (fun h => ai_con_tags h) (fun hE hu hv h => ai_con_ok (f := fun a b => a >>> (b &&& 31)) hE hu hv h) (fun _ _ _ => trivial) (fun _ k => lv_ishr hx hb c1 k) hK h
  | iushr =>
    have hck : (ai_dec M.2.1 pc (.iushr) 1 && Nat.beq npc (pc + 1)) = true := hck
    simp only [Bool.and_eq_true] at hck
    obtain ⟨c1, c2⟩ := hck
    have c1 := ai_dec_ok c1
    have hop : some (ai_o_bin ai_ushr npc) = some op := hop
    cases hop
    have c2 : npc = pc + 1 := Nat.eq_of_beq_eq_true c2
    subst c2
    exact so_bin (f := ai_ushr) (op := fun a b => (a.toUInt32 >>> (b.toUInt32 &&& Int32.toUInt32 31)).toInt32) (ok := fun _ => True) (fun h => ai_con_tags h) (fun hE hu hv h => ai_con_ok (f := fun a b => (a.toUInt32 >>> (b.toUInt32 &&& Int32.toUInt32 31)).toInt32) hE hu hv h) (fun _ _ _ => trivial) (fun _ k => lv_iushr hx hb c1 rfl k) hK h
  | i2l =>
    have hck : (ai_dec M.2.1 pc (.i2l) 1 && Nat.beq npc (pc + 1)) = true := hck
    simp only [Bool.and_eq_true] at hck
    obtain ⟨c1, c2⟩ := hck
    have c1 := ai_dec_ok c1
    have hop : some (ai_o_i2l npc) = some op := hop
    cases hop
    have c2 : npc = pc + 1 := Nat.eq_of_beq_eq_true c2
    subst c2
    exact so_i2l (fun k => lv_i2l hx hb c1 rfl k) hK h
  | lcmp =>
    have hck : (ai_dec M.2.1 pc (.lcmp) 1 && Nat.beq npc (pc + 1)) = true := hck
    simp only [Bool.and_eq_true] at hck
    obtain ⟨c1, c2⟩ := hck
    have c1 := ai_dec_ok c1
    have hop : some (ai_o_lcmp npc) = some op := hop
    cases hop
    have c2 : npc = pc + 1 := Nat.eq_of_beq_eq_true c2
    subst c2
    exact so_lcmp hx hb c1 rfl hK h
  | dup =>
    have hck : (ai_dec M.2.1 pc (.dup) 1 && Nat.beq npc (pc + 1)) = true := hck
    simp only [Bool.and_eq_true] at hck
    obtain ⟨c1, c2⟩ := hck
    have c1 := ai_dec_ok c1
    have hop : some (ai_o_dup npc) = some op := hop
    cases hop
    have c2 : npc = pc + 1 := Nat.eq_of_beq_eq_true c2
    subst c2
    exact so_dup (fun hw k => lv_dup hx hb c1 hw k) hK h
  | dup2 =>
    have hck : (ai_dec M.2.1 pc (.dup2) 1 && Nat.beq npc (pc + 1)) = true := hck
    simp only [Bool.and_eq_true] at hck
    obtain ⟨c1, c2⟩ := hck
    have c1 := ai_dec_ok c1
    have hop : some (ai_o_dup2 npc) = some op := hop
    cases hop
    have c2 : npc = pc + 1 := Nat.eq_of_beq_eq_true c2
    subst c2
    exact so_dup2 (fun hw hu k => lv_dup2_11 hx hb c1 hw hu k) hK h
  | pop =>
    have hck : (ai_dec M.2.1 pc (.pop) 1 && Nat.beq npc (pc + 1)) = true := hck
    simp only [Bool.and_eq_true] at hck
    obtain ⟨c1, c2⟩ := hck
    have c1 := ai_dec_ok c1
    have hop : some (ai_o_pop npc) = some op := hop
    cases hop
    have c2 : npc = pc + 1 := Nat.eq_of_beq_eq_true c2
    subst c2
    exact so_pop (fun hw k => lv_pop hx hb c1 hw k) hK h
  | goto off =>
    have hck : (ai_dec M.2.1 pc (.goto off) 3 && ai_ieq ((pc : Int) + off) (k0 : Int)) = true := hck
    simp only [Bool.and_eq_true] at hck
    obtain ⟨c1, c2⟩ := hck
    have c1 := ai_dec_ok c1
    have hop : some (ai_o_goto k0) = some op := hop
    cases hop
    exact so_goto (fun k => lv_goto hx hb c1 ((ai_ieq_iff _ _).mp c2) k) hK h
  | ifCond cd off =>
    have hck : (ai_dec M.2.1 pc (.ifCond cd off) 3 && Nat.beq npc (pc + 3) && ai_ieq ((pc : Int) + off) (k0 : Int)) = true := hck
    simp only [Bool.and_eq_true] at hck
    obtain ⟨⟨c1, c2⟩, c3⟩ := hck
    have c1 := ai_dec_ok c1
    have hop : some (ai_o_if cd npc k0) = some op := hop
    cases hop
    have c2 : npc = pc + 3 := Nat.eq_of_beq_eq_true c2
    subst c2
    have c3 := (ai_ieq_iff _ _).mp c3
    cases cd with
    | eq => exact so_if (k := .eq) (fun a b => lv_if_eq hx hb c1 c3 a b) hK h
    | lt => exact so_if (k := .lt) (fun a b => lv_if_lt hx hb c1 c3 a b) hK h
    | le => exact so_if (k := .le) (fun a b => lv_if_le hx hb c1 c3 a b) hK h
    | ge => exact so_if (k := .ge) (fun a b => lv_if_ge hx hb c1 c3 (fun q => a (Int32.not_lt.mpr q)) (fun q => b (fun z => q (Int32.not_lt.mp z)))) hK h
    | gt => exact so_if (k := .gt) (fun a b => lv_if_gt hx hb c1 c3 (fun q => a (Int32.not_le.mpr q)) (fun q => b (fun z => q (Int32.not_le.mp z)))) hK h
    | ne => exact so_if (k := .ne) (fun a b => lv_if_ne hx hb c1 c3 a (fun q => b (fun z => z q))) hK h
  | if_icmp cd off =>
    have hck : (ai_dec M.2.1 pc (.if_icmp cd off) 3 && Nat.beq npc (pc + 3) && ai_ieq ((pc : Int) + off) (k0 : Int)) = true := hck
    simp only [Bool.and_eq_true] at hck
    obtain ⟨⟨c1, c2⟩, c3⟩ := hck
    have c1 := ai_dec_ok c1
    have hop : some (ai_o_icmp cd npc k0) = some op := hop
    cases hop
    have c2 : npc = pc + 3 := Nat.eq_of_beq_eq_true c2
    subst c2
    have c3 := (ai_ieq_iff _ _).mp c3
    cases cd with
    | eq => exact so_icmp (k := .eq) (fun a b => lv_icmp_eq hx hb c1 c3 a b) hK h
    | lt => exact so_icmp (k := .lt) (fun a b => lv_icmp_lt hx hb c1 c3 a b) hK h
    | le => exact so_icmp (k := .le) (fun a b => lv_icmp_le hx hb c1 c3 a b) hK h
    | ge => exact so_icmp (k := .ge) (fun a b => lv_icmp_ge hx hb c1 c3 (fun q => a (Int32.not_lt.mpr q)) (fun q => b (fun z => q (Int32.not_lt.mp z)))) hK h
    | gt => exact so_icmp (k := .gt) (fun a b => lv_icmp_gt hx hb c1 c3 (fun q => a (Int32.not_le.mpr q)) (fun q => b (fun z => q (Int32.not_le.mp z)))) hK h
    | ne => exact so_icmp (k := .ne) (fun a b => lv_icmp_ne hx hb c1 c3 a (fun q => b (fun z => z q))) hK h
  | ifnull off =>
    have hck : (ai_dec M.2.1 pc (.ifnull off) 3 && Nat.beq npc (pc + 3) && ai_ieq ((pc : Int) + off) (k0 : Int)) = true := hck
    simp only [Bool.and_eq_true] at hck
    obtain ⟨⟨c1, c2⟩, c3⟩ := hck
    have c1 := ai_dec_ok c1
    have hop : some (ai_o_isnull k0 npc) = some op := hop
    cases hop
    have c2 : npc = pc + 3 := Nat.eq_of_beq_eq_true c2
    subst c2
    exact so_isnull (fun k => lv_ifnullN hx hb c1 ((ai_ieq_iff _ _).mp c3) k) (fun k => lv_ifnull hx hb c1 k) hK h
  | ifnonnull off =>
    have hck : (ai_dec M.2.1 pc (.ifnonnull off) 3 && Nat.beq npc (pc + 3) && ai_ieq ((pc : Int) + off) (k0 : Int)) = true := hck
    simp only [Bool.and_eq_true] at hck
    obtain ⟨⟨c1, c2⟩, c3⟩ := hck
    have c1 := ai_dec_ok c1
    have hop : some (ai_o_isnull npc k0) = some op := hop
    cases hop
    have c2 : npc = pc + 3 := Nat.eq_of_beq_eq_true c2
    subst c2
    exact so_isnull (fun k => lv_ifnonnullN hx hb c1 k) (fun k => lv_ifnonnull hx hb c1 ((ai_ieq_iff _ _).mp c3) k) hK h
  | tableswitch dflt lo hi offs =>
    have hck : (ai_dec M.2.1 pc (.tableswitch dflt lo hi offs) (npc - pc) && ai_ieq ((pc : Int) + dflt) (k0 : Int) && ai_ieq hi (lo + (ks.length : Int) - 1) && (List.range ks.length).all (fun i => match offs[i]? with
      | some off => ai_ieq ((pc : Int) + off) ((ai_nth k0 ks i : Nat) : Int)
      | none => false)) = true := hck
    simp only [Bool.and_eq_true] at hck
    obtain ⟨⟨⟨c1, c2⟩, c3⟩, c4⟩ := hck
    have c1 := ai_dec_ok c1
    have hop : some (ai_o_sw lo hi k0 ks) = some op := hop
    cases hop
    refine so_sw hx hb c1 ((ai_ieq_iff _ _).mp c2) ((ai_ieq_iff _ _).mp c3) (fun i hi9 => ?_) hK h
    have q1 := List.all_eq_true.mp c4 i (List.mem_range.mpr hi9)
    cases ho : offs[i]? with
    | none => simp only [ho] at q1; cases q1
    | some off =>
      simp only [ho] at q1
      exact ⟨off, rfl, (ai_ieq_iff _ _).mp q1⟩
  | getfield idx =>
    have hck : (ai_dec M.2.1 pc (.getfield idx) 3 && Nat.beq npc (pc + 3) && ai_lg.any (fun q => Nat.beq q.1 M.2.2.2.2.1 && Nat.beq q.2.1 idx && Nat.beq q.2.2.1 k0 && Nat.beq q.2.2.2.1 k1)) = true := hck
    simp only [Bool.and_eq_true] at hck
    obtain ⟨⟨c1, c2⟩, c3⟩ := hck
    have c1 := ai_dec_ok c1
    have hop : some (ai_o_getf k0 k1 npc) = some op := hop
    cases hop
    have c2 : npc = pc + 3 := Nat.eq_of_beq_eq_true c2
    subst c2
    obtain ⟨⟨oc, ix, ci, k, pos, nest⟩, hq, hqq⟩ := ai_any_in c3
    simp only [Bool.and_eq_true] at hqq
    obtain ⟨⟨⟨e1, e2⟩, e3⟩, e4⟩ := hqq
    have e1 : oc = M.2.2.2.2.1 := Nat.eq_of_beq_eq_true e1
    have e2 : ix = idx := Nat.eq_of_beq_eq_true e2
    have e3 : ci = k0 := Nat.eq_of_beq_eq_true e3
    have e4 : k = k1 := Nat.eq_of_beq_eq_true e4
    subst e1 e2 e3 e4
    have hb9 := List.all_eq_true.mp ai_bG_ok _ hq
    unfold ai_bG at hb9
    simp only at hb9
    cases hcl : vwCl[ci]? with
    | none => rw [hcl] at hb9; cases hb9
    | some q0 =>
      obtain ⟨C, T, N⟩ := q0
      rw [hcl] at hb9
      simp only [Bool.and_eq_true] at hb9
      obtain ⟨g1, g2⟩ := hb9
      refine so_getf (Ts := u_ws C T N) hx hb (ai_uw hSF.1 hcl) hown hV hcl (of_decide_eq_true g1) (fun w hw => hw) ?_ c1 rfl hK h
      cases hn : Nat.beq nest 0 with
      | true => rw [hn] at g2; exact Or.inl (hSF.1.use (ai_tw_in g2) rfl args)
      | false => rw [hn] at g2; exact Or.inr ⟨"PenPage", hSF.1.use (ai_tw_in g2) rfl args⟩
  | putfield idx =>
    have hck : (ai_dec M.2.1 pc (.putfield idx) 3 && Nat.beq npc (pc + 3) && ai_lp.any (fun q => Nat.beq q.1 M.2.2.2.2.1 && Nat.beq q.2.1 idx && Nat.beq q.2.2.1 k0 && Nat.beq q.2.2.2.1 k1 && Nat.beq q.2.2.2.2.1 k2 && (Nat.beq q.2.2.2.2.2.2 0 || decide (M.1.name = "<init>")))) = true := hck
    simp only [Bool.and_eq_true] at hck
    obtain ⟨⟨c1, c2⟩, c3⟩ := hck
    have c1 := ai_dec_ok c1
    have hop : some (ai_o_putf k0 k1 k2 npc) = some op := hop
    cases hop
    have c2 : npc = pc + 3 := Nat.eq_of_beq_eq_true c2
    subst c2
    obtain ⟨⟨oc, ix, ci, k, t, pos, fin⟩, hq, hqq⟩ := ai_any_in c3
    simp only [Bool.and_eq_true] at hqq
    obtain ⟨⟨⟨⟨⟨e1, e2⟩, e3⟩, e4⟩, e5⟩, e6⟩ := hqq
    have e1 : oc = M.2.2.2.2.1 := Nat.eq_of_beq_eq_true e1
    have e2 : ix = idx := Nat.eq_of_beq_eq_true e2
    have e3 : ci = k0 := Nat.eq_of_beq_eq_true e3
    have e4 : k = k1 := Nat.eq_of_beq_eq_true e4
    have e5 : t = k2 := Nat.eq_of_beq_eq_true e5
    subst e1 e2 e3 e4 e5
    have hb9 := List.all_eq_true.mp ai_bP_ok _ hq
    unfold ai_bP at hb9
    simp only at hb9
    cases hcl : vwCl[ci]? with
    | none => rw [hcl] at hb9; cases hb9
    | some q0 =>
      obtain ⟨C, T, N⟩ := q0
      rw [hcl] at hb9
      simp only [Bool.and_eq_true] at hb9
      obtain ⟨⟨⟨g1, g2⟩, g3⟩, g4⟩ := hb9
      have g1 : k < N := of_decide_eq_true g1
      refine so_putf (Ts := u_ws C T N) (ty0 := ai_ty0 T) hx hb (ai_uw hSF.1 hcl) hown hV hcl g1 (fun w hw => hw) (ai_ty_ok hcl) (ai_nm_ok hcl) ?_ (hSF.1.use (ai_tw_in g2) rfl args) ?_ c1 rfl hK h
      · unfold ai_btyOK at g3
        split at g3 <;> first | exact Or.inl ⟨rfl, by assumption⟩ | exact Or.inr (Or.inl ⟨rfl, by assumption⟩) | exact Or.inr (Or.inr ⟨rfl, Or.inl ⟨_, by assumption⟩⟩) | exact Or.inr (Or.inr ⟨rfl, Or.inr ⟨_, by assumption⟩⟩) | cases g3
      · cases hfin : (T k).2.2.2 with
        | false => exact Or.inl rfl
        | true =>
          rw [hfin] at g4
          simp only [Bool.not_true, Bool.false_or, Bool.and_eq_true] at g4
          have g4a : fin = 1 := Nat.eq_of_beq_eq_true g4.1
          refine Or.inr ⟨rfl, ?_, of_decide_eq_true g4.2⟩
          rw [hname]
          rcases Bool.or_eq_true_iff.mp e6 with e6 | e6
          · have e6 : fin = 0 := Nat.eq_of_beq_eq_true e6
            omega
          · exact of_decide_eq_true e6
  | arraylength =>
    have hck : (ai_dec M.2.1 pc (.arraylength) 1 && Nat.beq npc (pc + 1)) = true := hck
    simp only [Bool.and_eq_true] at hck
    obtain ⟨c1, c2⟩ := hck
    have c1 := ai_dec_ok c1
    have hop : some (ai_o_len sl npc) = some op := hop
    cases hop
    have c2 : npc = pc + 1 := Nat.eq_of_beq_eq_true c2
    subst c2
    exact so_len hx hb hV hXs hbl hbA hL1 ⟨hL2, hL3⟩ c1 rfl hK h
  | iaload =>
    have hck : (ai_dec M.2.1 pc (.iaload) 1 && Nat.beq npc (pc + 1)) = true := hck
    simp only [Bool.and_eq_true] at hck
    obtain ⟨c1, c2⟩ := hck
    have c1 := ai_dec_ok c1
    have hop : some (ai_o_ald sl ai_is1 npc) = some op := hop
    cases hop
    have c2 : npc = pc + 1 := Nat.eq_of_beq_eq_true c2
    subst c2
    exact so_iald hx hb hV hXs hbl hbA hL2 c1 rfl hK h
  | baload =>
    have hck : (ai_dec M.2.1 pc (.baload) 1 && Nat.beq npc (pc + 1)) = true := hck
    simp only [Bool.and_eq_true] at hck
    obtain ⟨c1, c2⟩ := hck
    have c1 := ai_dec_ok c1
    have hop : some (ai_o_ald sl ai_is2 npc) = some op := hop
    cases hop
    have c2 : npc = pc + 1 := Nat.eq_of_beq_eq_true c2
    subst c2
    exact so_bald hx hb hV c1 rfl hK h
  | laload =>
    have hck : (ai_dec M.2.1 pc (.laload) 1 && Nat.beq npc (pc + 1)) = true := hck
    simp only [Bool.and_eq_true] at hck
    obtain ⟨c1, c2⟩ := hck
    have c1 := ai_dec_ok c1
    have hop : some (ai_o_ald sl ai_is3 npc) = some op := hop
    cases hop
    have c2 : npc = pc + 1 := Nat.eq_of_beq_eq_true c2
    subst c2
    exact so_lald hx hb hV c1 rfl hK h
  | aaload =>
    have hck : (ai_dec M.2.1 pc (.aaload) 1 && Nat.beq npc (pc + 1)) = true := hck
    simp only [Bool.and_eq_true] at hck
    obtain ⟨c1, c2⟩ := hck
    have c1 := ai_dec_ok c1
    have hop : some (ai_o_ald sl ai_is4 npc) = some op := hop
    cases hop
    have c2 : npc = pc + 1 := Nat.eq_of_beq_eq_true c2
    subst c2
    exact so_aald hx hb hV c1 rfl hK h
  | iastore =>
    have hck : (ai_dec M.2.1 pc (.iastore) 1 && Nat.beq npc (pc + 1)) = true := hck
    simp only [Bool.and_eq_true] at hck
    obtain ⟨c1, c2⟩ := hck
    have c1 := ai_dec_ok c1
    have hop : some (ai_o_ast 1 npc) = some op := hop
    cases hop
    have c2 : npc = pc + 1 := Nat.eq_of_beq_eq_true c2
    subst c2
    exact so_iast hx hb hV c1 rfl hK h
  | bastore =>
    have hck : (ai_dec M.2.1 pc (.bastore) 1 && Nat.beq npc (pc + 1)) = true := hck
    simp only [Bool.and_eq_true] at hck
    obtain ⟨c1, c2⟩ := hck
    have c1 := ai_dec_ok c1
    have hop : some (ai_o_ast 2 npc) = some op := hop
    cases hop
    have c2 : npc = pc + 1 := Nat.eq_of_beq_eq_true c2
    subst c2
    exact so_bast hx hb hV c1 rfl hK h
  | lastore =>
    have hck : (ai_dec M.2.1 pc (.lastore) 1 && Nat.beq npc (pc + 1)) = true := hck
    simp only [Bool.and_eq_true] at hck
    obtain ⟨c1, c2⟩ := hck
    have c1 := ai_dec_ok c1
    have hop : some (ai_o_ast 3 npc) = some op := hop
    cases hop
    have c2 : npc = pc + 1 := Nat.eq_of_beq_eq_true c2
    subst c2
    exact so_last hx hb hV c1 rfl hK h
  | aastore =>
    have hck : (ai_dec M.2.1 pc (.aastore) 1 && Nat.beq npc (pc + 1)) = true := hck
    simp only [Bool.and_eq_true] at hck
    obtain ⟨c1, c2⟩ := hck
    have c1 := ai_dec_ok c1
    have hop : some (ai_o_aast npc) = some op := hop
    cases hop
    have c2 : npc = pc + 1 := Nat.eq_of_beq_eq_true c2
    subst c2
    exact so_aast hx hb hV c1 rfl hK h
  | newarray t =>
    have hck : (ai_dec M.2.1 pc (.newarray t) 2 && Nat.beq npc (pc + 2) && (match (generalizing := false) t with
      | .int => Nat.beq k0 1 && Nat.beq k1 0
      | .boolean => Nat.beq k0 2 && Nat.beq k1 0
      | .long => Nat.beq k0 3 && Nat.beq k1 4
      | _ => false)) = true := hck
    simp only [Bool.and_eq_true] at hck
    obtain ⟨⟨c1, c2⟩, c3⟩ := hck
    have c1 := ai_dec_ok c1
    have hop : some (ai_o_newa k0 (k1, 0, 0) npc) = some op := hop
    cases hop
    have c2 : npc = pc + 2 := Nat.eq_of_beq_eq_true c2
    subst c2
    have hbA9 := ai_bArr
    simp only [Bool.and_eq_true] at hbA9
    have har : ∀ ty, Cond.arrayClass ty ∈ lw_tbl → (Cond.arrayClass ty).before args s = true := fun ty hty => word_at (State.WarmedH.refl s) (Or.inr ⟨ty, rfl⟩) (hSF.2.2.2.2.2.2.2.2.2.2.2.2 ty hty)
    cases t with
    | int =>
      simp only [Bool.and_eq_true] at c3
      have e1 : k0 = 1 := Nat.eq_of_beq_eq_true c3.1
      have e2 : k1 = 0 := Nat.eq_of_beq_eq_true c3.2
      subst e1 e2
      exact so_newa (ty := .int) (a0 := fun n => (n, .inl (fun _ => 0))) hx hb hV hbs hRc hRs rfl (fun n cA => rfl) (by decide) (fun ws n hn => Or.inr (Or.inl ⟨Or.inl rfl, hn, _, rfl, fun j _ => ai_Rv.mkI (ai_num_i rfl)⟩)) rfl (har _ (ai_tw_in hbA9.1.1)) c1 rfl hK h
    | boolean =>
      simp only [Bool.and_eq_true] at c3
      have e1 : k0 = 2 := Nat.eq_of_beq_eq_true c3.1
      have e2 : k1 = 0 := Nat.eq_of_beq_eq_true c3.2
      subst e1 e2
      exact so_newa (ty := .boolean) (a0 := fun n => (n, .inl (fun _ => 0))) hx hb hV hbs hRc hRs rfl (fun n cA => rfl) (by decide) (fun ws n hn => Or.inr (Or.inl ⟨Or.inr rfl, hn, _, rfl, fun j _ => ai_Rv.mkI (ai_num_i rfl)⟩)) rfl (har _ (ai_tw_in hbA9.1.2)) c1 rfl hK h
    | long =>
      simp only [Bool.and_eq_true] at c3
      have e1 : k0 = 3 := Nat.eq_of_beq_eq_true c3.1
      have e2 : k1 = 4 := Nat.eq_of_beq_eq_true c3.2
      subst e1 e2
      exact so_newa (ty := .long) (a0 := fun n => (n, .inr (.inl (fun _ => 0)))) hx hb hV hbs hRc hRs rfl (fun n cA => rfl) (by decide) (fun ws n hn => Or.inr (Or.inr (Or.inl ⟨rfl, hn, _, rfl, fun j _ => Or.inr (Or.inr (Or.inr (Or.inl ⟨Or.inl rfl, 0, rfl, ai_num_i rfl⟩)))⟩))) rfl (har _ (ai_tw_in hbA9.2)) c1 rfl hK h
    | _ => cases c3
  | anewarray idx =>
    have hck : (ai_dec M.2.1 pc (.anewarray idx) 3 && Nat.beq npc (pc + 3) && ai_la.any (fun q => Nat.beq q.1 M.2.2.2.2.1 && Nat.beq q.2.1 idx && Nat.beq q.2.2.1 k0)) = true := hck
    simp only [Bool.and_eq_true] at hck
    obtain ⟨⟨c1, c2⟩, c3⟩ := hck
    have c1 := ai_dec_ok c1
    have hop : some (ai_o_newa k0 ai_nul npc) = some op := hop
    cases hop
    have c2 : npc = pc + 3 := Nat.eq_of_beq_eq_true c2
    subst c2
    obtain ⟨⟨oc, ix, t, pos⟩, hq, hqq⟩ := ai_any_in c3
    simp only [Bool.and_eq_true] at hqq
    obtain ⟨⟨e1, e2⟩, e3⟩ := hqq
    have e1 : oc = M.2.2.2.2.1 := Nat.eq_of_beq_eq_true e1
    have e2 : ix = idx := Nat.eq_of_beq_eq_true e2
    have e3 : t = k0 := Nat.eq_of_beq_eq_true e3
    subst e1 e2 e3
    have hb9 := List.all_eq_true.mp ai_bA_ok _ hq
    unfold ai_bA at hb9
    simp only at hb9
    cases ht : Nat.beq t 4 with
    | true =>
      rw [ht] at hb9
      have ht : t = 4 := Nat.eq_of_beq_eq_true ht
      subst ht
      exact so_anew (C := "PenPage$Page") hx hb hown hV hbs hRc hRs (Or.inl rfl) rfl (hSF.1.use (ai_tw_in hb9) rfl args) hSF.2.2.1 c1 rfl hK h
    | false =>
      rw [ht] at hb9
      simp only [cond_false, Bool.and_eq_true] at hb9
      have ht : t = 5 := Nat.eq_of_beq_eq_true hb9.1
      subst ht
      exact so_anew (C := "PenPage$Step") hx hb hown hV hbs hRc hRs (Or.inr rfl) rfl (hSF.1.use (ai_tw_in hb9.2) rfl args) hSF.2.2.2.1 c1 rfl hK h
  | multianewarray idx dm =>
    have hck : (ai_dec M.2.1 pc (.multianewarray idx 2) 4 && Nat.beq npc (pc + 4) && ai_lm.any (fun q => Nat.beq q.1 M.2.2.2.2.1 && Nat.beq q.2.1 idx)) = true := hck
    simp only [Bool.and_eq_true] at hck
    obtain ⟨⟨c1, c2⟩, c3⟩ := hck
    have c1 := ai_dec_ok c1
    have hop : some (ai_o_mna npc) = some op := hop
    cases hop
    have c2 : npc = pc + 4 := Nat.eq_of_beq_eq_true c2
    subst c2
    obtain ⟨⟨oc, ix, pos⟩, hq, hqq⟩ := ai_any_in c3
    simp only [Bool.and_eq_true] at hqq
    have e1 : oc = M.2.2.2.2.1 := Nat.eq_of_beq_eq_true hqq.1
    have e2 : ix = idx := Nat.eq_of_beq_eq_true hqq.2
    subst e1 e2
    have hb9 := List.all_eq_true.mp ai_bMn_ok _ hq
    have hbA9 := ai_bArr
    simp only [Bool.and_eq_true] at hbA9
    exact so_mna hx hb hown hV hbs hRc hRs (hSF.1.use (ai_tw_in hb9) rfl args) hSF.2.2.2.2.1 (word_at (State.WarmedH.refl s) (Or.inr ⟨_, rfl⟩) (hSF.2.2.2.2.2.2.2.2.2.2.2.2 _ (ai_tw_in hbA9.1.1))) c1 rfl hK h
  | new idx => exact op_new hCx0 hK hck hop h
  | invokevirtual idx =>
    have hck : (ai_dec M.2.1 pc (.invokevirtual idx) 3 && Nat.beq npc (pc + 3) && ai_lc.any (fun q => Nat.beq q.1 M.2.2.2.2.1 && Nat.beq q.2.1 idx && Nat.beq q.2.2.1 k0 && Nat.beq q.2.2.2.1 k1 && Nat.beq q.2.2.2.2.1 0 && Nat.beq q.2.2.2.2.2.1 (ai_nth 0 ks 0)) && ai_ctok M.2.2.2.2.1 M.2.2.2.2.2.1 pc 2 (ai_nth 0 ks 1) && ai_ctok M.2.2.2.2.1 M.2.2.2.2.2.1 pc 3 (ai_nth 0 ks 2)) = true := hck
    simp only [Bool.and_eq_true] at hck
    obtain ⟨⟨⟨⟨c1, c2⟩, c3⟩, c4⟩, c5⟩ := hck
    have hop : some (ai_o_virt true (ai_nth 0 ks 0) k0 k1 (ai_nth 0 ks 1) (ai_nth 0 ks 2) npc) = some op := hop
    cases hop
    obtain ⟨⟨oc, ix, j, n, kind, ci, pos⟩, hq, hqq⟩ := ai_any_in c3
    simp only [Bool.and_eq_true] at hqq
    obtain ⟨⟨⟨⟨⟨e1, e2⟩, e3⟩, e4⟩, e5⟩, e6⟩ := hqq
    have e1 : oc = M.2.2.2.2.1 := Nat.eq_of_beq_eq_true e1
    have e2 : ix = idx := Nat.eq_of_beq_eq_true e2
    have e3 : j = k0 := Nat.eq_of_beq_eq_true e3
    have e4 : n = k1 := Nat.eq_of_beq_eq_true e4
    have e5 : kind = 0 := Nat.eq_of_beq_eq_true e5
    have e6 : ci = ai_nth 0 ks 0 := Nat.eq_of_beq_eq_true e6
    rw [← e6] at h
    subst e2 e3 e4 e5
    exact op_virt hCx0 hCS e1 hq (ai_dec_ok c1) (Nat.eq_of_beq_eq_true c2) (ai_ct_of hCx0 (Or.inl rfl) c4) (ai_ct_of hCx0 (Or.inr rfl) c5) hK5 hK h
  | invokespecial idx => exact op_special hCx0 hCS hK5 hK hck hop h
  | invokestatic idx => exact op_static hCx0 hCS hK5 hK hck hop h
  | ireturn =>
    have hck : (ai_dec M.2.1 pc .ireturn 1 && (match (generalizing := false) k0 with
      | 0 => decide (M.2.2.2.1 = some .int)
      | _ => decide (M.2.2.2.1 = some .boolean))) = true := hck
    rw [Bool.and_eq_true] at hck
    obtain ⟨c1, c2⟩ := hck
    match k0, c2, hop with
    | 0, c2, hop =>
      have hop : some ai_o_iret = some op := hop
      cases hop
      exact so_iret hx hb hlocks (hret.trans (of_decide_eq_true c2)) hQ (ai_dec_ok c1) h
    | k0 + 1, c2, hop =>
      have hop : some ai_o_zret = some op := hop
      cases hop
      exact so_zret hx hb hlocks (hret.trans (of_decide_eq_true c2)) hQ (ai_dec_ok c1) h
  | areturn =>
    have hck : (ai_dec M.2.1 pc .areturn 1 && (match (generalizing := false) M.2.2.2.1 with
      | some (.object _) => true
      | some (.array _) => true
      | _ => false)) = true := hck
    rw [Bool.and_eq_true] at hck
    obtain ⟨c1, c2⟩ := hck
    have hop : some ai_o_aret = some op := hop
    cases hop
    have hrt : ∃ rt : FieldType, M.2.2.2.1 = some rt ∧ ((∃ n, rt = .object n) ∨ ∃ t, rt = .array t) := by
      split at c2
      · next n hn => exact ⟨_, hn, Or.inl ⟨_, rfl⟩⟩
      · next n hn => exact ⟨_, hn, Or.inr ⟨_, rfl⟩⟩
      · cases c2
    obtain ⟨rt, h1, h2⟩ := hrt
    exact so_aret hx hb hlocks (hret.trans h1) h2 hQ (ai_dec_ok c1) h
  | return_ =>
    have hck : (ai_dec M.2.1 pc .return_ 1 && decide (M.2.2.2.1 = none)) = true := hck
    rw [Bool.and_eq_true] at hck
    have hop : some ai_o_vret = some op := hop
    cases hop
    exact so_vret hx hb hlocks (hret.trans (of_decide_eq_true hck.2)) hQ (ai_dec_ok hck.1) h
  | ldc_w idx =>
    have hck : false = true := hck
    cases hck
  | _ => cases hop
end SND
end
section
/-! ===== runs and calls of the interpreter are the machine's ===== -/
theorem ai_find_cons (q : Nat × ai_I) (t : List (Nat × ai_I)) (sl : Int × Int) (pc : Nat) : ai_find (q :: t) sl pc = cond (Nat.beq (Prod.fst q) pc) (ai_sem sl (Prod.snd q)) (ai_find t sl pc) := rfl
theorem ai_find_ok {sl : Int × Int} {pc : Nat} {op : ai_Op} : ∀ {l1 : List (Nat × ai_I)}, ai_find l1 sl pc = some op → ∃ q ∈ l1, q.1 = pc ∧ ai_sem sl q.2 = some op
  | [], h => by cases h
  | q :: t, h => by
    rw [ai_find_cons] at h
    cases hb : Nat.beq (Prod.fst q) pc with
    | true => rw [hb] at h; exact ⟨q, List.mem_cons_self, Nat.eq_of_beq_eq_true hb, h⟩
    | false =>
      rw [hb] at h
      obtain ⟨q', h1, h2⟩ := ai_find_ok (l1 := t) h
      exact ⟨q', List.mem_cons_of_mem _ h1, h2⟩
theorem ai_find_no {sl : Int × Int} {pc : Nat} : ∀ {l1 : List (Nat × ai_I)}, (∀ q ∈ l1, Nat.beq q.1 pc = false) → ai_find l1 sl pc = none
  | [], _ => rfl
  | q :: t, h => by
    rw [ai_find_cons, show Nat.beq (Prod.fst q) pc = false from h q List.mem_cons_self]
    exact ai_find_no (fun q' hq => h q' (List.mem_cons_of_mem _ hq))
theorem ai_run_s (code : Nat → Option ai_Op) (call : ai_K) (n : Nat) (pc : Nat) (loc st : List ai_V) (g : ai_G) : ai_run code call (n + 1) pc loc st g = (match code pc with
    | none => none
    | some o => o call (ai_run code call n) loc st g) := rfl
section RUN
variable {p : Program} {l : Launch} {e : Env} {R : Room} {s : State} {m : MethodId} {args : Array Value} {below : List Frame} {meth : Method} {c : Code} {nL b0 : Nat} {rho : Nat → Int32} {tc dC : Nat → ClassId} {dI : Nat → Nat → Nat} {base : Nat} {ws0 : va_W} {kE sE mk0 ms0 : Nat} {os0 : List ai_O} {Q : State → Prop}
variable {M : ai_M} {L : Nat} {sa : Nat → Nat} {sl : Int × Int} {d : Nat} {call : ai_K}
theorem ai_run_ok (hCx : ai_Cx p l e R s m args below meth c nL b0 rho tc dC dI base ws0 kE sE mk0 ms0 os0 Q M L sa sl d) (hCS : ai_CS l b0 L base rho tc dC dI sa call d) (hck : ai_ckM M = true) : ∀ n, ai_KS p l e R s m args below meth c nL b0 rho tc dC dI base ws0 kE sE mk0 ms0 os0 Q (ai_run (ai_find M.2.2.2.2.2.2 sl) call n) := by
  have hall : ∀ q ∈ M.2.2.2.2.2.2, ai_ck M q.1 q.2 = true ∧ Nat.beq q.1 65535 = false := fun q hq => by
    have h1 := List.all_eq_true.mp hck q hq
    rw [Bool.and_eq_true] at h1
    exact ⟨h1.1, by rw [← Bool.not_eq_true']; exact h1.2⟩
  have h5 : ∀ n, ∀ loc st g, ai_run (ai_find M.2.2.2.2.2.2 sl) call n 65535 loc st g = none := by
    intro n loc st g
    cases n with
    | zero => rfl
    | succ n => rw [ai_run_s, ai_find_no (fun q hq => (hall q hq).2)]
  intro n
  induction n with
  | zero => intro pc loc st g r h; cases h
  | succ n ih =>
    intro pc loc st g r h
    rw [ai_run_s] at h
    cases hf : ai_find M.2.2.2.2.2.2 sl pc with
    | none => rw [hf] at h; cases h
    | some op =>
      rw [hf] at h
      obtain ⟨q, hq, e1, e2⟩ := ai_find_ok hf
      subst e1
      exact op_sound hCx hCS (h5 n) ih (hall q hq).1 e2 h
end RUN
theorem ai_at_eq {α : Type} : ∀ (l1 : List α) (j : Nat), ai_at l1 j = l1[j]?
  | [], _ => rfl
  | _ :: _, 0 => rfl
  | _ :: t, j + 1 => by
    rw [List.getElem?_cons_succ, ← ai_at_eq t j]
    rfl
/-- all arguments are of one word -/
theorem ai_arg_cat {b0 : Nat} {rho : Nat → Int32} {ws : va_W} : ∀ {a : List ai_V} {as : List Value}, ai_SR b0 rho ws a as → a.all (fun v => ai_isr v.1 || Nat.ble v.1 1) = true → ∀ w ∈ as, w.category = 1
  | [], [], _, _ => fun w hw => nomatch hw
  | [], _ :: _, h, _ => by cases h
  | _ :: _, [], h, _ => by cases h
  | v :: a, w :: as, h, hb => by
    rw [List.all_cons, Bool.and_eq_true] at hb
    intro x hx
    rcases List.mem_cons.mp hx with rfl | hx
    · refine h.1.cat ?_
      rcases Bool.or_eq_true_iff.mp hb.1 with q | q
      · intro q2
        rcases q2 with q2 | q2 <;> (rw [q2] at q; cases q)
      · have q : v.1 ≤ 1 := Nat.le_of_ble_eq_true q
        omega
    · exact ai_arg_cat h.2 hb.2 x hx
theorem ai_sl_len : ∀ {as : List Value}, (∀ w ∈ as, w.category = 1) → (lg_sl as).length = as.length
  | [], _ => rfl
  | w :: t, h => by
    have h1 : ¬ w.category = 2 := by rw [h w List.mem_cons_self]; decide
    have ih := ai_sl_len (as := t) (fun x hx => h x (List.mem_cons_of_mem _ hx))
    unfold lg_sl at ih ⊢
    rw [List.flatMap_cons, if_neg h1, List.length_append, ih]
    simp
    omega
theorem ai_lv_args : ∀ {as : List Value} {i k : Nat} {w : Value}, (∀ w ∈ as, w.category = 1) → as[i]? = some w → (k + i, w) ∈ lv_args k as
  | [], i, k, w, _, h => by simp at h
  | v :: t, i, k, w, hc, h => by
    have h1 : ¬ v.category = 2 := by rw [hc v List.mem_cons_self]; decide
    unfold lv_args
    rw [if_neg h1]
    cases i with
    | zero =>
      simp only [List.getElem?_cons_zero, Option.some.injEq] at h
      rw [h]; exact List.mem_cons_self
    | succ i =>
      rw [List.getElem?_cons_succ] at h
      have ih := ai_lv_args (k := k + 1) (fun x hx => hc x (List.mem_cons_of_mem _ hx)) h
      rw [show k + (i + 1) = k + 1 + i by omega]
      exact List.mem_cons_of_mem _ ih
/-- the locals at a method's start -/
theorem ai_entry {b0 : Nat} {rho : Nat → Int32} {ws : va_W} {a : List ai_V} {as : List Value} {n : Nat} (h : ai_SR b0 rho ws a as) (hok : ai_argok a n = true) :
    ai_LR b0 rho ws (ai_pad n a) ((lg_sl as ++ List.replicate (n - (lg_sl as).length) Slot.unset).toArray) n := by
  unfold ai_argok at hok
  rw [Bool.and_eq_true] at hok
  have hn : a.length ≤ n := Nat.le_of_ble_eq_true hok.1
  have hc := ai_arg_cat h hok.2
  have hl := h.len
  have hsl := ai_sl_len hc
  refine ⟨?_, lv_args 0 as, lv_entry as (by omega), fun i v hv h9 => ?_⟩
  · unfold ai_pad
    rw [List.length_append, List.length_replicate]
    omega
  · unfold ai_pad at hv
    by_cases hi : i < a.length
    · rw [List.getElem?_append_left hi] at hv
      obtain ⟨w, q1, q2⟩ := h.at hv
      have hm := ai_lv_args (k := 0) hc q1
      rw [Nat.zero_add] at hm
      exact ⟨w, q2, hc w (List.mem_of_getElem? q1), hm⟩
    · rw [List.getElem?_append_right (by omega)] at hv
      have hm := List.mem_of_getElem? hv
      rw [List.eq_of_mem_replicate hm] at h9
      exact absurd rfl h9
/-- what is owed of PenPageModel.copy, whose loop the interpreter sums up -/
def ai_CA (l : Launch) (b0 L base : Nat) (rho : Nat → Int32) (tc dC : Nat → ClassId) (dI : Nat → Nat → Nat) (sa : Nat → Nat) : Prop :=
  ∀ (d : Nat) (a : List ai_V) (g : ai_G) (os : List ai_O) (x1 x2 : Nat), ai_sum a g = some (os, x1, x2) → ∀ M, ai_meths[ai_jca]? = some M → ∀ (ws : va_W) (as : List Value), ai_WR b0 rho tc ws g.1 (ai_nx g) → va_D (ai_A base) ws → ai_EV rho (ai_x g) → ai_SR b0 rho ws a as →
    vx_Met l M.1 [ai_code M] (ai_rm (d + 1) (x1 - ai_kc g) (x2 - ai_ks g)) (ai_Pc b0 L base rho tc dC dI sa ws as) (ai_Qc b0 rho tc dC dI base ws os) (ai_XC b0 rho tc dC dI base ws os) (x1 - ai_kc g) (x2 - ai_ks g) (ai_A base)
theorem ai_ev_s (sl : Int × Int) (d j : Nat) (a : List ai_V) (g : ai_G) : ai_ev sl (d + 1) j a g = (match ai_at ai_meths j with
    | none => none
    | some M => match cond (Nat.beq j ai_jca) (ai_sum a g) none with
      | some r => some r
      | none => cond (ai_argok a M.2.2.1) (ai_run (ai_find M.2.2.2.2.2.2 sl) (ai_ev sl d) 100000 0 (ai_pad M.2.2.1 a) [] g) none) := rfl
theorem ai_name_of {p : Program} {l : Launch} {x : MethodName} {S : Spec} {code9 : ByteArray} {mL : Nat} {ret9 : Option FieldType} {e : Env} {s : State} {m : MethodId} {args : Array Value} {below : List Frame} {meth : Method} {c : Code} {s₁ : State}
    (B : BodyLoose p l x S code9 mL ret9 e s m args below meth c s₁) : meth.name = x.name := by
  exact (name_of_methodNamed B.named B.method).1
section EV
variable {l : Launch} {b0 L base : Nat} {rho : Nat → Int32} {tc dC : Nat → ClassId} {dI : Nat → Nat → Nat} {sa : Nat → Nat} {sl : Int × Int}
theorem ai_ev_ok (hst : l.stackTraces = false) (hD : ai_D rho) (hL : L < 2 ^ 31 ∧ sl.1 ≤ (L : Int) ∧ (L : Int) ≤ sl.2) (hck : ∀ M ∈ ai_meths, ai_ckM M = true) (hCA : ai_CA l b0 L base rho tc dC dI sa) : ∀ d, ai_CS l b0 L base rho tc dC dI sa (ai_ev sl d) d := by
  intro d
  induction d with
  | zero => intro j a g os x1 x2 h; cases h
  | succ d ih =>
    intro j a g os x1 x2 h M hM hj ws as hWR hDw hE hSR
    rw [ai_ev_s, ai_at_eq, hM] at h
    simp only at h
    cases hsm : cond (Nat.beq j ai_jca) (ai_sum a g) none with
    | some r0 =>
      rw [hsm] at h
      cases h
      cases hjc : Nat.beq j ai_jca with
      | false => rw [hjc] at hsm; cases hsm
      | true =>
        rw [hjc] at hsm
        have hjc : j = ai_jca := Nat.eq_of_beq_eq_true hjc
        rw [hjc] at hM
        exact hCA d a g os x1 x2 hsm M hM ws as hWR hDw hE hSR
    | none =>
      rw [hsm] at h
      simp only at h
      cases hok : ai_argok a M.2.2.1 with
      | false => rw [hok] at h; cases h
      | true =>
        rw [hok] at h
        simp only [cond_true] at h
        have hckM := hck M (List.mem_of_getElem? hM)
        have hqe : ∃ qq, ai_mw[j]? = some qq := by
          have hlt : j < ai_meths.length := (List.getElem?_eq_some_iff.mp hM).1
          have hlen : ai_mw.length = ai_meths.length := by decide +kernel
          exact ⟨_, List.getElem?_eq_getElem (by rw [hlen]; exact hlt)⟩
        obtain ⟨qq, hq⟩ := hqe
        have hb := ai_mw_ok hj hM hq
        unfold ai_bWd at hb
        simp only [Bool.and_eq_true] at hb
        have hpl : plainName M.1.cls = true := hb.1.1.1.1.1.2
        have hcn : M.1.cls = ai_cn M.2.2.2.2.1 := of_decide_eq_true hb.1.1.1.1.2
        have key : ∀ (p : Program) (e : Env) (s : State) (m : MethodId) (args : Array Value) (below : List Frame) (meth : Method) (c : Code), p.tables.exec = Jvm.exec → c.code = M.2.1 → c.maxLocals = M.2.2.1 → s.vm.findClass M.1.cls = some m.cls → meth.locks = false → meth.sig.returnType = M.2.2.2.1 → meth.name = M.1.name → c.exceptionTable.toList = tableOf M.2.2.2.2.2.1 → ai_Pc b0 L base rho tc dC dI sa ws as args s →
            W p l e (ai_rm (d + 1) (x1 - ai_kc g) (x2 - ai_ks g)) s m args below meth c s.heap [] 0 0 (vx_MQ below (ai_Qc b0 rho tc dC dI base ws os) (ai_XC b0 rho tc dC dI base ws os) args s (x1 - ai_kc g) (x2 - ai_ks g) (ai_A base)) (entryFrame m args M.2.2.1) := by
          intro p e s m args below meth c hx hbc hml hown hlk hret hname htab hP
          obtain ⟨ha, hPs, hSF⟩ := hP
          have hCx : ai_Cx p l e (ai_rm (d + 1) (x1 - ai_kc g) (x2 - ai_ks g)) s m args below meth c M.2.2.1 b0 rho tc dC dI base ws (ai_kc g) (ai_ks g) x1 x2 os (vx_MQ below (ai_Qc b0 rho tc dC dI base ws os) (ai_XC b0 rho tc dC dI base ws os) args s (x1 - ai_kc g) (x2 - ai_ks g) (ai_A base)) M L sa sl d := by
            refine ⟨⟨hx, hbc, hml, rfl, by rw [← hcn]; exact hown, hlk, hret, hname, htab⟩, hst, hSF, hD, hL, ⟨?_, ?_⟩, rfl, ?_, ?_⟩
            · show x1 ≤ ai_kc g + (x1 - ai_kc g); omega
            · show x2 ≤ ai_ks g + (x2 - ai_ks g); omega
            · show d + 9 ≤ d + 1 + 8; omega
            · show 60 * d + 360 ≤ 60 * (d + 1) + 300
              rw [Nat.mul_add, Nat.add_assoc]
              exact Nat.le_refl _
          have hrun := ai_run_ok hCx ih hckM 100000 0 (ai_pad M.2.2.1 a) [] g (os, x1, x2) h
          rw [ha, lg_entry_eq]
          rw [ha] at hrun
          exact hrun.2 (fun o ho => ho) (Nat.le_refl _) (Nat.le_refl _) s.heap [] 0 0 _ [] ws ⟨ai_AD.rf, ai_entry hSR hok, trivial, hWR, hPs, hDw, va_S.rf, hE, rfl, rfl⟩
        cases hhs : M.2.2.2.2.2.1 with
        | nil =>
          rw [ai_code_nil hhs]
          refine vx_ofW (cc := M.2.1) (maxL := M.2.2.1) (ret := M.2.2.2.1) hpl rfl fun p e s m args below meth c s₁ B hml ht hP => ?_
          refine key p e s m args below meth c B.exec B.bytes hml (findClass_of_methodNamed B.named) B.notSynchronized B.returns (ai_name_of B) ?_ hP
          rw [hhs]
          cases hl9 : c.exceptionTable.toList with
          | nil => rfl
          | cons x t => exact absurd (ht x (by rw [hl9]; exact List.mem_cons_self)) id
        | cons q t =>
          have hne : M.2.2.2.2.2.1 ≠ [] := by rw [hhs]; exact List.cons_ne_nil _ _
          rw [ai_code_cons hne]
          refine vx_ofWH (cc := M.2.1) (maxL := M.2.2.1) (ret := M.2.2.2.1) (hh := M.2.2.2.2.2.1) hpl rfl fun p e s m args below meth c s₁ B hml hP => ?_
          exact key p e s m args below meth c B.exec B.bytes hml (findClass_of_methodNamed B.named) B.notSynchronized B.returns (ai_name_of B) (vx_table (x := M.1) B (atoms_spec (ws := [Cond.codeWith M.1 M.2.1 M.2.2.1 M.2.2.2.1 M.2.2.2.2.2.1]) B.pre _ (List.mem_singleton.mpr rfl))) hP
end EV
end
section
/-! ===== PenPageModel.copy over a row of zeros ===== -/
theorem ai_jca_at : ai_meths[ai_jca]? = some ai_m115 := rfl
theorem ai_idx {y : Int32} {cy : Int} {i : Nat} (hy : y.toInt = cy) (h0 : 0 ≤ cy) (h1 : cy ≤ 3199) (hi : i < 166) : (166 * y + Int32.ofNat i).toInt = 166 * cy + (i : Int) := by
  have e1 : y = Int32.ofInt cy := by rw [← hy, Int32.ofInt_toInt]
  have e2 : (166 : Int32) = Int32.ofInt 166 := rfl
  have e3 : Int32.ofNat i = Int32.ofInt (i : Int) := by
    apply Int32.toInt_inj.mp
    rw [ai_of_lt (by omega) (by omega), Int32.toInt_ofNat_of_lt (by omega)]
  rw [e1, e2, e3, ← Int32.ofInt_mul, ← Int32.ofInt_add, ai_of_lt (by omega) (by omega)]
theorem ai_vin {z : Int32} {v : Int} {n : Nat} (h : z.toInt = v) (h0 : 0 ≤ v) (h1 : v < (n : Int)) : vp_in z n := by
  unfold vp_in
  rintro (q | q)
  · rw [Int32.lt_iff_toInt_lt] at q
    have q : z.toInt < 0 := q
    omega
  · have q : n ≤ z.toInt.toNat := q
    omega
section CPY
variable {p : Program} {l : Launch} {e : Env} {R : Room} {s : State} {m : MethodId} {args : Array Value} {below : List Frame} {meth : Method} {c : Code} {Q : State → Prop} {tc dC : Nat → ClassId} {dI : Nat → Nat → Nat} {base : Nat} {ws : va_W}
theorem ai_copy_loop (hx : p.tables.exec = Jvm.exec) (hb : c.code = prog_10_method_9_code) (hown : s.vm.findClass (ai_cn 8) = some m.cls) (hA : ai_AW s) (hV : va_K (dC, dI) vwCl (ai_tys tc) s) {b a2 i0 i2 n : Nat} {us : List Value} {f : Nat → Int32} {x y : Int32} {cx cy : Int}
    (hw0 : ws[i0]? = some (b, .inr (8, us))) (hu2 : us[2]? = some (.ref a2)) (hw2 : ws[i2]? = some (a2, .inl (tc 1, n, .inl f))) (hf : ∀ j, j < n → f j = 0) (hn : 531200 ≤ n) (hxc : x.toInt = cx) (hyc : y.toInt = cy) (hx0 : 0 ≤ cx) (hx1 : cx ≤ 3199) (hy0 : 0 ≤ cy) (hy1 : cy ≤ 3199)
    (hend : ∀ {H : Heap} {locs : List Loc} {ls : Array Slot}, va_P (dC, dI) vwCl ws H → va_S (ai_A base) s.heap H locs → W p l e R s m args below meth c H locs 0 0 Q (F0 m 39 ls [])) :
    ∀ (k i : Nat), i + k = 166 → ∀ (H : Heap) (locs : List Loc) (ls : Array Slot), va_P (dC, dI) vwCl ws H → va_D (ai_A base) ws → va_S (ai_A base) s.heap H locs → lv_has ls 4 [(3, .int (Int32.ofNat i)), (0, .ref b), (1, .int x), (2, .int y)] → W p l e R s m args below meth c H locs 0 0 Q (F0 m 2 ls []) := by
  intro k
  have hlink : (Cond.fieldLink (ai_cn 8) 14 (TX8 2).1 (TX8 2).2.1 (TX8 2).2.2.1).before args s = true := hA.use (ai_tw_in (i := 958) (by decide +kernel)) rfl args
  have hcl : vwCl[8]? = some (RX8, TX8, 38) := rfl
  induction k with
  | zero =>
    intro i hi H locs ls hP hD hS hl
    refine lv_iload_n hx hb (k := 3) (i := 3) (by decide +kernel) rfl (lv_at hl 0 rfl) ?_
    refine lv_sipush hx hb (n := 166) (v := 166) (by decide +kernel) rfl ?_
    refine lv_icmp_ge hx hb (off := 33) (tgt := 39) (by decide +kernel) rfl (fun _ => hend hP hS) (fun q => ?_)
    exfalso
    apply q
    have e1 : i = 166 := by omega
    subst e1
    decide
  | succ k ih =>
    intro i hi H locs ls hP hD hS hl
    refine lv_iload_n hx hb (k := 3) (i := 3) (by decide +kernel) rfl (lv_at hl 0 rfl) ?_
    refine lv_sipush hx hb (n := 166) (v := 166) (by decide +kernel) rfl ?_
    refine lv_icmp_ge hx hb (off := 33) (tgt := 39) (by decide +kernel) rfl (fun _ => hend hP hS) (fun q => ?_)
    have hi6 : i < 166 := by omega
    have ex := ai_idx hxc hx0 hx1 hi6
    have ey := ai_idx hyc hy0 hy1 hi6
    have vx : vp_in (166 * x + Int32.ofNat i) n := ai_vin ex (by omega) (by omega)
    have vy : vp_in (166 * y + Int32.ofNat i) n := ai_vin ey (by omega) (by omega)
    have lx : (166 * x + Int32.ofNat i).toNatClampNeg < n := Nat.not_le.mp fun z => vx (Or.inr z)
    have ly : (166 * y + Int32.ofNat i).toNatClampNeg < n := Nat.not_le.mp fun z => vy (Or.inr z)
    refine lv_aload_n hx hb (k := 0) (i := 0) (by decide +kernel) rfl (lv_at hl 1 rfl) ?_
    refine va_get (T := TX8) (Ts := u_ws RX8 TX8 38) hx hb (ai_uw hA hcl) (fun w hw => hw) hown hV hP i0 hw0 hcl 2 (by decide) hlink (fun _ h9 => h9) hu2 (by decide +kernel) ?_
    refine lv_sipush hx hb (n := 166) (v := 166) (by decide +kernel) rfl ?_
    refine lv_iload_n hx hb (k := 2) (i := 2) (by decide +kernel) rfl (lv_at hl 3 rfl) ?_
    refine lv_imul hx hb (by decide +kernel) ?_
    refine lv_iload_n hx hb (k := 3) (i := 3) (by decide +kernel) rfl (lv_at hl 0 rfl) ?_
    refine lv_iadd hx hb (by decide +kernel) ?_
    refine lv_aload_n hx hb (k := 0) (i := 0) (by decide +kernel) rfl (lv_at hl 1 rfl) ?_
    refine va_get (T := TX8) (Ts := u_ws RX8 TX8 38) hx hb (ai_uw hA hcl) (fun w hw => hw) hown hV hP i0 hw0 hcl 2 (by decide) hlink (fun _ h9 => h9) hu2 (by decide +kernel) ?_
    refine lv_sipush hx hb (n := 166) (v := 166) (by decide +kernel) rfl ?_
    refine lv_iload_n hx hb (k := 1) (i := 1) (by decide +kernel) rfl (lv_at hl 2 rfl) ?_
    refine lv_imul hx hb (by decide +kernel) ?_
    refine lv_iload_n hx hb (k := 3) (i := 3) (by decide +kernel) rfl (lv_at hl 0 rfl) ?_
    refine lv_iadd hx hb (by decide +kernel) ?_
    refine va_iald hx hb hV hP i2 0 hw2 rfl vx (by decide +kernel) ?_
    refine va_iast hx hb hV hP hD hS i2 0 hw2 rfl vy (by decide +kernel) fun H1 locs1 hP1 hD1 hS1 => ?_
    have eu : upd f (166 * y + Int32.ofNat i).toNatClampNeg (f (166 * x + Int32.ofNat i).toNatClampNeg) = f := by
      funext j
      unfold upd
      by_cases hj : j = (166 * y + Int32.ofNat i).toNatClampNeg
      · rw [if_pos hj, hf _ lx, hj, hf _ ly]
      · rw [if_neg hj]
    have ew : ws.set i2 (a2, .inl (tc 1, n, .inl (upd f (166 * y + Int32.ofNat i).toNatClampNeg (f (166 * x + Int32.ofNat i).toNatClampNeg)))) = ws := by
      rw [eu]
      apply List.ext_getElem?
      intro j
      by_cases hj : j = i2
      · rw [hj, hw2, List.getElem?_set_self (List.getElem?_eq_some_iff.mp hw2).1]
      · rw [List.getElem?_set_ne (fun z => hj z.symm)]
    rw [ew] at hP1 hD1
    refine lv_iinc hx hb (i := 3) (n := 1) (k := 0) (nL := 4) (by decide +kernel) hl rfl rfl (by decide) rfl fun ls' hl' => ?_
    refine lv_goto hx hb (off := -34) (tgt := 2) (by decide +kernel) rfl ?_
    refine ih (i + 1) (by omega) H1 locs1 ls' hP1 hD1 hS1 ?_
    have e1 : Int32.ofNat i + Int32.ofInt 1 = Int32.ofNat (i + 1) := by
      rw [Int32.ofNat_add]
      rfl
    rw [e1] at hl'
    exact hl'
end CPY
end
section
theorem ai_copy_ok {l : Launch} {b0 L base : Nat} {rho : Nat → Int32} {tc dC : Nat → ClassId} {dI : Nat → Nat → Nat} {sa : Nat → Nat} : ai_CA l b0 L base rho tc dC dI sa := by
  intro d a g os x1 x2 h M hM ws as hWR hDw hE hSR
  rw [ai_jca_at] at hM
  cases hM
  unfold ai_sum at h
  match a, h, hSR with
  | [], h, _ => cases h
  | [_], h, _ => cases h
  | [_, _], h, _ => cases h
  | _ :: _ :: _ :: _ :: _, h, _ => cases h
  | [r, x, y], h, hSR =>
    simp only at h
    obtain ⟨gh, gx⟩ := g
    obtain ⟨gn, gy⟩ := gx
    cases hc0 : ai_cell (gh, gn, gy) r with
    | none => rw [hc0] at h; cases h
    | some q0 =>
      obtain ⟨i0, t, c0, fs, z0⟩ := q0
      rw [hc0] at h
      simp only at h
      cases hcd : (Nat.beq t 0 && Nat.beq c0 8 && Nat.blt 2 fs.length) with
      | false => rw [hcd] at h; cases h
      | true =>
        rw [hcd] at h
        simp only [cond_true] at h
        simp only [Bool.and_eq_true] at hcd
        have e1 : t = 0 := Nat.eq_of_beq_eq_true hcd.1.1
        have e2 : c0 = 8 := Nat.eq_of_beq_eq_true hcd.1.2
        have e3 : 2 < fs.length := Nat.le_of_ble_eq_true hcd.2
        subst e1 e2
        cases hc2 : ai_cell (gh, gn, gy) (ai_nth ai_un fs 2) with
        | none => rw [hc2] at h; cases h
        | some q2 =>
          obtain ⟨i2, t2, n, dd, us9⟩ := q2
          rw [hc2] at h
          simp only at h
          cases hcd2 : (Nat.beq t2 1 && us9.isEmpty && ai_z0 (ai_nth ai_un dd 0) && Nat.ble 531200 n) with
          | false => rw [hcd2] at h; cases h
          | true =>
            rw [hcd2] at h
            simp only [cond_true] at h
            simp only [Bool.and_eq_true] at hcd2
            obtain ⟨⟨⟨k1, k2⟩, k3⟩, k4⟩ := hcd2
            have k1 : t2 = 1 := Nat.eq_of_beq_eq_true k1
            have k2 : us9 = [] := List.isEmpty_iff.mp k2
            have k4 : 531200 ≤ n := Nat.le_of_ble_eq_true k4
            subst k1 k2
            cases ho1 : ai_one (ai_x (gh, gn, gy)) x with
            | none => rw [ho1] at h; cases h
            | some cx =>
              cases ho2 : ai_one (ai_x (gh, gn, gy)) y with
              | none => rw [ho1, ho2] at h; cases h
              | some cy =>
                rw [ho1, ho2] at h
                simp only at h
                cases hcd3 : (ai_ile 0 cx && ai_ile cx 3199 && ai_ile 0 cy && ai_ile cy 3199) with
                | false => rw [hcd3] at h; cases h
                | true =>
                  rw [hcd3] at h
                  simp only [Bool.and_eq_true, ai_ile_iff] at hcd3
                  obtain ⟨⟨⟨m1, m2⟩, m3⟩, m4⟩ := hcd3
                  have h : some ([(0, ai_nul, (gh, gn, gy))], ai_kc (gh, gn, gy), ai_ks (gh, gn, gy)) = some (os, x1, x2) := h
                  cases h
                  obtain ⟨w0, r1, rfl, p0, hSR⟩ := hSR.cons
                  obtain ⟨w1, r2, rfl, p1, hSR⟩ := hSR.cons
                  obtain ⟨w2, r3, rfl, p2, hSR⟩ := hSR.cons
                  rw [hSR.nil]
                  obtain ⟨b, e0, rfl, hw0, -, -, hRC0⟩ := ai_cell_ok (x := gy) hWR hc0 p0
                  obtain ⟨us, rfl, hSRf⟩ := hRC0.obj rfl
                  have hk2 : fs[2]? = some (ai_nth ai_un fs 2) := by rw [ai_nth_eq, List.getElem?_eq_getElem e3]; rfl
                  obtain ⟨wd, hu2, pd⟩ := hSRf.at hk2
                  obtain ⟨a2, e9, rfl, hw2, -, -, hRC2⟩ := ai_cell_ok (x := gy) hWR hc2 pd
                  obtain ⟨xv, rfl, nx⟩ := p1.int (ai_one_none (rho := rho) ho1)
                  obtain ⟨yv, rfl, ny⟩ := p2.int (ai_one_none (rho := rho) ho2)
                  have hxc := (ai_one_ok hE nx ho1).1
                  have hyc := (ai_one_ok hE ny ho2).1
                  rcases hRC2 with ⟨q, -⟩ | ⟨-, -, f, rfl, hf⟩ | ⟨q, -⟩ | ⟨q, -⟩
                  · cases q
                  · have hf0 : ∀ j, j < n → f j = 0 := by
                      intro j hj
                      have h1 := hf j hj
                      have e5 : ai_el (1, n, dd, []) j = ai_nth ai_un dd 0 := rfl
                      rw [e5] at h1
                      unfold ai_z0 at k3
                      simp only [Bool.and_eq_true, ai_ieq_iff] at k3
                      have k5 : (ai_nth ai_un dd 0).1 = 0 := Nat.eq_of_beq_eq_true k3.1.1
                      obtain ⟨z, hz, nz⟩ := h1.int (by omega)
                      cases hz
                      rcases nz with ⟨-, q1, q2⟩ | ⟨q1, -⟩
                      · apply Int32.toInt_inj.mp
                        have e6 : (ai_nth ai_un dd 0).2.1 = 0 := k3.1.2
                        have e7 : (ai_nth ai_un dd 0).2.2 = 0 := k3.2
                        show (f j).toInt = 0
                        omega
                      · omega
                    show vx_Met l _ [Cond.code _ _ _ _] _ _ _ _ _ _ _
                    refine vx_ofW (cc := ai_m115.2.1) (maxL := 4) (ret := none) (by decide +kernel) rfl fun p e s m args below meth c s₁ B hml ht hP => ?_
                    obtain ⟨ha, hPs, hSF⟩ := hP
                    have hown : s.vm.findClass (ai_cn 8) = some m.cls := findClass_of_methodNamed B.named
                    rw [ha, lg_entry_eq]
                    have hl0 := lv_entry [Value.ref b, .int xv, .int yv] (n := 4) (show 3 ≤ 4 by decide)
                    refine lv_iconst B.exec B.bytes (n := 0) (v := 0) (by decide +kernel) rfl ?_
                    refine lv_istore_n B.exec B.bytes (k := 3) (i := 3) (nL := 4) (by decide +kernel) rfl hl0 (by decide) rfl fun ls' hl' => ?_
                    rw [← ha]
                    refine ai_copy_loop (l := l) B.exec B.bytes hown hSF.1 hSF.2.1 hw0 hu2 hw2 hf0 k4 hxc hyc m1 m2 m3 m4 (fun {H locs ls} hPe hSe => ?_) 166 0 rfl s.heap [] ls' hPs hDw va_S.rf hl'
                    refine W.widen (k := ai_kc (gh, gn, gy) - ai_kc (gh, gn, gy)) (n := ai_ks (gh, gn, gy) - ai_ks (gh, gn, gy)) (Nat.zero_le _) (Nat.zero_le _) (vx_ret (W.vret B.exec B.bytes B.returns (fun t ht9 hW => ?_) hSe.2.2 (by decide +kernel) B.notSynchronized))
                    exact ⟨_, List.mem_singleton.mpr rfl, ws, ⟨ai_AD.rf, hWR, by rw [ht9]; exact hPe, hDw, hE, hSe.F ht9⟩, Or.inl ⟨rfl, rfl⟩⟩
                  · cases q
                  · rcases q with q | q | q <;> cases q
end
section
theorem ai_all_app {α : Type} {f : α → Bool} {a b : List α} (h1 : a.all f = true) (h2 : b.all f = true) : (a ++ b).all f = true := by rw [List.all_append, h1, h2]; rfl
theorem ai_ck0_0 : ai_c0_0.all (fun (q : Nat × ai_I) => ai_ck ai_m0 q.1 q.2 && !(Nat.beq q.1 65535)) = true := by decide +kernel
theorem ai_ck0_1 : ai_c0_1.all (fun (q : Nat × ai_I) => ai_ck ai_m0 q.1 q.2 && !(Nat.beq q.1 65535)) = true := by decide +kernel
theorem ai_ck0_2 : ai_c0_2.all (fun (q : Nat × ai_I) => ai_ck ai_m0 q.1 q.2 && !(Nat.beq q.1 65535)) = true := by decide +kernel
theorem ai_ck0_3 : ai_c0_3.all (fun (q : Nat × ai_I) => ai_ck ai_m0 q.1 q.2 && !(Nat.beq q.1 65535)) = true := by decide +kernel
theorem ai_ck0_4 : ai_c0_4.all (fun (q : Nat × ai_I) => ai_ck ai_m0 q.1 q.2 && !(Nat.beq q.1 65535)) = true := by decide +kernel
theorem ai_ck0_5 : ai_c0_5.all (fun (q : Nat × ai_I) => ai_ck ai_m0 q.1 q.2 && !(Nat.beq q.1 65535)) = true := by decide +kernel
theorem ai_ck0_6 : ai_c0_6.all (fun (q : Nat × ai_I) => ai_ck ai_m0 q.1 q.2 && !(Nat.beq q.1 65535)) = true := by decide +kernel
theorem ai_ck0_7 : ai_c0_7.all (fun (q : Nat × ai_I) => ai_ck ai_m0 q.1 q.2 && !(Nat.beq q.1 65535)) = true := by decide +kernel
theorem ai_ck0_8 : ai_c0_8.all (fun (q : Nat × ai_I) => ai_ck ai_m0 q.1 q.2 && !(Nat.beq q.1 65535)) = true := by decide +kernel
theorem ai_ck0_9 : ai_c0_9.all (fun (q : Nat × ai_I) => ai_ck ai_m0 q.1 q.2 && !(Nat.beq q.1 65535)) = true := by decide +kernel
theorem ai_ck0_10 : ai_c0_10.all (fun (q : Nat × ai_I) => ai_ck ai_m0 q.1 q.2 && !(Nat.beq q.1 65535)) = true := by decide +kernel
theorem ai_ck0_11 : ai_c0_11.all (fun (q : Nat × ai_I) => ai_ck ai_m0 q.1 q.2 && !(Nat.beq q.1 65535)) = true := by decide +kernel
theorem ai_ck0_12 : ai_c0_12.all (fun (q : Nat × ai_I) => ai_ck ai_m0 q.1 q.2 && !(Nat.beq q.1 65535)) = true := by decide +kernel
theorem ai_ck0_13 : ai_c0_13.all (fun (q : Nat × ai_I) => ai_ck ai_m0 q.1 q.2 && !(Nat.beq q.1 65535)) = true := by decide +kernel
theorem ai_ck0_14 : ai_c0_14.all (fun (q : Nat × ai_I) => ai_ck ai_m0 q.1 q.2 && !(Nat.beq q.1 65535)) = true := by decide +kernel
theorem ai_ck0_15 : ai_c0_15.all (fun (q : Nat × ai_I) => ai_ck ai_m0 q.1 q.2 && !(Nat.beq q.1 65535)) = true := by decide +kernel
theorem ai_ck0_16 : ai_c0_16.all (fun (q : Nat × ai_I) => ai_ck ai_m0 q.1 q.2 && !(Nat.beq q.1 65535)) = true := by decide +kernel
theorem ai_ck0_17 : ai_c0_17.all (fun (q : Nat × ai_I) => ai_ck ai_m0 q.1 q.2 && !(Nat.beq q.1 65535)) = true := by decide +kernel
theorem ai_ck0_18 : ai_c0_18.all (fun (q : Nat × ai_I) => ai_ck ai_m0 q.1 q.2 && !(Nat.beq q.1 65535)) = true := by decide +kernel
theorem ai_ck0_19 : ai_c0_19.all (fun (q : Nat × ai_I) => ai_ck ai_m0 q.1 q.2 && !(Nat.beq q.1 65535)) = true := by decide +kernel
theorem ai_ck0_20 : ai_c0_20.all (fun (q : Nat × ai_I) => ai_ck ai_m0 q.1 q.2 && !(Nat.beq q.1 65535)) = true := by decide +kernel
theorem ai_ck0_21 : ai_c0_21.all (fun (q : Nat × ai_I) => ai_ck ai_m0 q.1 q.2 && !(Nat.beq q.1 65535)) = true := by decide +kernel
theorem ai_ck0_22 : ai_c0_22.all (fun (q : Nat × ai_I) => ai_ck ai_m0 q.1 q.2 && !(Nat.beq q.1 65535)) = true := by decide +kernel
theorem ai_ck0_23 : ai_c0_23.all (fun (q : Nat × ai_I) => ai_ck ai_m0 q.1 q.2 && !(Nat.beq q.1 65535)) = true := by decide +kernel
theorem ai_ckm0 : ai_ckM ai_m0 = true := (ai_all_app (ai_all_app (ai_all_app (ai_all_app (ai_all_app (ai_all_app (ai_all_app (ai_all_app (ai_all_app (ai_all_app (ai_all_app (ai_all_app (ai_all_app (ai_all_app (ai_all_app (ai_all_app (ai_all_app (ai_all_app (ai_all_app (ai_all_app (ai_all_app (ai_all_app (ai_all_app ai_ck0_0 ai_ck0_1) ai_ck0_2) ai_ck0_3) ai_ck0_4) ai_ck0_5) ai_ck0_6) ai_ck0_7) ai_ck0_8) ai_ck0_9) ai_ck0_10) ai_ck0_11) ai_ck0_12) ai_ck0_13) ai_ck0_14) ai_ck0_15) ai_ck0_16) ai_ck0_17) ai_ck0_18) ai_ck0_19) ai_ck0_20) ai_ck0_21) ai_ck0_22) ai_ck0_23)
theorem ai_ckq0 : ai_ms0.tail.all ai_ckM = true := by decide +kernel
theorem ai_ckq1 : ai_ms1.all ai_ckM = true := by decide +kernel
theorem ai_ckq2 : ai_ms2.all ai_ckM = true := by decide +kernel
theorem ai_ckq3 : ai_ms3.all ai_ckM = true := by decide +kernel
theorem ai_ckq4 : ai_ms4.all ai_ckM = true := by decide +kernel
theorem ai_ckq5 : ai_ms5.all ai_ckM = true := by decide +kernel
theorem ai_ckq6 : ai_ms6.all ai_ckM = true := by decide +kernel
theorem ai_ckq7 : ai_ms7.all ai_ckM = true := by decide +kernel
theorem ai_ckq8 : ai_ms8.all ai_ckM = true := by decide +kernel
theorem ai_ckq9 : ai_ms9.all ai_ckM = true := by decide +kernel
theorem ai_ckq10 : ai_ms10.all ai_ckM = true := by decide +kernel
theorem ai_ckq11 : ai_ms11.all ai_ckM = true := by decide +kernel
theorem ai_ckq12 : ai_ms12.all ai_ckM = true := by decide +kernel
theorem ai_ckq13 : ai_ms13.all ai_ckM = true := by decide +kernel
theorem ai_ckq14 : ai_ms14.all ai_ckM = true := by decide +kernel
theorem ai_ckq15 : ai_ms15.all ai_ckM = true := by decide +kernel
theorem ai_ckq16 : ai_ms16.all ai_ckM = true := by decide +kernel
theorem ai_ck_all : ∀ M ∈ ai_meths, ai_ckM M = true := by
  show ∀ M ∈ (ai_m0 :: ai_ms0.tail) ++ (ai_ms1 ++ (ai_ms2 ++ (ai_ms3 ++ (ai_ms4 ++ (ai_ms5 ++ (ai_ms6 ++ (ai_ms7 ++ (ai_ms8 ++ (ai_ms9 ++ (ai_ms10 ++ (ai_ms11 ++ (ai_ms12 ++ (ai_ms13 ++ (ai_ms14 ++ (ai_ms15 ++ (ai_ms16)))))))))))))))), ai_ckM M = true
  exact List.forall_mem_append.mpr ⟨List.forall_mem_cons.mpr ⟨ai_ckm0, fun M h => List.all_eq_true.mp ai_ckq0 M h⟩, List.forall_mem_append.mpr ⟨(fun M h => List.all_eq_true.mp ai_ckq1 M h), List.forall_mem_append.mpr ⟨(fun M h => List.all_eq_true.mp ai_ckq2 M h), List.forall_mem_append.mpr ⟨(fun M h => List.all_eq_true.mp ai_ckq3 M h), List.forall_mem_append.mpr ⟨(fun M h => List.all_eq_true.mp ai_ckq4 M h), List.forall_mem_append.mpr ⟨(fun M h => List.all_eq_true.mp ai_ckq5 M h), List.forall_mem_append.mpr ⟨(fun M h => List.all_eq_true.mp ai_ckq6 M h), List.forall_mem_append.mpr ⟨(fun M h => List.all_eq_true.mp ai_ckq7 M h), List.forall_mem_append.mpr ⟨(fun M h => List.all_eq_true.mp ai_ckq8 M h), List.forall_mem_append.mpr ⟨(fun M h => List.all_eq_true.mp ai_ckq9 M h), List.forall_mem_append.mpr ⟨(fun M h => List.all_eq_true.mp ai_ckq10 M h), List.forall_mem_append.mpr ⟨(fun M h => List.all_eq_true.mp ai_ckq11 M h), List.forall_mem_append.mpr ⟨(fun M h => List.all_eq_true.mp ai_ckq12 M h), List.forall_mem_append.mpr ⟨(fun M h => List.all_eq_true.mp ai_ckq13 M h), List.forall_mem_append.mpr ⟨(fun M h => List.all_eq_true.mp ai_ckq14 M h), List.forall_mem_append.mpr ⟨(fun M h => List.all_eq_true.mp ai_ckq15 M h), (fun M h => List.all_eq_true.mp ai_ckq16 M h)⟩⟩⟩⟩⟩⟩⟩⟩⟩⟩⟩⟩⟩⟩⟩⟩
end
section
-- ===== end of PART A; then your names; then what follows =====
/-! THE CLAIM OUT OF ONE WALK OF THE LAW'S BODY. Your part is whole_start (and what it stands on); all else here is the same for every law, but numbers. -/
def R_law : String := "PenPageLaw"
def lw_P (b : Addr) (xs : List Int32) (args : Array Value) (s : State) : Prop := args = #[.ref b] ∧ s.IntsAt b xs ∧ xs.length ≤ 6 ∧ (Jvm.Cond.and given_1 narrow_1).before args s = true
def lw_Q (_ : Array Value) (s : State) (o : Outcome) (t : State) : Prop := o = .returned (some (.int 1)) ∧ Framed s o t [] 600002 7302232
def lw_Z (below : List Frame) (a : Array Value) (s : State) : State → Prop := fun t => ∃ o, t.status = .running ∧ Ended t below o ∧ lw_Q a s o t
/-- the law's own end, with 1 on the stack, nothing written that was there before, its room as the claim has it -/
theorem lw_ret {p : Program} {l : Launch} {e : Env} {s : State} {m : MethodId} {below : List Frame} {meth : Method} {c : Code} {b : Nat} (hx : p.tables.exec = Jvm.exec) (hb : c.code = code) (hr : meth.sig.returnType = ret) (hlocks : meth.locks = false) {pc : Nat} {H : Heap} {ls : Array Slot} (hdg : decode code pc = .ok (.ireturn, 1)) : W p l e room_1 s m #[Value.ref b] below meth c H [] 600002 7302232 (lw_Z below #[Value.ref b] s) (F0 m pc ls [.int 1]) := by
  intro T hT X
  obtain ⟨fs, hret, hrun, hended, hW, hframe⟩ := X.leave (v := some (.int 1)) (hlocks := hlocks) (fun h => by rw [hr] at h; cases h)
  have hmeth' : T.vm.method? m = some meth := X.method'
  refine ⟨T.setFrames fs, ?_, .returned (some (.int 1)), hrun, hended, rfl, ⟨_, rfl⟩, hW, hframe⟩
  jvm_step X.here [X.here.top, hx, hb, hdg, hmeth', hr, ret, narrow_b1]
  (try refine ⟨rfl, ?_⟩); (try refine ⟨rfl, ?_⟩)
  first | (intro acts; rw [hret _ acts rfl rfl rfl]) | rw [hret _ _ rfl rfl rfl]
  exact Steps.refl _
/-- what holds at the law's entry: the machine, the code, the tables' words (any of lw_tbl by 'hts w (by decide +kernel)'), the script of L ints xs at the cell b, what the Statement gives of the start (any of its parts by flat_of_before) -/
def lw_At (p : Program) (s : State) (m : MethodId) (meth : Method) (c : Code) (b L : Nat) (xs : Nat → Int32) : Prop :=
  p.tables.exec = Jvm.exec ∧ c.code = code ∧ meth.sig.returnType = ret ∧ c.maxLocals = 7 ∧ s.vm.findClass R_law = some m.cls ∧ (∀ w ∈ lw_tbl, w.before #[Value.ref b] s = true) ∧ va_X b L xs s s.heap ∧ b < s.heap.size ∧ meth.locks = false ∧ (Jvm.Cond.and given_1 narrow_1).before #[Value.ref b] s = true
end
section
/-! ===== the law's start ===== -/
theorem ai_arrI {s : State} {args : Array Value} {ty : FieldType} (h : (Cond.arrayClass ty).before args s = true) : ∃ cA, ArrOfT s cA ty ∧ s.vm.findClass ("[" ++ ty.toString) = some cA := by
  obtain ⟨c, k, comp, h1, h2, h3⟩ := Cond.arrayClass_spec h
  exact ⟨c, fun n z => ⟨(fun q hq => by cases hq), k, h2, comp, h3⟩, h1⟩
theorem ai_arrO {s : State} {args : Array Value} {C : String} (h : (Cond.arrayOver (.object C)).before args s = true) : ∃ cA, ArrOfT s cA (.object C) ∧ va_RA s cA (.object C) := by
  obtain ⟨comp, c, k, h1, -, h3, h4, h5⟩ := Cond.arrayOver_spec h
  exact ⟨c, fun n z => ⟨(fun q hq => by cases hq), k, h3, comp, h4⟩, k, comp, h3, h4, h1, h5⟩
theorem ai_arrA {s : State} {args : Array Value} {ty : FieldType} (h : (Cond.arrayOver (.array ty)).before args s = true) : ∃ cA, ArrOfT s cA (.array ty) ∧ va_RA s cA (.array ty) := by
  simp only [Cond.before, Cond.holds, Cond.value, beq_iff_eq] at h
  cases hc : s.vm.findClass (FieldType.array ty).toString with
  | none => simp [hc] at h
  | some comp =>
    simp only [hc, Option.bind_some, Option.bind_eq_some_iff, Option.map_eq_some_iff] at h
    obtain ⟨c, hi, k, hk, hb⟩ := h
    cases hkind : k.kind with
    | array component t9 =>
      rw [hkind] at hb
      simp at hb
      refine ⟨c, fun n z => ⟨(fun q hq => by cases hq), k, hk, component, by rw [hkind, hb.1]⟩, ?_⟩
      exact hb.2
    | _ => rw [hkind] at hb; simp at hb
theorem ai_bI : (List.range 9).all (fun ci => ai_ln.any (fun q => Nat.beq q.2.2.1 ci)) = true := by decide +kernel
theorem ai_bS : ai_strs.all (fun q => decide (q.1 = "PenPage") && decide (Cond.stringRef q.1 q.2.1 q.2.2 ∈ tables_1)) = true := by decide +kernel
theorem ai_bX : (ai_tw 27 (.arrayOver (.object "PenPage$Page")) && ai_tw 35 (.arrayOver (.object "PenPage$Step")) && ai_tw 145 (.arrayOver (.array .int)) && decide (Cond.laysStatic Bundle.tN "UNASSIGNED_STACK" Bundle.steD ∈ tables_1) && decide (Cond.laysStatic Bundle.tN "SUPPRESSED_SENTINEL" Bundle.listD ∈ tables_1) && decide (Cond.initialized Bundle.tN ∈ tables_1)) = true := by decide +kernel
def ai_tcs (c1 c2 c3 c4 c5 c6 : ClassId) : Nat → ClassId
  | 1 => c1
  | 2 => c2
  | 3 => c3
  | 4 => c4
  | 5 => c5
  | _ => c6
theorem ai_start {s : State} {b L : Nat} {rho : Nat → Int32} (hts : ∀ w ∈ lw_tbl, w.before #[Value.ref b] s = true) (hX : va_X b L rho s s.heap) (hbl : b < s.heap.size) (hgv : (Jvm.Cond.and given_1 narrow_1).before #[Value.ref b] s = true) :
    ∃ (tc dC : Nat → ClassId) (dI : Nat → Nat → Nat) (sa : Nat → Nat), ai_SF b L s.heap.size rho tc dC dI sa s := by
  have hAW : ai_AW s := fun w hw ho => va_any ho (hts w hw)
  have hcl : ∀ ci : Nat, ∃ (cC : ClassId) (iS : Nat → Nat), ∀ q : vw_C, vwCl[ci]? = some q → u_Kn s q.1 q.2.1 q.2.2 cC iS := by
    intro ci
    cases hq : vwCl[ci]? with
    | none => exact ⟨0, fun _ => 0, fun q hq2 => by cases hq2⟩
    | some q =>
      obtain ⟨C, T, N⟩ := q
      obtain ⟨⟨oc, idx, ci2, p1, p2, p3⟩, h1, h2⟩ := ai_any_in (List.all_eq_true.mp ai_bI ci (List.mem_range.mpr (ai_vwlt hq)))
      have h2 : ci2 = ci := Nat.eq_of_beq_eq_true h2
      subst h2
      have hb9 := List.all_eq_true.mp ai_bN_ok _ h1
      unfold ai_bN at hb9
      simp only [hq, Bool.and_eq_true] at hb9
      obtain ⟨cC, iS, hk⟩ := u_known (ws := u_ws C T N) (args := #[Value.ref b]) (ai_uw hAW hq) (fun w hw => hw) (hts _ (ai_tw_in hb9.1.1.1.1.2))
      exact ⟨cC, iS, fun q2 hq2 => by cases hq2; exact hk⟩
  obtain ⟨dC, hdC⟩ := Classical.axiomOfChoice hcl
  obtain ⟨dI, hdI⟩ := Classical.axiomOfChoice hdC
  have hbX := ai_bX
  have hbA := ai_bArr
  simp only [Bool.and_eq_true] at hbX hbA
  obtain ⟨⟨⟨⟨⟨x1, x2⟩, x3⟩, x4⟩, x5⟩, x6⟩ := hbX
  have tin : ∀ {w : Cond}, decide (w ∈ tables_1) = true → w ∈ lw_tbl := fun h => List.mem_append_right _ (of_decide_eq_true h)
  obtain ⟨c1, a1, r1⟩ := ai_arrI (hts _ (ai_tw_in hbA.1.1))
  obtain ⟨c2, a2, r2⟩ := ai_arrI (hts _ (ai_tw_in hbA.1.2))
  obtain ⟨c3, a3, r3⟩ := ai_arrI (hts _ (ai_tw_in hbA.2))
  obtain ⟨c4, a4, r4⟩ := ai_arrO (hts _ (ai_tw_in x1))
  obtain ⟨c5, a5, r5⟩ := ai_arrO (hts _ (ai_tw_in x2))
  obtain ⟨c6, a6, r6⟩ := ai_arrA (hts _ (ai_tw_in x3))
  have hPP : s.vm.findClass "PenPage" = some (dC 7) := (hdI 7 (RX7, TX7, 15) rfl).2.1
  have hst : ∀ k : Nat, ∃ a : Nat, ∀ q : String × Nat × String, ai_strs[k]? = some q → vk_R q.1 q.2.1 q.2.2 a s := by
    intro k
    cases hq : ai_strs[k]? with
    | none => exact ⟨0, fun q hq2 => by cases hq2⟩
    | some q =>
      obtain ⟨o, i, tx⟩ := q
      have h1 := List.all_eq_true.mp ai_bS _ (List.mem_of_getElem? hq)
      simp only [Bool.and_eq_true] at h1
      have h2 : o = "PenPage" := of_decide_eq_true h1.1
      subst h2
      have hw := hts _ (tin h1.2)
      obtain ⟨k9, cf, i9, a, -, -, -, -, -, hev⟩ := Cond.stringRef_spec (first := s) (o := none) (idx := []) hPP hw
      exact ⟨a, fun q2 hq2 => by cases hq2; exact vk_R.of hw hev⟩
  obtain ⟨sa, hsa⟩ := Classical.axiomOfChoice hst
  have hfl := flat_of_before _ hgv
  refine ⟨ai_tcs c1 c2 c3 c4 c5 c6, dC, dI, sa, hAW, ⟨fun c q hq => hdI c q hq, ?_⟩, va_AO.of (hts _ (ai_tw_in x1)), va_AO.of (hts _ (ai_tw_in x2)), va_AOA.of (hts _ (ai_tw_in x3)), fun k q hq => hsa k q hq,
    vx_Zqof (hts _ (tin x4)) (hts _ (tin x6)) (hfl _ (by decide +kernel)) (fun a ha => Nat.not_le.mpr ha), vx_Zqof (hts _ (tin x5)) (hts _ (tin x6)) (hfl _ (by decide +kernel)) (fun a ha => Nat.not_le.mpr ha), hX, Nat.le_refl _, hbl, va_Nc.of (hfl _ (by decide +kernel)), fun ty hty => word_at (State.WarmedH.refl s) (Or.inr ⟨ty, rfl⟩) (hts _ hty)⟩
  intro k q hq
  match k, hq with
  | 0, hq => cases hq; exact ⟨a1, r1⟩
  | 1, hq => cases hq; exact ⟨a2, r2⟩
  | 2, hq => cases hq; exact ⟨a3, r3⟩
  | 3, hq => cases hq; exact ⟨a4, r4⟩
  | 4, hq => cases hq; exact ⟨a5, r5⟩
  | 5, hq => cases hq; exact ⟨a6, r6⟩
  | k + 6, hq => cases hq
def ai_rho (xs : Nat → Int32) : Nat → Int32 := fun k => if k = 6 then xs 2 / 100 else if k = 7 then xs 2 - xs 2 / 100 * 100 else if k = 8 then xs 0 &&& 31 else xs k
theorem ai_rho_D (xs : Nat → Int32) : ai_D (ai_rho xs) := ⟨rfl, rfl, rfl⟩
theorem ai_rho_lt {xs : Nat → Int32} {k : Nat} (h : k < 6) : ai_rho xs k = xs k := by
  unfold ai_rho
  rw [if_neg (by omega), if_neg (by omega), if_neg (by omega)]
theorem ai_yes_ok {r : Option ai_R} (h : ai_yes r = true) : ∃ (os : List ai_O) (a b : Nat), r = some (os, a, b) ∧ (∀ q ∈ os, q.1 = 1 ∧ q.2.1.1 = 0 ∧ q.2.1.2.1 = 1 ∧ q.2.1.2.2 = 1) ∧ a ≤ 600002 ∧ b ≤ 7302232 := by
  unfold ai_yes at h
  match r, h with
  | none, h => cases h
  | some (os, a, b), h =>
    simp only [Bool.and_eq_true] at h
    refine ⟨os, a, b, rfl, fun q hq => ?_, Nat.le_of_ble_eq_true h.1.2, Nat.le_of_ble_eq_true h.2⟩
    have h1 := List.all_eq_true.mp h.1.1 q hq
    simp only [Bool.and_eq_true, ai_ieq_iff] at h1
    exact ⟨Nat.eq_of_beq_eq_true h1.1.1.1, Nat.eq_of_beq_eq_true h1.2, h1.1.1.2, h1.1.2⟩
theorem ai_law_start (l : Launch) (hst : l.stackTraces = false) {p : Program} {e : Env} {s : State} {m : MethodId} {below : List Frame} {meth : Method} {c : Code} {b L : Nat} {xs : Nat → Int32} (hnm : meth.name = "law") (htab : c.exceptionTable.toList = []) (hL6 : L ≤ 6) (hA : lw_At p s m meth c b L xs)
    {sl : Int × Int} {x : ai_E} (hsl : sl.1 ≤ (L : Int) ∧ (L : Int) ≤ sl.2) (hE : ai_EV (ai_rho xs) x) (hyes : ai_yes (ai_law sl x) = true) :
    W p l e room_1 s m #[Value.ref b] below meth c s.heap [] 0 0 (lw_Z below #[Value.ref b] s) (entryFrame m ([Value.ref b] : List Value).toArray 7) := by
  obtain ⟨hx, hb, hret, hml, hown, hts, hX, hbl, hlk, hgv⟩ := hA
  have hX2 : va_X b L (ai_rho xs) s s.heap := by
    obtain ⟨scr, h1, h2, h3, h4, h5⟩ := hX
    exact ⟨scr, h1, h2, h3, h4, fun j hj => by rw [ai_rho_lt (by omega)]; exact h5 j hj⟩
  obtain ⟨tc, dC, dI, sa, hSF⟩ := ai_start hts hX2 hbl hgv
  obtain ⟨os, x1, x2, hr, hos, hx1, hx2⟩ := ai_yes_ok hyes
  have hLr : L < 2 ^ 31 ∧ sl.1 ≤ (L : Int) ∧ (L : Int) ≤ sl.2 := ⟨by omega, hsl⟩
  have hCS := ai_ev_ok (l := l) (b0 := b) (L := L) (base := s.heap.size) (rho := ai_rho xs) (tc := tc) (dC := dC) (dI := dI) (sa := sa) (sl := sl) hst (ai_rho_D xs) hLr ai_ck_all ai_copy_ok 9
  have hCx : ai_Cx p l e room_1 s m #[Value.ref b] below meth c 7 b (ai_rho xs) tc dC dI s.heap.size [] 0 0 x1 x2 os (vx_MQ below (ai_Qc b (ai_rho xs) tc dC dI s.heap.size [] os) (ai_XC b (ai_rho xs) tc dC dI s.heap.size [] os) #[Value.ref b] s (x1 - 0) (x2 - 0) (ai_A s.heap.size)) ai_m0 L sa sl 9 := by
    refine ⟨⟨hx, hb, hml, rfl, hown, hlk, hret, hnm, htab⟩, hst, hSF, ai_rho_D xs, hLr, ⟨?_, ?_⟩, rfl, ?_, ?_⟩
    · show x1 ≤ 0 + 600002; omega
    · show x2 ≤ 0 + 7302232; omega
    · show 9 + 9 ≤ 2048; decide
    · show 60 * 9 + 360 ≤ 84000; decide
  have hrun := ai_run_ok hCx hCS ai_ckm0 100000 0 (ai_pad 7 [(6, 0, 0)]) [] (ai_g0 x) (os, x1, x2) hr
  have hSR : ai_SR b (ai_rho xs) [] [(6, 0, 0)] [Value.ref b] := ⟨Or.inr (Or.inr (Or.inr (Or.inr (Or.inl ⟨rfl, rfl⟩)))), trivial⟩
  have hW := hrun.2 (fun o ho => ho) (Nat.le_refl _) (Nat.le_refl _) s.heap [] 0 0 _ [] [] ⟨ai_AD.rf, ai_entry hSR (by rfl), trivial, ⟨rfl, Nat.zero_le _, fun i hi => absurd hi (Nat.not_lt_zero _)⟩, fun k q hq => (by simp at hq), ⟨fun i j p q hp => (by simp at hp), fun k q hq => (by simp at hq)⟩, va_S.rf, hE, rfl, rfl⟩
  rw [lg_entry_eq]
  intro T hT X
  obtain ⟨t, a1, o, b1, b2, b3⟩ := hW T hT X
  refine ⟨t, a1, o, b1, b2, ?_⟩
  rcases b3 with ⟨⟨q, hq, ws, -, hout⟩, L9, hfe, hL9⟩ | ⟨q, -, E, ce, L9, ⟨q9, hq9, -, -, h23, -⟩, -⟩
  · obtain ⟨k1, k2, k3, k4⟩ := hos q hq
    rcases hout with ⟨z, -⟩ | ⟨-, w, ho, hw⟩
    · omega
    · obtain ⟨z, rfl, nz⟩ := hw.int (by omega)
      have hz : z = 1 := by
        rcases nz with ⟨-, q1, q2⟩ | ⟨q1, -⟩
        · apply Int32.toInt_inj.mp
          show z.toInt = 1
          omega
        · omega
      subst hz
      subst ho
      refine ⟨rfl, ?_⟩
      obtain ⟨h1, h2, h3⟩ := hfe
      exact ⟨h1, h2, h3.weaken (fun y hy hlt => absurd hlt (Nat.not_lt.mpr (hL9 y hy))) (by omega) (by omega)⟩
  · have := (hos q9 hq9).1
    omega
end
section
set_option maxRecDepth 100000 in
theorem ev_short : ai_yes (ai_law (0, 5) ai_full8) = true := by decide +kernel
set_option maxRecDepth 100000 in
theorem ev_1 : ai_yes (ai_law (6, 6) [ai_fl, ai_fl, ai_fl, ai_fl, ai_fl, ai_fl, ai_fl, ai_fl, (1, 1)]) = true := by decide +kernel
set_option maxRecDepth 100000 in
theorem ev_4 : ai_yes (ai_law (6, 6) [ai_fl, ai_fl, ai_fl, ai_fl, ai_fl, ai_fl, ai_fl, ai_fl, (4, 4)]) = true := by decide +kernel
set_option maxRecDepth 100000 in
theorem ev_9 : ai_yes (ai_law (6, 6) [ai_fl, ai_fl, ai_fl, ai_fl, ai_fl, ai_fl, ai_fl, ai_fl, (9, 9)]) = true := by decide +kernel
set_option maxRecDepth 100000 in
theorem ev_10 : ai_yes (ai_law (6, 6) [ai_fl, ai_fl, ai_fl, ai_fl, ai_fl, ai_fl, ai_fl, ai_fl, (10, 10)]) = true := by decide +kernel
set_option maxRecDepth 100000 in
theorem ev_11 : ai_yes (ai_law (6, 6) [ai_fl, ai_fl, ai_fl, ai_fl, ai_fl, ai_fl, ai_fl, ai_fl, (11, 11)]) = true := by decide +kernel
set_option maxRecDepth 100000 in
theorem ev_12 : ai_yes (ai_law (6, 6) [ai_fl, ai_fl, ai_fl, ai_fl, ai_fl, ai_fl, ai_fl, ai_fl, (12, 12)]) = true := by decide +kernel
set_option maxRecDepth 100000 in
theorem ev_13 : ai_yes (ai_law (6, 6) [ai_fl, ai_fl, ai_fl, ai_fl, ai_fl, ai_fl, ai_fl, ai_fl, (13, 13)]) = true := by decide +kernel
set_option maxRecDepth 100000 in
theorem ev_18 : ai_yes (ai_law (6, 6) [ai_fl, ai_fl, ai_fl, ai_fl, ai_fl, ai_fl, ai_fl, ai_fl, (18, 18)]) = true := by decide +kernel
set_option maxRecDepth 100000 in
theorem ev_19 : ai_yes (ai_law (6, 6) [ai_fl, ai_fl, ai_fl, ai_fl, ai_fl, ai_fl, ai_fl, ai_fl, (19, 19)]) = true := by decide +kernel
set_option maxRecDepth 100000 in
theorem ev_20 : ai_yes (ai_law (6, 6) [ai_fl, ai_fl, ai_fl, ai_fl, ai_fl, ai_fl, ai_fl, ai_fl, (20, 20)]) = true := by decide +kernel
set_option maxRecDepth 100000 in
theorem ev_21 : ai_yes (ai_law (6, 6) [ai_fl, ai_fl, ai_fl, ai_fl, ai_fl, ai_fl, ai_fl, ai_fl, (21, 21)]) = true := by decide +kernel
set_option maxRecDepth 100000 in
theorem ev_22 : ai_yes (ai_law (6, 6) [ai_fl, ai_fl, ai_fl, ai_fl, ai_fl, ai_fl, ai_fl, ai_fl, (22, 22)]) = true := by decide +kernel
set_option maxRecDepth 100000 in
theorem ev_24 : ai_yes (ai_law (6, 6) [ai_fl, ai_fl, ai_fl, ai_fl, ai_fl, ai_fl, ai_fl, ai_fl, (24, 24)]) = true := by decide +kernel
set_option maxRecDepth 100000 in
theorem ev_25 : ai_yes (ai_law (6, 6) [ai_fl, ai_fl, ai_fl, ai_fl, ai_fl, ai_fl, ai_fl, ai_fl, (25, 25)]) = true := by decide +kernel
set_option maxRecDepth 100000 in
theorem ev_26 : ai_yes (ai_law (6, 6) [ai_fl, ai_fl, ai_fl, ai_fl, ai_fl, ai_fl, ai_fl, ai_fl, (26, 26)]) = true := by decide +kernel
set_option maxRecDepth 100000 in
theorem ev_27 : ai_yes (ai_law (6, 6) [ai_fl, ai_fl, ai_fl, ai_fl, ai_fl, ai_fl, ai_fl, ai_fl, (27, 27)]) = true := by decide +kernel
set_option maxRecDepth 100000 in
theorem ev_28 : ai_yes (ai_law (6, 6) [ai_fl, ai_fl, ai_fl, ai_fl, ai_fl, ai_fl, ai_fl, ai_fl, (28, 28)]) = true := by decide +kernel
set_option maxRecDepth 100000 in
theorem ev_29 : ai_yes (ai_law (6, 6) [ai_fl, ai_fl, ai_fl, ai_fl, ai_fl, ai_fl, ai_fl, ai_fl, (29, 29)]) = true := by decide +kernel
set_option maxRecDepth 100000 in
theorem ev_30 : ai_yes (ai_law (6, 6) [ai_fl, ai_fl, ai_fl, ai_fl, ai_fl, ai_fl, ai_fl, ai_fl, (30, 30)]) = true := by decide +kernel
set_option maxRecDepth 100000 in
theorem ev_31 : ai_yes (ai_law (6, 6) [ai_fl, ai_fl, ai_fl, ai_fl, ai_fl, ai_fl, ai_fl, ai_fl, (31, 31)]) = true := by decide +kernel
end
section
set_option maxRecDepth 100000 in
theorem ev_0 : ai_yes (ai_law (6, 6) [ai_fl, ai_fl, ai_fl, ai_fl, ai_fl, ai_fl, ai_fl, ai_fl, (0, 0)]) = true := by decide +kernel
set_option maxRecDepth 100000 in
theorem ev_3 : ai_yes (ai_law (6, 6) [ai_fl, ai_fl, ai_fl, ai_fl, ai_fl, ai_fl, ai_fl, ai_fl, (3, 3)]) = true := by decide +kernel
set_option maxRecDepth 100000 in
theorem ev_6 : ai_yes (ai_law (6, 6) [ai_fl, ai_fl, ai_fl, ai_fl, ai_fl, ai_fl, ai_fl, ai_fl, (6, 6)]) = true := by decide +kernel
end
section
set_option maxRecDepth 100000 in
theorem ev_7 : ai_yes (ai_law (6, 6) [ai_fl, ai_fl, ai_fl, ai_fl, ai_fl, ai_fl, ai_fl, ai_fl, (7, 7)]) = true := by decide +kernel
set_option maxRecDepth 100000 in
theorem ev_8 : ai_yes (ai_law (6, 6) [ai_fl, ai_fl, ai_fl, ai_fl, ai_fl, ai_fl, ai_fl, ai_fl, (8, 8)]) = true := by decide +kernel
end
section
set_option maxRecDepth 100000 in
theorem ev_14 : ai_yes (ai_law (6, 6) [ai_fl, ai_fl, ai_fl, ai_fl, ai_fl, ai_fl, ai_fl, ai_fl, (14, 14)]) = true := by decide +kernel
set_option maxRecDepth 100000 in
theorem ev_15 : ai_yes (ai_law (6, 6) [ai_fl, ai_fl, ai_fl, ai_fl, ai_fl, ai_fl, ai_fl, ai_fl, (15, 15)]) = true := by decide +kernel
end
section
set_option maxRecDepth 100000 in
theorem ev_16 : ai_yes (ai_law (6, 6) [ai_fl, ai_fl, ai_fl, ai_fl, ai_fl, ai_fl, ai_fl, ai_fl, (16, 16)]) = true := by decide +kernel
set_option maxRecDepth 100000 in
theorem ev_17 : ai_yes (ai_law (6, 6) [ai_fl, ai_fl, ai_fl, ai_fl, ai_fl, ai_fl, ai_fl, ai_fl, (17, 17)]) = true := by decide +kernel
set_option maxRecDepth 100000 in
theorem ev_23 : ai_yes (ai_law (6, 6) [ai_fl, ai_fl, ai_fl, ai_fl, ai_fl, ai_fl, ai_fl, ai_fl, (23, 23)]) = true := by decide +kernel
end
section
set_option maxRecDepth 100000 in
theorem ev_2a : ai_yes (ai_law (6, 6) [ai_fl, (ai_lo, -1), ai_fl, ai_fl, ai_fl, ai_fl, ai_fl, ai_fl, (2, 2)]) = true := by decide +kernel
set_option maxRecDepth 100000 in
theorem ev_2bp : ai_yes (ai_law (6, 6) [ai_fl, (0, 0), (ai_lo, -1), ai_fl, ai_fl, ai_fl, ai_fl, ai_fl, (2, 2)]) = true := by decide +kernel
set_option maxRecDepth 100000 in
theorem ev_2bq : ai_yes (ai_law (6, 6) [ai_fl, (0, 0), (0, 0), ai_fl, ai_fl, ai_fl, ai_fl, ai_fl, (2, 2)]) = true := by decide +kernel
set_option maxRecDepth 100000 in
theorem ev_2br : ai_yes (ai_law (6, 6) [ai_fl, (0, 0), (1, 1), ai_fl, ai_fl, ai_fl, ai_fl, ai_fl, (2, 2)]) = true := by decide +kernel
set_option maxRecDepth 100000 in
theorem ev_2bs : ai_yes (ai_law (6, 6) [ai_fl, (0, 0), (2, 2), ai_fl, ai_fl, ai_fl, ai_fl, ai_fl, (2, 2)]) = true := by decide +kernel
set_option maxRecDepth 100000 in
theorem ev_2bt : ai_yes (ai_law (6, 6) [ai_fl, (0, 0), (3, ai_hi), ai_fl, ai_fl, ai_fl, ai_fl, ai_fl, (2, 2)]) = true := by decide +kernel
end
section
set_option maxRecDepth 100000 in
theorem ev_2cp : ai_yes (ai_law (6, 6) [ai_fl, (1, 1), (ai_lo, -1), ai_fl, ai_fl, ai_fl, ai_fl, ai_fl, (2, 2)]) = true := by decide +kernel
set_option maxRecDepth 100000 in
theorem ev_2cq : ai_yes (ai_law (6, 6) [ai_fl, (1, 1), (0, 0), ai_fl, ai_fl, ai_fl, ai_fl, ai_fl, (2, 2)]) = true := by decide +kernel
set_option maxRecDepth 100000 in
theorem ev_2cr : ai_yes (ai_law (6, 6) [ai_fl, (1, 1), (1, 1), ai_fl, ai_fl, ai_fl, ai_fl, ai_fl, (2, 2)]) = true := by decide +kernel
set_option maxRecDepth 100000 in
theorem ev_2cs : ai_yes (ai_law (6, 6) [ai_fl, (1, 1), (2, 2), ai_fl, ai_fl, ai_fl, ai_fl, ai_fl, (2, 2)]) = true := by decide +kernel
set_option maxRecDepth 100000 in
theorem ev_2ct : ai_yes (ai_law (6, 6) [ai_fl, (1, 1), (3, ai_hi), ai_fl, ai_fl, ai_fl, ai_fl, ai_fl, (2, 2)]) = true := by decide +kernel
set_option maxRecDepth 100000 in
theorem ev_2d : ai_yes (ai_law (6, 6) [ai_fl, (2, ai_hi), ai_fl, ai_fl, ai_fl, ai_fl, ai_fl, ai_fl, (2, 2)]) = true := by decide +kernel
end
section
set_option maxRecDepth 100000 in
theorem ev_5a : ai_yes (ai_law (6, 6) [ai_fl, (ai_lo, -1), ai_fl, ai_fl, ai_fl, ai_fl, ai_fl, ai_fl, (5, 5)]) = true := by decide +kernel
set_option maxRecDepth 100000 in
theorem ev_5b : ai_yes (ai_law (6, 6) [ai_fl, (0, 0), ai_fl, ai_fl, ai_fl, ai_fl, ai_fl, ai_fl, (5, 5)]) = true := by decide +kernel
set_option maxRecDepth 100000 in
theorem ev_5c : ai_yes (ai_law (6, 6) [ai_fl, (1, 1), ai_fl, ai_fl, ai_fl, ai_fl, ai_fl, ai_fl, (5, 5)]) = true := by decide +kernel
set_option maxRecDepth 100000 in
theorem ev_5d : ai_yes (ai_law (6, 6) [ai_fl, (2, ai_hi), ai_fl, ai_fl, ai_fl, ai_fl, ai_fl, ai_fl, (5, 5)]) = true := by decide +kernel
end
section
/-! ===== the whole law ===== -/
theorem ai_flb (z : Int32) : ai_fl.1 ≤ z.toInt ∧ z.toInt ≤ ai_fl.2 := by
  have h := ai_le32 z
  exact ⟨by show ai_lo ≤ _; rw [ai_lo_eq]; exact h.1, by show _ ≤ ai_hi; rw [ai_hi_eq]; exact h.2⟩
theorem ai_EV8 {rho : Nat → Int32} : ai_EV rho ai_full8 := fun k => match k with
  | 0 => ai_flb _
  | 1 => ai_flb _
  | 2 => ai_flb _
  | 3 => ai_flb _
  | 4 => ai_flb _
  | 5 => ai_flb _
  | 6 => ai_flb _
  | 7 => ai_flb _
  | _ + 8 => ai_flb _
theorem ai_EV9 {rho : Nat → Int32} {e1 e2 e8 : Int × Int} (h1 : e1.1 ≤ (rho 1).toInt ∧ (rho 1).toInt ≤ e1.2) (h2 : e2.1 ≤ (rho 2).toInt ∧ (rho 2).toInt ≤ e2.2) (h8 : e8.1 ≤ (rho 8).toInt ∧ (rho 8).toInt ≤ e8.2) : ai_EV rho [ai_fl, e1, e2, ai_fl, ai_fl, ai_fl, ai_fl, ai_fl, e8] := fun k => match k with
  | 0 => ai_flb _
  | 1 => h1
  | 2 => h2
  | 3 => ai_flb _
  | 4 => ai_flb _
  | 5 => ai_flb _
  | 6 => ai_flb _
  | 7 => ai_flb _
  | 8 => h8
  | _ + 9 => ai_flb _
theorem whole_start (l : Launch) (hst : l.stackTraces = false) {p : Program} {e : Env} {s : State} {m : MethodId} {below : List Frame} {meth : Method} {c : Code} {b L : Nat} {xs : Nat → Int32} (hnm : meth.name = "law") (htab : c.exceptionTable.toList = []) (hL6 : L ≤ 6) (hA : lw_At p s m meth c b L xs) :
    W p l e room_1 s m #[Value.ref b] below meth c s.heap [] 0 0 (lw_Z below #[Value.ref b] s) (entryFrame m ([Value.ref b] : List Value).toArray 7) := by
  by_cases hl : L < 6
  · exact ai_law_start l hst hnm htab hL6 hA (sl := (0, 5)) (x := ai_full8) ⟨by show (0 : Int) ≤ _; omega, by show _ ≤ (5 : Int); omega⟩ ai_EV8 ev_short
  · have go : ∀ (e1 e2 : Int × Int) (k : Int), (e1.1 ≤ (ai_rho xs 1).toInt ∧ (ai_rho xs 1).toInt ≤ e1.2) → (e2.1 ≤ (ai_rho xs 2).toInt ∧ (ai_rho xs 2).toInt ≤ e2.2) → (ai_rho xs 8).toInt = k → ai_yes (ai_law (6, 6) [ai_fl, e1, e2, ai_fl, ai_fl, ai_fl, ai_fl, ai_fl, (k, k)]) = true →
        W p l e room_1 s m #[Value.ref b] below meth c s.heap [] 0 0 (lw_Z below #[Value.ref b] s) (entryFrame m ([Value.ref b] : List Value).toArray 7) := fun e1 e2 k h1 h2 h8 hy =>
      ai_law_start l hst hnm htab hL6 hA (sl := (6, 6)) ⟨by show (6 : Int) ≤ _; omega, by show _ ≤ (6 : Int); omega⟩ (ai_EV9 h1 h2 ⟨by show k ≤ _; omega, by show _ ≤ k; omega⟩) hy
    have hm := ai_and_mask (xs 0) (b := 31) (by decide) (by decide)
    have h8 : ai_rho xs 8 = xs 0 &&& Int32.ofInt 31 := rfl
    rw [← h8] at hm
    obtain ⟨n, hn⟩ : ∃ n : Nat, (ai_rho xs 8).toInt = (n : Int) := ⟨(ai_rho xs 8).toInt.toNat, by omega⟩
    have hn32 : n < 32 := by omega
    have f1 := ai_flb (ai_rho xs 1)
    have f2 := ai_flb (ai_rho xs 2)
    have b2 := ai_le32 (ai_rho xs 2)
    have b1 := ai_le32 (ai_rho xs 1)
    match n, hn, hn32 with
    | 0, hn, _ => exact go ai_fl ai_fl 0 f1 f2 hn ev_0
    | 1, hn, _ => exact go ai_fl ai_fl 1 f1 f2 hn ev_1
    | 2, hn, _ =>
      by_cases q0 : (ai_rho xs 1).toInt < 0
      · exact go (ai_lo, -1) ai_fl 2 ⟨f1.1, by show _ ≤ (-1 : Int); omega⟩ f2 hn ev_2a
      · skip
        by_cases q1 : (ai_rho xs 1).toInt = 0
        · by_cases w0 : (ai_rho xs 2).toInt < 0
          · exact go (0, 0) (ai_lo, -1) 2 ⟨by show (0 : Int) ≤ _; omega, by show _ ≤ (0 : Int); omega⟩ ⟨f2.1, by show _ ≤ (-1 : Int); omega⟩ hn ev_2bp
          · skip
            by_cases w1 : (ai_rho xs 2).toInt = 0
            · exact go (0, 0) (0, 0) 2 ⟨by show (0 : Int) ≤ _; omega, by show _ ≤ (0 : Int); omega⟩ ⟨by show (0 : Int) ≤ _; omega, by show _ ≤ (0 : Int); omega⟩ hn ev_2bq
            · skip
              by_cases w2 : (ai_rho xs 2).toInt = 1
              · exact go (0, 0) (1, 1) 2 ⟨by show (0 : Int) ≤ _; omega, by show _ ≤ (0 : Int); omega⟩ ⟨by show (1 : Int) ≤ _; omega, by show _ ≤ (1 : Int); omega⟩ hn ev_2br
              · skip
                by_cases w3 : (ai_rho xs 2).toInt = 2
                · exact go (0, 0) (2, 2) 2 ⟨by show (0 : Int) ≤ _; omega, by show _ ≤ (0 : Int); omega⟩ ⟨by show (2 : Int) ≤ _; omega, by show _ ≤ (2 : Int); omega⟩ hn ev_2bs
                · skip
                  exact go (0, 0) (3, ai_hi) 2 ⟨by show (0 : Int) ≤ _; omega, by show _ ≤ (0 : Int); omega⟩ ⟨by show (3 : Int) ≤ _; omega, f2.2⟩ hn ev_2bt
        · skip
          by_cases q2 : (ai_rho xs 1).toInt = 1
          · by_cases w0 : (ai_rho xs 2).toInt < 0
            · exact go (1, 1) (ai_lo, -1) 2 ⟨by show (1 : Int) ≤ _; omega, by show _ ≤ (1 : Int); omega⟩ ⟨f2.1, by show _ ≤ (-1 : Int); omega⟩ hn ev_2cp
            · skip
              by_cases w1 : (ai_rho xs 2).toInt = 0
              · exact go (1, 1) (0, 0) 2 ⟨by show (1 : Int) ≤ _; omega, by show _ ≤ (1 : Int); omega⟩ ⟨by show (0 : Int) ≤ _; omega, by show _ ≤ (0 : Int); omega⟩ hn ev_2cq
              · skip
                by_cases w2 : (ai_rho xs 2).toInt = 1
                · exact go (1, 1) (1, 1) 2 ⟨by show (1 : Int) ≤ _; omega, by show _ ≤ (1 : Int); omega⟩ ⟨by show (1 : Int) ≤ _; omega, by show _ ≤ (1 : Int); omega⟩ hn ev_2cr
                · skip
                  by_cases w3 : (ai_rho xs 2).toInt = 2
                  · exact go (1, 1) (2, 2) 2 ⟨by show (1 : Int) ≤ _; omega, by show _ ≤ (1 : Int); omega⟩ ⟨by show (2 : Int) ≤ _; omega, by show _ ≤ (2 : Int); omega⟩ hn ev_2cs
                  · skip
                    exact go (1, 1) (3, ai_hi) 2 ⟨by show (1 : Int) ≤ _; omega, by show _ ≤ (1 : Int); omega⟩ ⟨by show (3 : Int) ≤ _; omega, f2.2⟩ hn ev_2ct
          · skip
            exact go (2, ai_hi) ai_fl 2 ⟨by show (2 : Int) ≤ _; omega, f1.2⟩ f2 hn ev_2d
    | 3, hn, _ => exact go ai_fl ai_fl 3 f1 f2 hn ev_3
    | 4, hn, _ => exact go ai_fl ai_fl 4 f1 f2 hn ev_4
    | 5, hn, _ =>
      by_cases q0 : (ai_rho xs 1).toInt < 0
      · exact go (ai_lo, -1) ai_fl 5 ⟨f1.1, by show _ ≤ (-1 : Int); omega⟩ f2 hn ev_5a
      · skip
        by_cases q1 : (ai_rho xs 1).toInt = 0
        · exact go (0, 0) ai_fl 5 ⟨by show (0 : Int) ≤ _; omega, by show _ ≤ (0 : Int); omega⟩ f2 hn ev_5b
        · skip
          by_cases q2 : (ai_rho xs 1).toInt = 1
          · exact go (1, 1) ai_fl 5 ⟨by show (1 : Int) ≤ _; omega, by show _ ≤ (1 : Int); omega⟩ f2 hn ev_5c
          · skip
            exact go (2, ai_hi) ai_fl 5 ⟨by show (2 : Int) ≤ _; omega, f1.2⟩ f2 hn ev_5d
    | 6, hn, _ => exact go ai_fl ai_fl 6 f1 f2 hn ev_6
    | 7, hn, _ => exact go ai_fl ai_fl 7 f1 f2 hn ev_7
    | 8, hn, _ => exact go ai_fl ai_fl 8 f1 f2 hn ev_8
    | 9, hn, _ => exact go ai_fl ai_fl 9 f1 f2 hn ev_9
    | 10, hn, _ => exact go ai_fl ai_fl 10 f1 f2 hn ev_10
    | 11, hn, _ => exact go ai_fl ai_fl 11 f1 f2 hn ev_11
    | 12, hn, _ => exact go ai_fl ai_fl 12 f1 f2 hn ev_12
    | 13, hn, _ => exact go ai_fl ai_fl 13 f1 f2 hn ev_13
    | 14, hn, _ => exact go ai_fl ai_fl 14 f1 f2 hn ev_14
    | 15, hn, _ => exact go ai_fl ai_fl 15 f1 f2 hn ev_15
    | 16, hn, _ => exact go ai_fl ai_fl 16 f1 f2 hn ev_16
    | 17, hn, _ => exact go ai_fl ai_fl 17 f1 f2 hn ev_17
    | 18, hn, _ => exact go ai_fl ai_fl 18 f1 f2 hn ev_18
    | 19, hn, _ => exact go ai_fl ai_fl 19 f1 f2 hn ev_19
    | 20, hn, _ => exact go ai_fl ai_fl 20 f1 f2 hn ev_20
    | 21, hn, _ => exact go ai_fl ai_fl 21 f1 f2 hn ev_21
    | 22, hn, _ => exact go ai_fl ai_fl 22 f1 f2 hn ev_22
    | 23, hn, _ => exact go ai_fl ai_fl 23 f1 f2 hn ev_23
    | 24, hn, _ => exact go ai_fl ai_fl 24 f1 f2 hn ev_24
    | 25, hn, _ => exact go ai_fl ai_fl 25 f1 f2 hn ev_25
    | 26, hn, _ => exact go ai_fl ai_fl 26 f1 f2 hn ev_26
    | 27, hn, _ => exact go ai_fl ai_fl 27 f1 f2 hn ev_27
    | 28, hn, _ => exact go ai_fl ai_fl 28 f1 f2 hn ev_28
    | 29, hn, _ => exact go ai_fl ai_fl 29 f1 f2 hn ev_29
    | 30, hn, _ => exact go ai_fl ai_fl 30 f1 f2 hn ev_30
    | 31, hn, _ => exact go ai_fl ai_fl 31 f1 f2 hn ev_31
    | n + 32, _, h => omega
end
section
-- ===== YOUR PART ENDS =====
set_option maxHeartbeats 4000000 in
theorem lw_walk (l : Launch) (hst : l.stackTraces = false) (b : Addr) (xs : List Int32) : MetFree l x (headSpec (Jvm.Cond.code x code maxLocals ret :: tables_1) room_1) (lw_P b xs) (fun _ _ _ _ _ => True) lw_Q := by
  refine MetFree.of_bodyS (code := code) (maxLocals := maxLocals) (ret := ret) (by decide) ?_ ?_
  · intro args s m h hn
    obtain ⟨meth, c, h1, h2, h3, h4, h5, h6, -, -⟩ := Cond.code_spec hn (atoms_spec (ws := Jvm.Cond.code x code maxLocals ret :: tables_1) h _ List.mem_cons_self)
    exact ⟨meth, c, h1, h2, h3, h4, h5, h6⟩
  · intro p e s m args below meth c s₁ B hml0 hP _
    obtain ⟨rfl, hx, hbd, hgv⟩ := hP
    obtain ⟨scr, harrAt, hlist, hof, hsmall⟩ := hx
    obtain ⟨hcb, hkn, -, -⟩ := State.arrayAt?_spec harrAt
    have hown : s.vm.findClass R_law = some m.cls := findClass_of_methodNamed B.named
    have hts0 : ∀ c ∈ (Jvm.Cond.code x code maxLocals ret :: tables_1), c.before #[Value.ref b] s = true := atoms_spec (ws := Jvm.Cond.code x code maxLocals ret :: tables_1) B.pre
    have hts : ∀ w ∈ lw_tbl, w.before #[Value.ref b] s = true := k2_hts_sels lw_privs (fun w hw => hts0 w (List.mem_cons_of_mem _ hw)) lw_privs_ok
    have hml : c.maxLocals = 7 := B.maxLocals_eq (hts0 _ List.mem_cons_self)
    have X₀ : Stand p l e room_1 s m #[Value.ref b] below meth c s₁ [] 0 0 := Stand.of_body B
    have hh0 : s₁.heap = s.heap := by rw [B.state]; rfl
    have hsz : scr.slots.size = xs.length := by rw [← Array.length_toList, hlist, List.length_map]
    have hval : ∀ j : Nat, j < xs.length → scr.slots[j]? = some (.int (xs.getD j 0)) := fun j hj => by
      rw [← Array.getElem?_toList, hlist]
      simp [hj]
    have hbl : b < s.heap.size := (Array.getElem?_eq_some_iff.mp hcb).1
    have hX : va_X b xs.length (fun j => xs.getD j 0) s s.heap := ⟨scr, hcb, hof, hkn, hsz, hval⟩
    have K : W p l e room_1 s m #[Value.ref b] below meth c s₁.heap [] 0 0 (lw_Z below #[Value.ref b] s) (entryFrame m ([Value.ref b] : List Value).toArray 7) := by
      rw [hh0]
      have ht : c.exceptionTable.toList = [] := by
        obtain ⟨meth9, c9, h1, h2, -, -, -, -, h7, -⟩ := Cond.code_spec B.named (hts0 _ List.mem_cons_self)
        cases Option.some.inj (h1.symm.trans B.method)
        cases Option.some.inj (h2.symm.trans (Stand.of_body B).code)
        rw [Array.isEmpty_iff.mp h7]
      exact whole_start l hst (ai_name_of B) ht hbd ⟨B.exec, B.bytes, B.returns, hml, hown, hts, hX, hbl, B.notSynchronized, hgv⟩
    obtain ⟨t, a1, o, b1, b2, b3⟩ := K s₁ rfl X₀
    exact ⟨t, o, a1, b1, b2, b3⟩
theorem lw_pre_spec {args : Array Value} {s : State} (h : (Jvm.Cond.and given_1 narrow_1).before args s = true) (hr : rest_1_c.before args s = true) : ∃ (b : Addr) (xs : List Int32), lw_P b xs args s := by
  have hs := flat_of_before _ h
  have hq := flat_of_before _ hr
  have hc : (Cond.count 1).before args s = true := hs _ (by decide +kernel)
  have harr : (Cond.arrayOf (.arg 0) .int).before args s = true := hs _ (by decide +kernel)
  have hle : (Cond.le (.length (.arg 0)) (.int 6)).before args s = true := hs _ (by decide +kernel)
  have hlen : (Cond.isInt (.length (.arg 0))).before args s = true := hq _ (by decide +kernel)
  have hall : (Cond.all (.arg 0) (.isInt (.elem (.arg 0) (.index 0)))).before args s = true := hq _ (by decide +kernel)
  obtain ⟨b, xs, hb, hx⟩ := State.ints_of_pre rfl harr hlen hall
  have hsm : xs.length < 2 ^ 31 := hx.choose_spec.2.2.2
  have hev : (Term.length (.arg 0)).eval args s none [] s = some (.int xs.length.toInt32) := hx.length_eval hb
  have hv := Cond.le_ints hev (show (Term.int 6).eval args s none [] s = some (.int 6) from rfl)
  have hd : xs.length.toInt32 ≤ 6 := by
    simpa [Cond.before, Cond.holds, hv] using hle
  have hN : xs.length ≤ 6 := (Int32.ofNat_le_ofNat hsm (by decide)).mp (show Int32.ofNat xs.length ≤ Int32.ofNat 6 from hd)
  exact ⟨b, xs, Cond.one_arg hc (show args[0]? = some (.ref b) from hb), hx, hN, h⟩
theorem lw_comes (l : Launch) (hst : l.stackTraces = false) : Comes l x (Jvm.Cond.code x code maxLocals ret :: tables_1) room_1 (fun tb e args s => Calls_1 tb e args s ∧ rest_1 tb e args s ∧ Pre_1 tb e args s)
    (fun _ _ args s o t => lw_Q args s o t) := by
  intro p e ha hc hk s m args below hf hfit hheap happ hpre
  obtain ⟨b, xs, hP⟩ := lw_pre_spec hpre.2.2 hpre.2.1
  obtain ⟨k, o, h1, h2, h3, hQ⟩ := lw_walk l hst b xs p e ha hc hk s m args below hf ((Spec.applies_iff_loose hf).mp happ).1 hP trivial
  exact ⟨k, o, h1, h2, h3, hQ⟩
theorem lw_frame {s t : State} {o : Outcome} {args : Array Value} (h : Framed s o t [] 600002 7302232) :
    Framed s o t (fieldLocs frame_1_writes args s ++ arrayLocs frame_1_arrays args s ++ staticLocs frame_1_statics s) 600002 7302232 := h
theorem lw_limb (L : Cond) (hL : ∀ (args : Array Value) (s t : State), L.after args s (.returned (some (.int 1))) t = true) :
    ArmFor flags0 classFile x code maxLocals ret World_1 tables_1 room_1 Calls_1 rest_1 Pre_1
      (fun tb e a s o t => postC L tb e a s o t ∧ Framed s o t (fieldLocs frame_1_writes a s ++ arrayLocs frame_1_arrays a s ++ staticLocs frame_1_statics s) 600002 7302232) := by
  intro l hfl _ _ p e ha hc hk s m args below hf hfit hheap happ hpre
  have hst : l.stackTraces = false := by
    unfold Launch.stackTraces
    rw [hfl]
    decide
  obtain ⟨k, o, h1, h2, h3, rfl, hF⟩ := lw_comes l hst p e ha hc hk s m args below hf hfit hheap happ hpre
  exact ⟨k, _, h1, h2, h3, hL args s _, lw_frame hF⟩
theorem i_vc : Claimed_1_1 ∧ Claimed_1_2 := ⟨lw_limb limb_1_1 (fun args s t => by simp [limb_1_1, Cond.after, Cond.holds, Cond.value]), lw_limb limb_1_2 (fun args s t => Cond.after_iff.mpr (by
  first | (rw [show limb_1_2 = Cond.eq .result (.int 1) from rfl, Cond.eq_ints (x := 1) (y := 1) rfl rfl]; simp; done) | (simp [limb_1_2, Cond.value, Term.eval]; done)))⟩
end
