section
-- ===== PART A: goes FIRST, ahead of the names: the tables' words, and 'selects' of the private methods out of them =====
/-- a private method of a class that the tables say can be made, by its rows of tables_1 -/
def lw_okq (q : MethodName × Nat) : Prop := (q.1.cls ≠ "java/lang/invoke/MethodHandle" ∧ q.1.cls ≠ "java/lang/invoke/VarHandle") ∧ Cond.instantiable q.1.cls q.2 ∈ tables_1 ∧ Cond.privateMethod q.1 ∈ tables_1 ∧ Cond.instanceMethod q.1 ∈ tables_1
theorem lw_p0 : lw_okq (⟨"java/lang/Throwable", "fillInStackTrace", "(I)Ljava/lang/Throwable;"⟩, 6) := ⟨⟨by decide +kernel, by decide +kernel⟩, List.mem_of_getElem? (i := 382) (by decide +kernel), List.mem_of_getElem? (i := 380) (by decide +kernel), List.mem_of_getElem? (i := 381) (by decide +kernel)⟩
theorem lw_p1 : lw_okq (⟨"MarkDesk$Terms", "heightOver", "(IIII)I"⟩, 8) := ⟨⟨by decide +kernel, by decide +kernel⟩, List.mem_of_getElem? (i := 30) (by decide +kernel), List.mem_of_getElem? (i := 411) (by decide +kernel), List.mem_of_getElem? (i := 412) (by decide +kernel)⟩
theorem lw_p2 : lw_okq (⟨"MarkDesk$Terms", "sizeOver", "(IIII)I"⟩, 8) := ⟨⟨by decide +kernel, by decide +kernel⟩, List.mem_of_getElem? (i := 30) (by decide +kernel), List.mem_of_getElem? (i := 418) (by decide +kernel), List.mem_of_getElem? (i := 419) (by decide +kernel)⟩
theorem lw_p3 : lw_okq (⟨"MarkDesk$Terms", "neededOver", "(IIII)I"⟩, 8) := ⟨⟨by decide +kernel, by decide +kernel⟩, List.mem_of_getElem? (i := 30) (by decide +kernel), List.mem_of_getElem? (i := 441) (by decide +kernel), List.mem_of_getElem? (i := 442) (by decide +kernel)⟩
theorem lw_p4 : lw_okq (⟨"MarkDesk$Machine", "goTo", "(II)V"⟩, 13) := ⟨⟨by decide +kernel, by decide +kernel⟩, List.mem_of_getElem? (i := 72) (by decide +kernel), List.mem_of_getElem? (i := 514) (by decide +kernel), List.mem_of_getElem? (i := 515) (by decide +kernel)⟩
theorem lw_p5 : lw_okq (⟨"MarkDesk$Machine", "doRound", "()V"⟩, 13) := ⟨⟨by decide +kernel, by decide +kernel⟩, List.mem_of_getElem? (i := 72) (by decide +kernel), List.mem_of_getElem? (i := 518) (by decide +kernel), List.mem_of_getElem? (i := 519) (by decide +kernel)⟩
theorem lw_p6 : lw_okq (⟨"MarkDesk$Machine", "leaveMark", "()V"⟩, 13) := ⟨⟨by decide +kernel, by decide +kernel⟩, List.mem_of_getElem? (i := 72) (by decide +kernel), List.mem_of_getElem? (i := 522) (by decide +kernel), List.mem_of_getElem? (i := 523) (by decide +kernel)⟩
theorem lw_p7 : lw_okq (⟨"MarkDesk$Machine", "beginTerm", "()V"⟩, 13) := ⟨⟨by decide +kernel, by decide +kernel⟩, List.mem_of_getElem? (i := 72) (by decide +kernel), List.mem_of_getElem? (i := 526) (by decide +kernel), List.mem_of_getElem? (i := 527) (by decide +kernel)⟩
theorem lw_p8 : lw_okq (⟨"MarkDesk$Machine", "enterMark", "(I)V"⟩, 13) := ⟨⟨by decide +kernel, by decide +kernel⟩, List.mem_of_getElem? (i := 72) (by decide +kernel), List.mem_of_getElem? (i := 538) (by decide +kernel), List.mem_of_getElem? (i := 539) (by decide +kernel)⟩
theorem lw_p9 : lw_okq (⟨"MarkDesk$Machine", "bringValue", "()V"⟩, 13) := ⟨⟨by decide +kernel, by decide +kernel⟩, List.mem_of_getElem? (i := 72) (by decide +kernel), List.mem_of_getElem? (i := 550) (by decide +kernel), List.mem_of_getElem? (i := 551) (by decide +kernel)⟩
theorem lw_p10 : lw_okq (⟨"MarkDesk$Machine", "choose", "(II)V"⟩, 13) := ⟨⟨by decide +kernel, by decide +kernel⟩, List.mem_of_getElem? (i := 72) (by decide +kernel), List.mem_of_getElem? (i := 554) (by decide +kernel), List.mem_of_getElem? (i := 555) (by decide +kernel)⟩
theorem lw_p11 : lw_okq (⟨"MarkDesk$Machine", "callWith", "(II)V"⟩, 13) := ⟨⟨by decide +kernel, by decide +kernel⟩, List.mem_of_getElem? (i := 72) (by decide +kernel), List.mem_of_getElem? (i := 558) (by decide +kernel), List.mem_of_getElem? (i := 559) (by decide +kernel)⟩
theorem lw_p12 : lw_okq (⟨"MarkDesk$Machine", "joinNumbers", "(III)V"⟩, 13) := ⟨⟨by decide +kernel, by decide +kernel⟩, List.mem_of_getElem? (i := 72) (by decide +kernel), List.mem_of_getElem? (i := 562) (by decide +kernel), List.mem_of_getElem? (i := 563) (by decide +kernel)⟩
theorem lw_p13 : lw_okq (⟨"MarkDesk", "keepValue", "()I"⟩, 12) := ⟨⟨by decide +kernel, by decide +kernel⟩, List.mem_of_getElem? (i := 22) (by decide +kernel), List.mem_of_getElem? (i := 566) (by decide +kernel), List.mem_of_getElem? (i := 567) (by decide +kernel)⟩
theorem lw_p14 : lw_okq (⟨"MarkDesk$Types", "addNode", "(I)I"⟩, 9) := ⟨⟨by decide +kernel, by decide +kernel⟩, List.mem_of_getElem? (i := 189) (by decide +kernel), List.mem_of_getElem? (i := 597) (by decide +kernel), List.mem_of_getElem? (i := 598) (by decide +kernel)⟩
theorem lw_p15 : lw_okq (⟨"MarkDesk$Typing", "holds", "(IIIII)Z"⟩, 5) := ⟨⟨by decide +kernel, by decide +kernel⟩, List.mem_of_getElem? (i := 183) (by decide +kernel), List.mem_of_getElem? (i := 605) (by decide +kernel), List.mem_of_getElem? (i := 606) (by decide +kernel)⟩
def lw_privs_1 : List (MethodName × Nat) := [(⟨"java/lang/Throwable", "fillInStackTrace", "(I)Ljava/lang/Throwable;"⟩, 6), (⟨"MarkDesk$Terms", "heightOver", "(IIII)I"⟩, 8), (⟨"MarkDesk$Terms", "sizeOver", "(IIII)I"⟩, 8), (⟨"MarkDesk$Terms", "neededOver", "(IIII)I"⟩, 8), (⟨"MarkDesk$Machine", "goTo", "(II)V"⟩, 13), (⟨"MarkDesk$Machine", "doRound", "()V"⟩, 13), (⟨"MarkDesk$Machine", "leaveMark", "()V"⟩, 13), (⟨"MarkDesk$Machine", "beginTerm", "()V"⟩, 13), (⟨"MarkDesk$Machine", "enterMark", "(I)V"⟩, 13), (⟨"MarkDesk$Machine", "bringValue", "()V"⟩, 13), (⟨"MarkDesk$Machine", "choose", "(II)V"⟩, 13), (⟨"MarkDesk$Machine", "callWith", "(II)V"⟩, 13), (⟨"MarkDesk$Machine", "joinNumbers", "(III)V"⟩, 13), (⟨"MarkDesk", "keepValue", "()I"⟩, 12), (⟨"MarkDesk$Types", "addNode", "(I)I"⟩, 9), (⟨"MarkDesk$Typing", "holds", "(IIIII)Z"⟩, 5)]
theorem lw_r1 : ∀ q ∈ lw_privs_1, lw_okq q := List.forall_mem_cons.mpr ⟨lw_p0, List.forall_mem_cons.mpr ⟨lw_p1, List.forall_mem_cons.mpr ⟨lw_p2, List.forall_mem_cons.mpr ⟨lw_p3, List.forall_mem_cons.mpr ⟨lw_p4, List.forall_mem_cons.mpr ⟨lw_p5, List.forall_mem_cons.mpr ⟨lw_p6, List.forall_mem_cons.mpr ⟨lw_p7, List.forall_mem_cons.mpr ⟨lw_p8, List.forall_mem_cons.mpr ⟨lw_p9, List.forall_mem_cons.mpr ⟨lw_p10, List.forall_mem_cons.mpr ⟨lw_p11, List.forall_mem_cons.mpr ⟨lw_p12, List.forall_mem_cons.mpr ⟨lw_p13, List.forall_mem_cons.mpr ⟨lw_p14, List.forall_mem_cons.mpr ⟨lw_p15, fun _ h => absurd h List.not_mem_nil⟩⟩⟩⟩⟩⟩⟩⟩⟩⟩⟩⟩⟩⟩⟩⟩
theorem lw_p16 : lw_okq (⟨"MarkDesk$Types", "addPair", "(II)V"⟩, 9) := ⟨⟨by decide +kernel, by decide +kernel⟩, List.mem_of_getElem? (i := 189) (by decide +kernel), List.mem_of_getElem? (i := 613) (by decide +kernel), List.mem_of_getElem? (i := 614) (by decide +kernel)⟩
theorem lw_p17 : lw_okq (⟨"MarkDesk$Types", "join", "(II)Z"⟩, 9) := ⟨⟨by decide +kernel, by decide +kernel⟩, List.mem_of_getElem? (i := 189) (by decide +kernel), List.mem_of_getElem? (i := 621) (by decide +kernel), List.mem_of_getElem? (i := 622) (by decide +kernel)⟩
theorem lw_p18 : lw_okq (⟨"MarkDesk$Typing", "typeOfVariable", "(I)I"⟩, 5) := ⟨⟨by decide +kernel, by decide +kernel⟩, List.mem_of_getElem? (i := 183) (by decide +kernel), List.mem_of_getElem? (i := 625) (by decide +kernel), List.mem_of_getElem? (i := 626) (by decide +kernel)⟩
theorem lw_p19 : lw_okq (⟨"MarkDesk$Typing", "functionHolds", "(III)Z"⟩, 5) := ⟨⟨by decide +kernel, by decide +kernel⟩, List.mem_of_getElem? (i := 183) (by decide +kernel), List.mem_of_getElem? (i := 633) (by decide +kernel), List.mem_of_getElem? (i := 634) (by decide +kernel)⟩
theorem lw_p20 : lw_okq (⟨"MarkDesk$Typing", "bind", "(II)V"⟩, 5) := ⟨⟨by decide +kernel, by decide +kernel⟩, List.mem_of_getElem? (i := 183) (by decide +kernel), List.mem_of_getElem? (i := 637) (by decide +kernel), List.mem_of_getElem? (i := 638) (by decide +kernel)⟩
theorem lw_p21 : lw_okq (⟨"MarkDesk$Typing", "callHolds", "(IIIII)Z"⟩, 5) := ⟨⟨by decide +kernel, by decide +kernel⟩, List.mem_of_getElem? (i := 183) (by decide +kernel), List.mem_of_getElem? (i := 641) (by decide +kernel), List.mem_of_getElem? (i := 642) (by decide +kernel)⟩
theorem lw_p22 : lw_okq (⟨"MarkDesk$Typing", "numbersHold", "(IIII)Z"⟩, 5) := ⟨⟨by decide +kernel, by decide +kernel⟩, List.mem_of_getElem? (i := 183) (by decide +kernel), List.mem_of_getElem? (i := 645) (by decide +kernel), List.mem_of_getElem? (i := 646) (by decide +kernel)⟩
theorem lw_p23 : lw_okq (⟨"MarkDesk$Typing", "ifHolds", "(IIIII)Z"⟩, 5) := ⟨⟨by decide +kernel, by decide +kernel⟩, List.mem_of_getElem? (i := 183) (by decide +kernel), List.mem_of_getElem? (i := 649) (by decide +kernel), List.mem_of_getElem? (i := 650) (by decide +kernel)⟩
theorem lw_p24 : lw_okq (⟨"MarkDesk$Typing", "letHolds", "(IIIII)Z"⟩, 5) := ⟨⟨by decide +kernel, by decide +kernel⟩, List.mem_of_getElem? (i := 183) (by decide +kernel), List.mem_of_getElem? (i := 653) (by decide +kernel), List.mem_of_getElem? (i := 654) (by decide +kernel)⟩
theorem lw_p25 : lw_okq (⟨"MarkDesk$Typing", "wholeHolds", "(III)Z"⟩, 5) := ⟨⟨by decide +kernel, by decide +kernel⟩, List.mem_of_getElem? (i := 183) (by decide +kernel), List.mem_of_getElem? (i := 657) (by decide +kernel), List.mem_of_getElem? (i := 658) (by decide +kernel)⟩
theorem lw_p26 : lw_okq (⟨"MarkDesk$Typing", "takeHolds", "(IIIII)Z"⟩, 5) := ⟨⟨by decide +kernel, by decide +kernel⟩, List.mem_of_getElem? (i := 183) (by decide +kernel), List.mem_of_getElem? (i := 661) (by decide +kernel), List.mem_of_getElem? (i := 662) (by decide +kernel)⟩
theorem lw_p27 : lw_okq (⟨"MarkDesk$Types", "endsEverywhere", "(I)Z"⟩, 9) := ⟨⟨by decide +kernel, by decide +kernel⟩, List.mem_of_getElem? (i := 189) (by decide +kernel), List.mem_of_getElem? (i := 669) (by decide +kernel), List.mem_of_getElem? (i := 670) (by decide +kernel)⟩
theorem lw_p28 : lw_okq (⟨"MarkDesk$KnownType", "keepNode", "(LMarkDesk$Types;II)I"⟩, 5) := ⟨⟨by decide +kernel, by decide +kernel⟩, List.mem_of_getElem? (i := 241) (by decide +kernel), List.mem_of_getElem? (i := 685) (by decide +kernel), List.mem_of_getElem? (i := 686) (by decide +kernel)⟩
theorem lw_p29 : lw_okq (⟨"MarkDeskModel", "fits", "(IIII)Z"⟩, 60) := ⟨⟨by decide +kernel, by decide +kernel⟩, List.mem_of_getElem? (i := 690) (by decide +kernel), List.mem_of_getElem? (i := 889) (by decide +kernel), List.mem_of_getElem? (i := 890) (by decide +kernel)⟩
theorem lw_p30 : lw_okq (⟨"MarkDeskModel", "isTerm", "(I)Z"⟩, 60) := ⟨⟨by decide +kernel, by decide +kernel⟩, List.mem_of_getElem? (i := 690) (by decide +kernel), List.mem_of_getElem? (i := 893) (by decide +kernel), List.mem_of_getElem? (i := 894) (by decide +kernel)⟩
theorem lw_p31 : lw_okq (⟨"MarkDeskModel", "fail", "(I)I"⟩, 60) := ⟨⟨by decide +kernel, by decide +kernel⟩, List.mem_of_getElem? (i := 690) (by decide +kernel), List.mem_of_getElem? (i := 900) (by decide +kernel), List.mem_of_getElem? (i := 901) (by decide +kernel)⟩
def lw_privs_2 : List (MethodName × Nat) := [(⟨"MarkDesk$Types", "addPair", "(II)V"⟩, 9), (⟨"MarkDesk$Types", "join", "(II)Z"⟩, 9), (⟨"MarkDesk$Typing", "typeOfVariable", "(I)I"⟩, 5), (⟨"MarkDesk$Typing", "functionHolds", "(III)Z"⟩, 5), (⟨"MarkDesk$Typing", "bind", "(II)V"⟩, 5), (⟨"MarkDesk$Typing", "callHolds", "(IIIII)Z"⟩, 5), (⟨"MarkDesk$Typing", "numbersHold", "(IIII)Z"⟩, 5), (⟨"MarkDesk$Typing", "ifHolds", "(IIIII)Z"⟩, 5), (⟨"MarkDesk$Typing", "letHolds", "(IIIII)Z"⟩, 5), (⟨"MarkDesk$Typing", "wholeHolds", "(III)Z"⟩, 5), (⟨"MarkDesk$Typing", "takeHolds", "(IIIII)Z"⟩, 5), (⟨"MarkDesk$Types", "endsEverywhere", "(I)Z"⟩, 9), (⟨"MarkDesk$KnownType", "keepNode", "(LMarkDesk$Types;II)I"⟩, 5), (⟨"MarkDeskModel", "fits", "(IIII)Z"⟩, 60), (⟨"MarkDeskModel", "isTerm", "(I)Z"⟩, 60), (⟨"MarkDeskModel", "fail", "(I)I"⟩, 60)]
theorem lw_r2 : ∀ q ∈ lw_privs_2, lw_okq q := List.forall_mem_cons.mpr ⟨lw_p16, List.forall_mem_cons.mpr ⟨lw_p17, List.forall_mem_cons.mpr ⟨lw_p18, List.forall_mem_cons.mpr ⟨lw_p19, List.forall_mem_cons.mpr ⟨lw_p20, List.forall_mem_cons.mpr ⟨lw_p21, List.forall_mem_cons.mpr ⟨lw_p22, List.forall_mem_cons.mpr ⟨lw_p23, List.forall_mem_cons.mpr ⟨lw_p24, List.forall_mem_cons.mpr ⟨lw_p25, List.forall_mem_cons.mpr ⟨lw_p26, List.forall_mem_cons.mpr ⟨lw_p27, List.forall_mem_cons.mpr ⟨lw_p28, List.forall_mem_cons.mpr ⟨lw_p29, List.forall_mem_cons.mpr ⟨lw_p30, List.forall_mem_cons.mpr ⟨lw_p31, fun _ h => absurd h List.not_mem_nil⟩⟩⟩⟩⟩⟩⟩⟩⟩⟩⟩⟩⟩⟩⟩⟩
theorem lw_p32 : lw_okq (⟨"MarkDeskModel", "needs", "(IIII)I"⟩, 60) := ⟨⟨by decide +kernel, by decide +kernel⟩, List.mem_of_getElem? (i := 690) (by decide +kernel), List.mem_of_getElem? (i := 910) (by decide +kernel), List.mem_of_getElem? (i := 911) (by decide +kernel)⟩
theorem lw_p33 : lw_okq (⟨"MarkDeskModel", "run", "(II)I"⟩, 60) := ⟨⟨by decide +kernel, by decide +kernel⟩, List.mem_of_getElem? (i := 690) (by decide +kernel), List.mem_of_getElem? (i := 922) (by decide +kernel), List.mem_of_getElem? (i := 923) (by decide +kernel)⟩
theorem lw_p34 : lw_okq (⟨"MarkDeskModel", "begin", "(II)I"⟩, 60) := ⟨⟨by decide +kernel, by decide +kernel⟩, List.mem_of_getElem? (i := 690) (by decide +kernel), List.mem_of_getElem? (i := 926) (by decide +kernel), List.mem_of_getElem? (i := 927) (by decide +kernel)⟩
theorem lw_p35 : lw_okq (⟨"MarkDeskModel", "give", "(II)V"⟩, 60) := ⟨⟨by decide +kernel, by decide +kernel⟩, List.mem_of_getElem? (i := 690) (by decide +kernel), List.mem_of_getElem? (i := 930) (by decide +kernel), List.mem_of_getElem? (i := 931) (by decide +kernel)⟩
theorem lw_p36 : lw_okq (⟨"MarkDeskModel", "closure", "(II)I"⟩, 60) := ⟨⟨by decide +kernel, by decide +kernel⟩, List.mem_of_getElem? (i := 690) (by decide +kernel), List.mem_of_getElem? (i := 934) (by decide +kernel), List.mem_of_getElem? (i := 935) (by decide +kernel)⟩
theorem lw_p37 : lw_okq (⟨"MarkDeskModel", "bind", "(III)I"⟩, 60) := ⟨⟨by decide +kernel, by decide +kernel⟩, List.mem_of_getElem? (i := 690) (by decide +kernel), List.mem_of_getElem? (i := 938) (by decide +kernel), List.mem_of_getElem? (i := 939) (by decide +kernel)⟩
theorem lw_p38 : lw_okq (⟨"MarkDeskModel", "then", "(IIIII)V"⟩, 60) := ⟨⟨by decide +kernel, by decide +kernel⟩, List.mem_of_getElem? (i := 690) (by decide +kernel), List.mem_of_getElem? (i := 942) (by decide +kernel), List.mem_of_getElem? (i := 943) (by decide +kernel)⟩
theorem lw_p39 : lw_okq (⟨"MarkDeskModel", "goOn", "()I"⟩, 60) := ⟨⟨by decide +kernel, by decide +kernel⟩, List.mem_of_getElem? (i := 690) (by decide +kernel), List.mem_of_getElem? (i := 946) (by decide +kernel), List.mem_of_getElem? (i := 947) (by decide +kernel)⟩
theorem lw_p40 : lw_okq (⟨"MarkDeskModel", "call", "(II)I"⟩, 60) := ⟨⟨by decide +kernel, by decide +kernel⟩, List.mem_of_getElem? (i := 690) (by decide +kernel), List.mem_of_getElem? (i := 950) (by decide +kernel), List.mem_of_getElem? (i := 951) (by decide +kernel)⟩
theorem lw_p41 : lw_okq (⟨"MarkDeskModel", "letterCell", "()I"⟩, 60) := ⟨⟨by decide +kernel, by decide +kernel⟩, List.mem_of_getElem? (i := 690) (by decide +kernel), List.mem_of_getElem? (i := 966) (by decide +kernel), List.mem_of_getElem? (i := 967) (by decide +kernel)⟩
theorem lw_p42 : lw_okq (⟨"MarkDeskModel", "cell", "(I)I"⟩, 60) := ⟨⟨by decide +kernel, by decide +kernel⟩, List.mem_of_getElem? (i := 690) (by decide +kernel), List.mem_of_getElem? (i := 970) (by decide +kernel), List.mem_of_getElem? (i := 971) (by decide +kernel)⟩
theorem lw_p43 : lw_okq (⟨"MarkDeskModel", "goal", "(IIIII)V"⟩, 60) := ⟨⟨by decide +kernel, by decide +kernel⟩, List.mem_of_getElem? (i := 690) (by decide +kernel), List.mem_of_getElem? (i := 974) (by decide +kernel), List.mem_of_getElem? (i := 975) (by decide +kernel)⟩
theorem lw_p44 : lw_okq (⟨"MarkDeskModel", "solve", "()V"⟩, 60) := ⟨⟨by decide +kernel, by decide +kernel⟩, List.mem_of_getElem? (i := 690) (by decide +kernel), List.mem_of_getElem? (i := 978) (by decide +kernel), List.mem_of_getElem? (i := 979) (by decide +kernel)⟩
theorem lw_p45 : lw_okq (⟨"MarkDeskModel", "equal", "(II)V"⟩, 60) := ⟨⟨by decide +kernel, by decide +kernel⟩, List.mem_of_getElem? (i := 690) (by decide +kernel), List.mem_of_getElem? (i := 982) (by decide +kernel), List.mem_of_getElem? (i := 983) (by decide +kernel)⟩
theorem lw_p46 : lw_okq (⟨"MarkDeskModel", "end", "(I)I"⟩, 60) := ⟨⟨by decide +kernel, by decide +kernel⟩, List.mem_of_getElem? (i := 690) (by decide +kernel), List.mem_of_getElem? (i := 986) (by decide +kernel), List.mem_of_getElem? (i := 987) (by decide +kernel)⟩
theorem lw_p47 : lw_okq (⟨"MarkDeskModel", "contains", "(II)Z"⟩, 60) := ⟨⟨by decide +kernel, by decide +kernel⟩, List.mem_of_getElem? (i := 690) (by decide +kernel), List.mem_of_getElem? (i := 990) (by decide +kernel), List.mem_of_getElem? (i := 991) (by decide +kernel)⟩
def lw_privs_3 : List (MethodName × Nat) := [(⟨"MarkDeskModel", "needs", "(IIII)I"⟩, 60), (⟨"MarkDeskModel", "run", "(II)I"⟩, 60), (⟨"MarkDeskModel", "begin", "(II)I"⟩, 60), (⟨"MarkDeskModel", "give", "(II)V"⟩, 60), (⟨"MarkDeskModel", "closure", "(II)I"⟩, 60), (⟨"MarkDeskModel", "bind", "(III)I"⟩, 60), (⟨"MarkDeskModel", "then", "(IIIII)V"⟩, 60), (⟨"MarkDeskModel", "goOn", "()I"⟩, 60), (⟨"MarkDeskModel", "call", "(II)I"⟩, 60), (⟨"MarkDeskModel", "letterCell", "()I"⟩, 60), (⟨"MarkDeskModel", "cell", "(I)I"⟩, 60), (⟨"MarkDeskModel", "goal", "(IIIII)V"⟩, 60), (⟨"MarkDeskModel", "solve", "()V"⟩, 60), (⟨"MarkDeskModel", "equal", "(II)V"⟩, 60), (⟨"MarkDeskModel", "end", "(I)I"⟩, 60), (⟨"MarkDeskModel", "contains", "(II)Z"⟩, 60)]
theorem lw_r3 : ∀ q ∈ lw_privs_3, lw_okq q := List.forall_mem_cons.mpr ⟨lw_p32, List.forall_mem_cons.mpr ⟨lw_p33, List.forall_mem_cons.mpr ⟨lw_p34, List.forall_mem_cons.mpr ⟨lw_p35, List.forall_mem_cons.mpr ⟨lw_p36, List.forall_mem_cons.mpr ⟨lw_p37, List.forall_mem_cons.mpr ⟨lw_p38, List.forall_mem_cons.mpr ⟨lw_p39, List.forall_mem_cons.mpr ⟨lw_p40, List.forall_mem_cons.mpr ⟨lw_p41, List.forall_mem_cons.mpr ⟨lw_p42, List.forall_mem_cons.mpr ⟨lw_p43, List.forall_mem_cons.mpr ⟨lw_p44, List.forall_mem_cons.mpr ⟨lw_p45, List.forall_mem_cons.mpr ⟨lw_p46, List.forall_mem_cons.mpr ⟨lw_p47, fun _ h => absurd h List.not_mem_nil⟩⟩⟩⟩⟩⟩⟩⟩⟩⟩⟩⟩⟩⟩⟩⟩
theorem lw_p48 : lw_okq (⟨"MarkDeskModel", "variable", "(III)V"⟩, 60) := ⟨⟨by decide +kernel, by decide +kernel⟩, List.mem_of_getElem? (i := 690) (by decide +kernel), List.mem_of_getElem? (i := 994) (by decide +kernel), List.mem_of_getElem? (i := 995) (by decide +kernel)⟩
theorem lw_p49 : lw_okq (⟨"MarkDeskModel", "functionCell", "(IIII)I"⟩, 60) := ⟨⟨by decide +kernel, by decide +kernel⟩, List.mem_of_getElem? (i := 690) (by decide +kernel), List.mem_of_getElem? (i := 998) (by decide +kernel), List.mem_of_getElem? (i := 999) (by decide +kernel)⟩
theorem lw_p50 : lw_okq (⟨"MarkDeskModel", "function", "(IIII)V"⟩, 60) := ⟨⟨by decide +kernel, by decide +kernel⟩, List.mem_of_getElem? (i := 690) (by decide +kernel), List.mem_of_getElem? (i := 1002) (by decide +kernel), List.mem_of_getElem? (i := 1003) (by decide +kernel)⟩
theorem lw_p51 : lw_okq (⟨"MarkDeskModel", "place", "(III)I"⟩, 60) := ⟨⟨by decide +kernel, by decide +kernel⟩, List.mem_of_getElem? (i := 690) (by decide +kernel), List.mem_of_getElem? (i := 1006) (by decide +kernel), List.mem_of_getElem? (i := 1007) (by decide +kernel)⟩
theorem lw_p52 : lw_okq (⟨"MarkDeskModel", "solveTwo", "(III)V"⟩, 60) := ⟨⟨by decide +kernel, by decide +kernel⟩, List.mem_of_getElem? (i := 690) (by decide +kernel), List.mem_of_getElem? (i := 1010) (by decide +kernel), List.mem_of_getElem? (i := 1011) (by decide +kernel)⟩
theorem lw_p53 : lw_okq (⟨"MarkDeskModel", "endless", "()Z"⟩, 60) := ⟨⟨by decide +kernel, by decide +kernel⟩, List.mem_of_getElem? (i := 690) (by decide +kernel), List.mem_of_getElem? (i := 1014) (by decide +kernel), List.mem_of_getElem? (i := 1015) (by decide +kernel)⟩
theorem lw_p54 : lw_okq (⟨"MarkDeskModel", "numberLetters", "(I)V"⟩, 60) := ⟨⟨by decide +kernel, by decide +kernel⟩, List.mem_of_getElem? (i := 690) (by decide +kernel), List.mem_of_getElem? (i := 1018) (by decide +kernel), List.mem_of_getElem? (i := 1019) (by decide +kernel)⟩
def lw_privs_4 : List (MethodName × Nat) := [(⟨"MarkDeskModel", "variable", "(III)V"⟩, 60), (⟨"MarkDeskModel", "functionCell", "(IIII)I"⟩, 60), (⟨"MarkDeskModel", "function", "(IIII)V"⟩, 60), (⟨"MarkDeskModel", "place", "(III)I"⟩, 60), (⟨"MarkDeskModel", "solveTwo", "(III)V"⟩, 60), (⟨"MarkDeskModel", "endless", "()Z"⟩, 60), (⟨"MarkDeskModel", "numberLetters", "(I)V"⟩, 60)]
theorem lw_r4 : ∀ q ∈ lw_privs_4, lw_okq q := List.forall_mem_cons.mpr ⟨lw_p48, List.forall_mem_cons.mpr ⟨lw_p49, List.forall_mem_cons.mpr ⟨lw_p50, List.forall_mem_cons.mpr ⟨lw_p51, List.forall_mem_cons.mpr ⟨lw_p52, List.forall_mem_cons.mpr ⟨lw_p53, List.forall_mem_cons.mpr ⟨lw_p54, fun _ h => absurd h List.not_mem_nil⟩⟩⟩⟩⟩⟩⟩
def lw_privs : List (MethodName × Nat) := lw_privs_1 ++ (lw_privs_2 ++ (lw_privs_3 ++ (lw_privs_4)))
def lw_tbl : List Cond := k2_sels lw_privs ++ tables_1
theorem lw_privs_ok : ∀ q ∈ lw_privs, lw_okq q := by
  show ∀ q ∈ lw_privs_1 ++ (lw_privs_2 ++ (lw_privs_3 ++ (lw_privs_4))), lw_okq q
  exact List.forall_mem_append.mpr ⟨lw_r1, List.forall_mem_append.mpr ⟨lw_r2, List.forall_mem_append.mpr ⟨lw_r3, lw_r4⟩⟩⟩
end
section
/-! ===== BEGIN words of one list among another's, by their places ===== -/
theorem goodIn_r {big : List Cond} (ws : List Cond) (ps : List Nat) (hp : ws = ps.filterMap (fun i => big[i]?)) (h : ws.all goodWord = true) : GoodIn big ws := by
  intro w hw
  have h1 := List.all_eq_true.mp h w hw
  rw [hp] at hw
  obtain ⟨i, -, hi⟩ := List.mem_filterMap.mp hw
  have hm : w ∈ big := by first | exact List.mem_of_getElem? hi | exact List.getElem?_mem hi
  exact ⟨hm, good_of_word h1⟩
theorem goodIn_app {big a b : List Cond} (ha : GoodIn big a) (hb : GoodIn big b) : GoodIn big (a ++ b) := fun w h => (List.mem_append.mp h).elim (ha w) (hb w)
theorem goodIn_ca {big a b : List Cond} {c : Cond} (ha : GoodIn big (c :: a)) (hb : GoodIn big b) : GoodIn big (c :: (a ++ b)) := fun w h => (List.mem_cons.mp h).elim (fun e => ha w (List.mem_cons.mpr (Or.inl e))) (fun h => (List.mem_append.mp h).elim (fun h => ha w (List.mem_cons.mpr (Or.inr h))) (hb w))
theorem goodIn_sub {big ws : List Cond} (hm : ∀ w ∈ ws, w ∈ big) (h : ws.all goodWord = true) : GoodIn big ws := fun w hw => ⟨hm w hw, good_of_word (List.all_eq_true.mp h w hw)⟩
/-! ===== END ===== -/

/-! ===== BEGIN exceptions that leave a method, and their catching by the caller (launches without stack traces) ===== -/
section VXA
/-! The laws vx_back, vx_callV, vx_callS, vx_callSW, vx_throw0, vx_throwS follow proofs of the library, with one case more: JvmDerived/Free/Laws.lean (Back.of_free), Shelf42/LK1.lean (callV, callS), Shelf/KitTraced.lean (throwNew0V, throwNewS). -/

/-- where a method has thrown q: the class by its name, the cell, what was written, the world -/
def vx_T (XC : String → State → State → Prop) (st : State) (q : Addr) (t : State) (mc ms : Nat) (free : Addr → Prop) : Prop :=
  ∃ (E : String) (ce : Cell) (L : List Loc), XC E st t ∧ t.heap[q]? = some ce ∧ ce.vm = .none ∧ st.vm.findClass E = some ce.cls ∧ st.WarmedH t.vm ∧ st.sameButNew ({ t with vm := st.vm } : State) L mc ms ∧ ∀ z ∈ L, free z.base
def vx_Q (Qc : Array Value → State → Outcome → State → Prop) (XC : String → State → State → Prop) (mc ms : Nat) (free : Addr → Prop) : Array Value → State → Outcome → State → Prop := fun a st o t =>
  (Qc a st o t ∧ ∃ L, FrameEnd st o t L mc ms ∧ ∀ q ∈ L, free q.base) ∨ ∃ q, o = .threw q ∧ vx_T XC st q t mc ms free
/-- a callee that returns or throws -/
def vx_Met (l : Launch) (y : MethodName) (ws : List Cond) (rm : Room) (Pc : Array Value → State → Prop) (Qc : Array Value → State → Outcome → State → Prop) (XC : String → State → State → Prop) (mc ms : Nat) (free : Addr → Prop) : Prop :=
  MetFree l y (headSpec ws rm) Pc (fun _ _ _ _ _ => True) (vx_Q Qc XC mc ms free)
def vx_Post (XC : String → State → State → Prop) (mc ms : Nat) (free : Addr → Prop) : Pt → Array Value → Addr → Pt → Prop := fun A a q B =>
  ∃ (g : JFrame) (mk : MethodId) (t : State) (L : List Loc) (E : String) (ce : Cell), B.U.heap = t.heap ∧ B.U.vm = t.vm ∧ XC E (A.U.calling g mk a) t ∧ t.heap[q]? = some ce ∧ ce.vm = .none ∧ A.U.vm.findClass E = some ce.cls ∧ B.locs = A.locs ++ L ∧ (∀ z ∈ L, free z.base) ∧ B.cells = A.cells + mc ∧ B.slots = A.slots + ms
def vx_Back (l : Launch) (R : Room) (p : Program) (e : Env) (below : List Frame) (s : State) (sargs : Array Value) (y : MethodName) (len W9 : Nat)
    (Pre : Pt → Array Value → Prop) (Post : Pt → Array Value → Option Value → Pt → Prop) (PostX : Pt → Array Value → Addr → Pt → Prop) : Prop :=
  ∀ (m : MethodId) (meth : Method) (c : Code) (A : Pt) (g : JFrame) (ig : Instr) (mk : MethodId) (a : Array Value),
    Stand p l e R s m sargs below meth c A.U A.locs A.cells A.slots → g.method = m → g.locals.size = c.maxLocals → decode c.code g.pc = .ok (ig, len) →
    2 * g.monitorRoom + (g.stack.map fun v => v.category).sum ≤ W9 → A.U.methodNamed? y = some mk → Pre A a →
    (∃ (v : Option Value) (B : Pt), Stand p l e R s m sargs below meth c B.U B.locs B.cells B.slots ∧ Post A a v B ∧
      Steps p.tables e below (doInvoke e (A.U.setTop g) [] mk a).1 (B.U.setTop { g with pc := g.pc + len, stack := v.toList ++ g.stack })) ∨
    (∃ (q : Addr) (B : Pt), Stand p l e R s m sargs below meth c B.U B.locs B.cells B.slots ∧ PostX A a q B ∧
      Steps p.tables e below (doInvoke e (A.U.setTop g) [] mk a).1 ((B.U.setTop g).pushFrame (.throwing q)))
section Payer
variable {l : Launch} {R : Room} {p : Program} {e : Env} {below : List Frame} {s : State} {sargs : Array Value} {y : MethodName} {len W9 : Nat}
theorem vx_back {ws : List Cond} {rm : Room} {Pc : Array Value → State → Prop} {Qc : Array Value → State → Outcome → State → Prop} {XC : String → State → State → Prop} {mc ms : Nat} {free : Addr → Prop} {bytes : ByteArray} {maxL : Nat} {ret : Option FieldType}
    (hM : vx_Met l y ws rm Pc Qc XC mc ms free) (hblind : FrameBlind Pc) (hrc : rm.cells = mc) (hrs : rm.slots = ms)
    (hframes : rm.frames + 1 ≤ R.frames) (hlocals : W9 + (maxL + 11) + rm.locals ≤ R.locals)
    (hws : ∀ w ∈ ws, ∀ a' U, s.WarmedH U.vm → w.before a' U = true) (hcode : Cond.code y bytes maxL ret ∈ ws) (hinit : ∀ a' U, s.WarmedH U.vm → (Cond.initialized y.cls).before a' U = true) :
    vx_Back l R p e below s sargs y len W9 (PreOf R mc ms Pc) (PostOf Qc mc ms free) (vx_Post XC mc ms free) := by
  intro m meth c A g ig mk a X hg hsize hdg hW hn hp
  have h1 : (headSpec ws rm).pre.before a A.U = true := atoms_intro fun w hw => hws w hw _ _ X.warmed
  have h2 : (Cond.code y bytes maxL ret).before a A.U = true := hws _ hcode _ _ X.warmed
  have h3 : (Cond.initialized y.cls).before a A.U = true := hinit _ _ X.warmed
  have h4 : A.cells + (headSpec ws rm).room.cells ≤ R.cells := by rw [show (headSpec ws rm).room.cells = mc from hrc]; exact hp.1
  have h5 : A.slots + (headSpec ws rm).room.slots ≤ R.slots := by rw [show (headSpec ws rm).room.slots = ms from hrs]; exact hp.2.1
  have hPc : Pc a (A.U.calling g mk a) := hblind _ _ _ _ hp.2.2
  obtain ⟨U, Ls, c0, s0⟩ := A
  dsimp only [Pt.U, Pt.locs, Pt.cells, Pt.slots] at h1 h2 h3 h4 h5 X hn hPc ⊢
  obtain ⟨methY, cY, hmY, hcY, -, hlY, -, -, -, -⟩ := Cond.code_spec hn h2
  obtain ⟨kY, hkY, -⟩ := className_of_methodNamed hn
  have hinitY : kY.init = .initialized := Cond.initialized_spec (findClass_of_methodNamed hn) hkY h3
  have h : At U g.method c below := by rw [hg]; exact X.here
  have hlocals9 : W9 + (maxL + 11) + (headSpec ws rm).room.locals ≤ R.locals := hlocals
  have happ : (headSpec ws rm).appliesLoose y e.platform (U.calling g mk a) = true :=
    Spec.appliesLoose_calling (g := g) h hdg hn hkY hinitY
      (X.room_calling (g := g) (R' := (headSpec ws rm).room) hsize hmY hcY hframes (by rw [hlY]; omega) h4 h5) h1
  obtain ⟨mid, hmid⟩ := h.above
  have hfr : (U.setTop g).frames = (.java g :: mid) ++ below := by rw [State.frames_setTop' g h.top, hmid]; rfl
  obtain ⟨o, s₂, hsteps, -, hend, hq⟩ := Steps.callFree hM p X.admits X.cas X.clock (acts := []) hfr happ hPc trivial
  have hq' : vx_Q Qc XC mc ms free a (U.calling g mk a) o s₂ := hq
  rw [State.frames_setTop' g h.top] at hend
  obtain ⟨g₀, hg0⟩ := Option.isSome_iff_exists.mp h.top
  obtain ⟨r, hr⟩ := State.topJava?_eq_some.mp hg0
  have hr' : (({ U with heap := s₂.heap, slotsUsed := s₂.slotsUsed } : State).setVm s₂.vm).frames = .java g₀ :: r := hr
  rcases hq' with ⟨hqc, L, hfe, hL⟩ | ⟨q, rfl, E, ce, L, hx, hce, hcv, hcl, hW₂, hsm, hL⟩
  · obtain ⟨⟨v, rfl⟩, hW₂, e2, q2, q3, q4, q5, q6⟩ := id hfe
    have e3 : s₂ = ({ (U.calling g mk a).setFrames s₂.frames with heap := s₂.heap, slotsUsed := s₂.slotsUsed } : State).setVm s₂.vm := by
      have : s₂ = ({ s₂ with vm := (U.calling g mk a).vm } : State).setVm s₂.vm := rfl
      rw [e2] at this
      exact this
    obtain ⟨c₂, i₂, len₂, hc₂, hd₂, hf₂⟩ := hend
    have hW' : U.WarmedH s₂.vm := hW₂
    have hcc : c₂ = c := by
      have h1 : s₂.code? g.method = U.code? g.method := by
        rw [State.code?_eq, State.code?_eq, hW'.alike.method?]
      exact Option.some.inj (hc₂.symm.trans (h1.trans h.code))
    subst hcc
    have hlen : len₂ = len := by rw [hdg] at hd₂; cases hd₂; rfl
    subst hlen
    have hs₂ : s₂ = (({ U with heap := s₂.heap, slotsUsed := s₂.slotsUsed } : State).setVm s₂.vm).setTop { g with pc := g.pc + len₂, stack := v.toList ++ g.stack } := by
      refine e3.trans ?_
      rw [hf₂, State.calling_eq h.top, State.setFrames_setFrames, State.setTop_of_frames _ hr', hr]
      rfl
    have hsame : U.sameButNew ({ U with heap := s₂.heap, slotsUsed := s₂.slotsUsed } : State) L mc ms := by
      refine ⟨?_, q2, q3, q4, q5, q6⟩
      obtain ⟨t, ht, -⟩ := State.frames_cons hr
      show ({ U with heap := s₂.heap, slotsUsed := s₂.slotsUsed } : State) = { U.setFrames U.frames with heap := s₂.heap, slotsUsed := s₂.slotsUsed }
      rw [State.setFrames_self ht]
    subst hg
    refine Or.inl ⟨v, ⟨(({ U with heap := s₂.heap, slotsUsed := s₂.slotsUsed } : State).setVm s₂.vm), Ls ++ L, c0 + mc, s0 + ms⟩,
      ⟨X.admits, X.cas, X.clock, X.frames, X.room, X.hears, X.method, X.code, (X.here.setHeapUsed s₂.heap s₂.slotsUsed).setVm hW'.alike, X.tail, State.WarmedH.trans X.warmed hW', X.limits, X.bytes, X.same.trans (hsame.setVm s.vm)⟩,
      ⟨g, mk, s₂, L, rfl, rfl, hqc, rfl, hL, rfl, rfl⟩, ?_⟩
    show Steps p.tables e below _ ((({ U with heap := s₂.heap, slotsUsed := s₂.slotsUsed } : State).setVm s₂.vm).setTop { g with pc := g.pc + len₂, stack := v.toList ++ g.stack })
    rw [← hs₂]
    exact hsteps
  · obtain ⟨e2, q2, q3, q4, q5, q6⟩ := id hsm
    have e3 : s₂ = ({ (U.calling g mk a).setFrames s₂.frames with heap := s₂.heap, slotsUsed := s₂.slotsUsed } : State).setVm s₂.vm := by
      have : s₂ = ({ s₂ with vm := (U.calling g mk a).vm } : State).setVm s₂.vm := rfl
      rw [e2] at this
      exact this
    have hf₂ : s₂.frames = .throwing q :: .java g :: U.frames.tail := hend
    have hW' : U.WarmedH s₂.vm := hW₂
    have hs₂ : s₂ = ((({ U with heap := s₂.heap, slotsUsed := s₂.slotsUsed } : State).setVm s₂.vm).setTop g).pushFrame (.throwing q) := by
      refine e3.trans ?_
      rw [hf₂, State.calling_eq h.top, State.setFrames_setFrames, State.pushFrame, State.frames_setTop _ hr', State.setTop_of_frames _ hr', State.setFrames_setFrames, hr]
      rfl
    have hsame : U.sameButNew ({ U with heap := s₂.heap, slotsUsed := s₂.slotsUsed } : State) L mc ms := by
      refine ⟨?_, q2, q3, q4, q5, q6⟩
      obtain ⟨t, ht, -⟩ := State.frames_cons hr
      show ({ U with heap := s₂.heap, slotsUsed := s₂.slotsUsed } : State) = { U.setFrames U.frames with heap := s₂.heap, slotsUsed := s₂.slotsUsed }
      rw [State.setFrames_self ht]
    subst hg
    refine Or.inr ⟨q, ⟨(({ U with heap := s₂.heap, slotsUsed := s₂.slotsUsed } : State).setVm s₂.vm), Ls ++ L, c0 + mc, s0 + ms⟩,
      ⟨X.admits, X.cas, X.clock, X.frames, X.room, X.hears, X.method, X.code, (X.here.setHeapUsed s₂.heap s₂.slotsUsed).setVm hW'.alike, X.tail, State.WarmedH.trans X.warmed hW', X.limits, X.bytes, X.same.trans (hsame.setVm s.vm)⟩,
      ⟨g, mk, s₂, L, E, ce, rfl, rfl, hx, hce, hcv, hcl, rfl, hL, rfl, rfl⟩, ?_⟩
    show Steps p.tables e below _ (((({ U with heap := s₂.heap, slotsUsed := s₂.slotsUsed } : State).setVm s₂.vm).setTop g).pushFrame (.throwing q))
    rw [← hs₂]
    exact hsteps
end Payer
section Calls
variable {p : Program} {l : Launch} {e : Env} {R : Room} {s : State} {m : MethodId} {args : Array Value} {below : List Frame} {meth : Method} {c : Code} {T : State} {locs : List Loc} {cells slots : Nat}
theorem vx_callV (X : Stand p l e R s m args below meth c T locs cells slots) (hexec : p.tables.exec = Jvm.exec) {own C : String} {index : Nat} {y : MethodName} {bytes : ByteArray} {maxL : Nat} {ret : Option FieldType}
    (hown : s.vm.findClass own = some m.cls) (hlink : (Cond.methodLink own index y).before args s = true) (hinst : (Cond.instanceMethod y).before args s = true) (hsel : (Cond.selects C y y).before args s = true)
    (hcode : (Cond.code y bytes maxL ret).before args s = true) (hy : y.cls ≠ "java/lang/invoke/MethodHandle" ∧ y.cls ≠ "java/lang/invoke/VarHandle")
    {W9 : Nat} {Pre : Pt → Array Value → Prop} {Post : Pt → Array Value → Option Value → Pt → Prop} {PostX : Pt → Array Value → Addr → Pt → Prop} (hK : vx_Back l R p e below s args y 3 W9 Pre Post PostX)
    {b : Addr} {cellB : Cell} (hcell : T.heap[b]? = some cellB) (hobj : cellB.vm.isStatics = false) (hcls : s.vm.findClass C = some cellB.cls)
    {g : JFrame} (hg : g.method = m) (hsize : g.locals.size = c.maxLocals) {argsL rest : List Value} (hlen : ∀ sig, parseMethodDescriptor y.desc = some sig → argsL.length = sig.parameters.length)
    (hstack : g.stack = argsL.reverse ++ .ref b :: rest) (hW : 2 * g.monitorRoom + (rest.map fun v => v.category).sum ≤ W9) (hdg : decode c.code g.pc = .ok (.invokevirtual index, 3))
    (hpre : ∀ vm₁, s.WarmedH vm₁ → Pre ⟨T.setVm vm₁, locs, cells, slots⟩ (Value.ref b :: argsL).toArray) :
    (∃ (v : Option Value) (vm₁ : Vm) (B : Pt), s.WarmedH vm₁ ∧ Stand p l e R s m args below meth c B.U B.locs B.cells B.slots ∧ Post ⟨T.setVm vm₁, locs, cells, slots⟩ (Value.ref b :: argsL).toArray v B ∧
      ∀ target, Steps p.tables e below (B.U.setTop { g with pc := g.pc + 3, stack := v.toList ++ rest }) target → Steps p.tables e below (T.setTop g) target) ∨
    (∃ (q : Addr) (vm₁ : Vm) (B : Pt), s.WarmedH vm₁ ∧ Stand p l e R s m args below meth c B.U B.locs B.cells B.slots ∧ PostX ⟨T.setVm vm₁, locs, cells, slots⟩ (Value.ref b :: argsL).toArray q B ∧
      Steps p.tables e below (T.setTop g) ((B.U.setTop { g with stack := rest }).pushFrame (.throwing q))) := by
  obtain ⟨mk, methM, hnamed, hmethM, hstM, habM⟩ := Cond.instanceMethod_spec hinst
  obtain ⟨methM', cM, hmethM', -, -, -, -, -, -, hsigM⟩ := Cond.code_spec hnamed hcode
  cases hmethM.symm.trans hmethM'
  obtain ⟨c2, r2, m2, q1, q2, q3, q4, kP, hkP, hkPi⟩ := Cond.selects_spec hsel
  cases hcls.symm.trans q1
  cases (State.methodFound?_of_named hnamed hy).symm.trans q2
  cases hnamed.symm.trans q3
  have hselP : selectMethod e.platform s.vm cellB.cls mk = .method mk := by rw [Launch.admits_selectMethod X.admits]; exact q4
  obtain ⟨vm₁, X₁, hstep₁⟩ := X.invokevirtual hexec hown hlink hnamed hmethM hstM hkP hkPi hy (a := b) (cell := cellB) hcell
    (fun z h => by rw [h] at hobj; cases hobj) hselP hmethM habM hkP hkPi (g := g) hg (argsL := argsL) (rest := rest) (hlen _ hsigM) hstack hdg
  rcases hK m meth c ⟨T.setVm vm₁, locs, cells, slots⟩ { g with stack := rest } (.invokevirtual index) mk (Value.ref b :: argsL).toArray X₁ hg hsize hdg hW (X₁.named hnamed) (hpre vm₁ X₁.warmed) with ⟨v, B, X', hpost, hsteps⟩ | ⟨q, B, X', hpost, hsteps⟩
  · exact Or.inl ⟨v, vm₁, B, X₁.warmed, X', hpost, fun target h => hstep₁ _ fun acts => by rw [doInvoke_state]; exact hsteps.trans h⟩
  · exact Or.inr ⟨q, vm₁, B, X₁.warmed, X', hpost, hstep₁ _ fun acts => by rw [doInvoke_state]; exact hsteps⟩
theorem vx_callS (X : Stand p l e R s m args below meth c T locs cells slots) (hexec : p.tables.exec = Jvm.exec) {own : String} {index : Nat} {y : MethodName} {bytes : ByteArray} {maxL : Nat} {ret : Option FieldType}
    (hown : s.vm.findClass own = some m.cls) (hlink : (Cond.methodLink own index y).before args s = true) (hstat : (Cond.static y).before args s = true) (hinit : (Cond.initialized y.cls).before args s = true)
    (hcode : (Cond.code y bytes maxL ret).before args s = true) (hy : y.cls ≠ "java/lang/invoke/MethodHandle" ∧ y.cls ≠ "java/lang/invoke/VarHandle")
    {W9 : Nat} {Pre : Pt → Array Value → Prop} {Post : Pt → Array Value → Option Value → Pt → Prop} {PostX : Pt → Array Value → Addr → Pt → Prop} (hK : vx_Back l R p e below s args y 3 W9 Pre Post PostX)
    {g : JFrame} (hg : g.method = m) (hsize : g.locals.size = c.maxLocals) {argsL rest : List Value} (hlen : ∀ sig, parseMethodDescriptor y.desc = some sig → argsL.length = sig.parameters.length)
    (hstack : g.stack = argsL.reverse ++ rest) (hW : 2 * g.monitorRoom + (rest.map fun v => v.category).sum ≤ W9) (hdg : decode c.code g.pc = .ok (.invokestatic index, 3))
    (hpre : ∀ vm₁, s.WarmedH vm₁ → Pre ⟨T.setVm vm₁, locs, cells, slots⟩ argsL.toArray) :
    (∃ (v : Option Value) (vm₁ : Vm) (B : Pt), s.WarmedH vm₁ ∧ Stand p l e R s m args below meth c B.U B.locs B.cells B.slots ∧ Post ⟨T.setVm vm₁, locs, cells, slots⟩ argsL.toArray v B ∧
      ∀ target, Steps p.tables e below (B.U.setTop { g with pc := g.pc + 3, stack := v.toList ++ rest }) target → Steps p.tables e below (T.setTop g) target) ∨
    (∃ (q : Addr) (vm₁ : Vm) (B : Pt), s.WarmedH vm₁ ∧ Stand p l e R s m args below meth c B.U B.locs B.cells B.slots ∧ PostX ⟨T.setVm vm₁, locs, cells, slots⟩ argsL.toArray q B ∧
      Steps p.tables e below (T.setTop g) ((B.U.setTop { g with stack := rest }).pushFrame (.throwing q))) := by
  obtain ⟨mk, hnamed⟩ := Cond.code_named hcode
  obtain ⟨methM, cM, hmethM, -, -, -, -, -, -, hsigM⟩ := Cond.code_spec hnamed hcode
  have hstatic : methM.isStatic = true := Cond.static_spec hnamed hmethM hstat
  obtain ⟨kP, hkP, -⟩ := className_of_methodNamed hnamed
  have hinitP : kP.init = .initialized := Cond.initialized_spec (findClass_of_methodNamed hnamed) hkP hinit
  obtain ⟨vm₁, X₁, hstep₁⟩ := X.invokestatic hexec hown hlink hnamed hmethM hstatic hkP hinitP hy (g := g) hg (argsL := argsL) (rest := rest) (hlen _ hsigM) hstack hdg
  rcases hK m meth c ⟨T.setVm vm₁, locs, cells, slots⟩ { g with stack := rest } (.invokestatic index) mk argsL.toArray X₁ hg hsize hdg hW (X₁.named hnamed) (hpre vm₁ X₁.warmed) with ⟨v, B, X', hpost, hsteps⟩ | ⟨q, B, X', hpost, hsteps⟩
  · exact Or.inl ⟨v, vm₁, B, X₁.warmed, X', hpost, fun target h => hstep₁ _ fun acts => by rw [doInvoke_state]; exact hsteps.trans h⟩
  · exact Or.inr ⟨q, vm₁, B, X₁.warmed, X', hpost, hstep₁ _ fun acts => by rw [doInvoke_state]; exact hsteps⟩
end Calls
theorem vx_cls {s : State} {T : State} {vm₁ : Vm} {E : String} {k : ClassId} (hW : s.WarmedH vm₁) (h : (T.setVm vm₁).vm.findClass E = some k) : s.vm.findClass E = some k := by
  have h1 : vm₁.findClass E = some k := h
  rw [hW.alike.findClass] at h1
  exact h1
/-- the method's frame g, with q thrown over it -/
def vx_W (p : Program) (l : Launch) (e : Env) (R : Room) (s : State) (m : MethodId) (args : Array Value) (below : List Frame) (meth : Method) (c : Code) (H : Heap) (locs : List Loc) (cells slots : Nat) (Q : State → Prop) (g : JFrame) (q : Addr) : Prop :=
  ∀ T : State, T.heap = H → Stand p l e R s m args below meth c T locs cells slots → ∃ t, Steps p.tables e below ((T.setTop g).pushFrame (.throwing q)) t ∧ Q t
def vx_Run (p : Program) (l : Launch) (e : Env) (R : Room) (s : State) (m : MethodId) (args : Array Value) (below : List Frame) (meth : Method) (c : Code) (H : Heap) (locs : List Loc) (cells slots mc ms : Nat) (g : JFrame) (rest : List Value) (Qa : State → Outcome → State → Prop) (XC : String → State → State → Prop) (free : Addr → Prop) : Prop :=
  ∀ T : State, T.heap = H → Stand p l e R s m args below meth c T locs cells slots →
    (∃ (v : Option Value) (st₀ t T' : State) (L : List Loc), st₀.heap = H ∧ Stand p l e R s m args below meth c T' (locs ++ L) (cells + mc) (slots + ms) ∧ (∀ q ∈ L, free q.base) ∧ T'.heap = t.heap ∧ T'.vm = t.vm ∧ Qa st₀ (.returned v) t ∧
      Goes p e below T g T' { g with pc := g.pc + 3, stack := v.toList ++ rest }) ∨
    (∃ (q : Addr) (st₀ t T' : State) (L : List Loc) (E : String) (ce : Cell), st₀.heap = H ∧ Stand p l e R s m args below meth c T' (locs ++ L) (cells + mc) (slots + ms) ∧ (∀ z ∈ L, free z.base) ∧ T'.heap = t.heap ∧ T'.vm = t.vm ∧ XC E st₀ t ∧ t.heap[q]? = some ce ∧ ce.vm = .none ∧ s.vm.findClass E = some ce.cls ∧
      Steps p.tables e below (T.setTop g) ((T'.setTop { g with stack := rest }).pushFrame (.throwing q)))
def vx_X {S : Type} (px : S → Prop) (B : String → S → State → Prop) (A : Nat → Prop) : String → State → State → Prop := fun E st t => ∃ u : S, px u ∧ B E u t ∧ va_F A st t
section Runs
variable {p : Program} {l : Launch} {e : Env} {R : Room} {s : State} {m : MethodId} {args : Array Value} {below : List Frame} {meth : Method} {c : Code} {H : Heap} {locs : List Loc} {cells slots : Nat}
variable {y : MethodName} {bytes cc : ByteArray} {maxL nL mc ms n index : Nat} {ret : Option FieldType} {ws : List Cond} {rm : Room} {Pc : Array Value → State → Prop} {Qc : Array Value → State → Outcome → State → Prop} {XC : String → State → State → Prop} {free : Addr → Prop} {Ts : List Cond} {own C : String} {b : Addr} {As rest : List Value} {g : JFrame}
theorem vx_callBack (cb : CallB R s args own index y bytes maxL ret ws rm mc ms n) (hM : vx_Met l y ws rm Pc Qc XC mc ms free) (hbl : FrameBlind Pc) : vx_Back l R p e below s args y 3 8 (PreOf R mc ms Pc) (PostOf Qc mc ms free) (vx_Post XC mc ms free) := by
  obtain ⟨hrc, hrs, hfr, hlo, hws, hcw, -, hini, -⟩ := cb
  exact vx_back (bytes := bytes) (maxL := maxL) (ret := ret) hM hbl hrc hrs hfr hlo hws hcw (fun a' U hW => word_at hW (Or.inl (by first | rfl | simp [Cond.onTables, Cond.keeps, Cond.steady])) hini)
theorem vx_runV (S : CallFix p m c cc nL s args Ts own) (hM : vx_Met l y ws rm Pc Qc XC mc ms free) (cw : CallW R s args own C index y bytes maxL ret ws rm mc ms n) (hp : PreV s H C b Pc As)
    (hg : g.method = m) (hn : As.length = n) (hsize : g.locals.size = nL) (hstack : g.stack = As.reverse ++ .ref b :: rest) (hW : 2 * g.monitorRoom + (rest.map fun v => v.category).sum ≤ 8) (hdg : decode cc g.pc = .ok (.invokevirtual index, 3)) (hf : cells + mc ≤ R.cells ∧ slots + ms ≤ R.slots) :
    vx_Run p l e R s m args below meth c H locs cells slots mc ms g rest (Qc (Value.ref b :: As).toArray) XC free := by
  have hK : vx_Back l R p e below s args y 3 8 (PreOf R mc ms Pc) (PostOf Qc mc ms free) (vx_Post XC mc ms free) := vx_callBack cw.1 hM hp.1
  obtain ⟨⟨-, -, -, -, -, -, hcode, -, hy, hlen, hl⟩, hin, hse⟩ := cw
  obtain ⟨hx, hb, hml, ho, -⟩ := S
  obtain ⟨-, ⟨cellB, hcB, hoB, hclB⟩, hPc⟩ := hp
  intro T hT X
  rcases vx_callV X hx (C := C) (bytes := bytes) (maxL := maxL) (ret := ret) ho hl hin hse hcode hy hK (by rw [hT]; exact hcB) hoB hclB hg (hsize.trans hml.symm) (argsL := As) (rest := rest) (fun sig h => hn.trans (hlen sig h)) hstack hW (by rw [hb]; exact hdg)
    (fun vm₁ hW₁ => ⟨hf.1, hf.2, hPc (T.setVm vm₁) hT hW₁⟩) with ⟨v, vm₁, ⟨U', l2, c2, s2⟩, hW₁, X', ⟨g', mk, t, L, e1, e2, hq, h1, hL, h2, h3⟩, st⟩ | ⟨q, vm₁, ⟨U', l2, c2, s2⟩, hW₁, X', ⟨g', mk, t, L, E, ce, e1, e2, hq, hce, hcv, hcl, h1, hL, h2, h3⟩, st⟩
  · dsimp only [Pt.U, Pt.locs, Pt.cells, Pt.slots] at X' e1 e2 h1 h2 h3 st
    subst h1; subst h2; subst h3
    exact Or.inl ⟨v, (T.setVm vm₁).calling g' mk (Value.ref b :: As).toArray, t, U', L, hT, X', hL, e1, e2, hq, st⟩
  · dsimp only [Pt.U, Pt.locs, Pt.cells, Pt.slots] at X' e1 e2 h1 h2 h3 st hcl
    subst h1; subst h2; subst h3
    exact Or.inr ⟨q, (T.setVm vm₁).calling g' mk (Value.ref b :: As).toArray, t, U', L, E, ce, hT, X', hL, e1, e2, hq, hce, hcv, vx_cls hW₁ hcl, st⟩
theorem vx_runS (S : CallFix p m c cc nL s args Ts own) (hM : vx_Met l y ws rm Pc Qc XC mc ms free) (cw : CallB R s args own index y bytes maxL ret ws rm mc ms n ∧ (Cond.static y).before args s = true) (hp : PreS s H Pc As)
    (hg : g.method = m) (hn : As.length = n) (hsize : g.locals.size = nL) (hstack : g.stack = As.reverse ++ rest) (hW : 2 * g.monitorRoom + (rest.map fun v => v.category).sum ≤ 8) (hdg : decode cc g.pc = .ok (.invokestatic index, 3)) (hf : cells + mc ≤ R.cells ∧ slots + ms ≤ R.slots) :
    vx_Run p l e R s m args below meth c H locs cells slots mc ms g rest (Qc As.toArray) XC free := by
  have hK : vx_Back l R p e below s args y 3 8 (PreOf R mc ms Pc) (PostOf Qc mc ms free) (vx_Post XC mc ms free) := vx_callBack cw.1 hM hp.1
  obtain ⟨⟨-, -, -, -, -, -, hcode, hini, hy, hlen, hl⟩, hstt⟩ := cw
  obtain ⟨hx, hb, hml, ho, -⟩ := S
  intro T hT X
  rcases vx_callS X hx (bytes := bytes) (maxL := maxL) (ret := ret) ho hl hstt hini hcode hy hK hg (hsize.trans hml.symm) (argsL := As) (rest := rest) (fun sig h => hn.trans (hlen sig h)) hstack hW (by rw [hb]; exact hdg)
    (fun vm₁ hW₁ => ⟨hf.1, hf.2, hp.2 (T.setVm vm₁) hT hW₁⟩) with ⟨v, vm₁, ⟨U', l2, c2, s2⟩, hW₁, X', ⟨g', mk, t, L, e1, e2, hq, h1, hL, h2, h3⟩, st⟩ | ⟨q, vm₁, ⟨U', l2, c2, s2⟩, hW₁, X', ⟨g', mk, t, L, E, ce, e1, e2, hq, hce, hcv, hcl, h1, hL, h2, h3⟩, st⟩
  · dsimp only [Pt.U, Pt.locs, Pt.cells, Pt.slots] at X' e1 e2 h1 h2 h3 st
    subst h1; subst h2; subst h3
    exact Or.inl ⟨v, (T.setVm vm₁).calling g' mk As.toArray, t, U', L, hT, X', hL, e1, e2, hq, st⟩
  · dsimp only [Pt.U, Pt.locs, Pt.cells, Pt.slots] at X' e1 e2 h1 h2 h3 st hcl
    subst h1; subst h2; subst h3
    exact Or.inr ⟨q, (T.setVm vm₁).calling g' mk As.toArray, t, U', L, E, ce, hT, X', hL, e1, e2, hq, hce, hcv, vx_cls hW₁ hcl, st⟩
end Runs
section Rows
variable {p : Program} {l : Launch} {e : Env} {R : Room} {s : State} {m : MethodId} {args : Array Value} {below : List Frame} {meth : Method} {c : Code} {H : Heap} {locs : List Loc} {cells slots : Nat} {Q : State → Prop}
variable {mc ms : Nat} {free : Addr → Prop} {A0 A1 : Nat → Prop} {H0 : Heap} {a : Array Value} {pc : Nat} {ls : Array Slot} {st0 rest : List Value}
theorem vx_keep {st₀ t T' : State} {L : List Loc} (h0 : st₀.heap = H) (e1 : T'.heap = t.heap) (hS : va_S A0 H0 H locs) (hA : ∀ q, q < H.size → A1 q → A0 q) (hf : ∀ q, free q → A0 q) (hL : ∀ q ∈ L, free q.base) (hF : va_F A1 st₀ t) :
    H.size ≤ T'.heap.size ∧ (∀ q : Nat, q < H.size → ¬ A1 q → T'.heap[q]? = H[q]?) ∧ va_S A0 H0 T'.heap (locs ++ L) := by
  obtain ⟨hz, hk⟩ := hF
  rw [h0] at hz hk
  exact ⟨by rw [e1]; exact hz, fun q h1 h2 => by rw [e1]; exact hk q h1 h2,
    ⟨Nat.le_trans hS.1 (by rw [e1]; exact hz), fun q h1 h2 => by rw [e1, hk q (Nat.lt_of_lt_of_le h1 hS.1) (fun z => h2 (hA q (Nat.lt_of_lt_of_le h1 hS.1) z))]; exact hS.2.1 q h1 h2, fun q hq => by
      rcases List.mem_append.mp hq with h | h
      · exact hS.2.2 q h
      · exact hf _ (hL q h)⟩⟩
theorem vx_calli {S SX : Type} {post : Int32 → S → Prop} {px : SX → Prop} {B : S → State → Prop} {BX : String → SX → State → Prop} {AX : Nat → Prop} (hr : vx_Run p l e R s m args below meth c H locs cells slots mc ms (F0 m pc ls st0) rest (va_Qi post B A1 a) (vx_X px BX AX) free) (hS : va_S A0 H0 H locs) (hA : ∀ q, q < H.size → A1 q → A0 q) (hf : ∀ q, free q → A0 q) (hAX : ∀ q, q < H.size → AX q → A0 q)
    (kx : ∀ (E : String) (ce : Cell) (q9 : Addr) (u : SX) (t : State) (H1 : Heap) (locs1 : List Loc), t.heap = H1 → s.vm.Alike t.vm → px u → BX E u t → H.size ≤ H1.size → (∀ q : Nat, q < H.size → ¬ AX q → H1[q]? = H[q]?) → va_S A0 H0 H1 locs1 → H1[q9]? = some ce → ce.vm = .none → s.vm.findClass E = some ce.cls → vx_W p l e R s m args below meth c H1 locs1 (cells + mc) (slots + ms) Q (F0 m pc ls rest) q9)
    (kk : ∀ (r : Int32) (u : S) (t : State) (H1 : Heap) (locs1 : List Loc), t.heap = H1 → s.vm.Alike t.vm → post r u → B u t → H.size ≤ H1.size → (∀ q : Nat, q < H.size → ¬ A1 q → H1[q]? = H[q]?) → va_S A0 H0 H1 locs1 → W p l e R s m args below meth c H1 locs1 (cells + mc) (slots + ms) Q (F0 m (pc + 3) ls (.int r :: rest))) : W p l e R s m args below meth c H locs cells slots Q (F0 m pc ls st0) := by
  intro T hT X
  rcases hr T hT X with ⟨v, st₀, t, T', L, h0, X', hL, e1, e2, ⟨⟨r, u, hv, hp, hb⟩, hF⟩, st⟩ | ⟨q, st₀, t, T', L, E, ce, h0, X', hL, e1, e2, ⟨u, hp, hb, hF⟩, hce, hcv, hcl, st⟩
  · cases hv
    obtain ⟨k1, k2, k3⟩ := vx_keep h0 e1 hS hA hf hL hF
    obtain ⟨t2, a1, b1⟩ := kk r u t T'.heap (locs ++ L) e1.symm (by rw [← e2]; exact X'.warmed.alike) hp hb k1 k2 k3 T' rfl X'
    exact ⟨t2, st t2 a1, b1⟩
  · obtain ⟨k1, k2, k3⟩ := vx_keep h0 e1 hS hAX hf hL hF
    obtain ⟨t2, a1, b1⟩ := kx E ce q u t T'.heap (locs ++ L) e1.symm (by rw [← e2]; exact X'.warmed.alike) hp hb k1 k2 k3 (by rw [e1]; exact hce) hcv hcl T' rfl X'
    exact ⟨t2, st.trans a1, b1⟩
theorem vx_calll {S SX : Type} {post : Int64 → S → Prop} {px : SX → Prop} {B : S → State → Prop} {BX : String → SX → State → Prop} {AX : Nat → Prop} (hr : vx_Run p l e R s m args below meth c H locs cells slots mc ms (F0 m pc ls st0) rest (va_Ql post B A1 a) (vx_X px BX AX) free) (hS : va_S A0 H0 H locs) (hA : ∀ q, q < H.size → A1 q → A0 q) (hf : ∀ q, free q → A0 q) (hAX : ∀ q, q < H.size → AX q → A0 q)
    (kx : ∀ (E : String) (ce : Cell) (q9 : Addr) (u : SX) (t : State) (H1 : Heap) (locs1 : List Loc), t.heap = H1 → s.vm.Alike t.vm → px u → BX E u t → H.size ≤ H1.size → (∀ q : Nat, q < H.size → ¬ AX q → H1[q]? = H[q]?) → va_S A0 H0 H1 locs1 → H1[q9]? = some ce → ce.vm = .none → s.vm.findClass E = some ce.cls → vx_W p l e R s m args below meth c H1 locs1 (cells + mc) (slots + ms) Q (F0 m pc ls rest) q9)
    (kk : ∀ (r : Int64) (u : S) (t : State) (H1 : Heap) (locs1 : List Loc), t.heap = H1 → s.vm.Alike t.vm → post r u → B u t → H.size ≤ H1.size → (∀ q : Nat, q < H.size → ¬ A1 q → H1[q]? = H[q]?) → va_S A0 H0 H1 locs1 → W p l e R s m args below meth c H1 locs1 (cells + mc) (slots + ms) Q (F0 m (pc + 3) ls (.long r :: rest))) : W p l e R s m args below meth c H locs cells slots Q (F0 m pc ls st0) := by
  intro T hT X
  rcases hr T hT X with ⟨v, st₀, t, T', L, h0, X', hL, e1, e2, ⟨⟨r, u, hv, hp, hb⟩, hF⟩, st⟩ | ⟨q, st₀, t, T', L, E, ce, h0, X', hL, e1, e2, ⟨u, hp, hb, hF⟩, hce, hcv, hcl, st⟩
  · cases hv
    obtain ⟨k1, k2, k3⟩ := vx_keep h0 e1 hS hA hf hL hF
    obtain ⟨t2, a1, b1⟩ := kk r u t T'.heap (locs ++ L) e1.symm (by rw [← e2]; exact X'.warmed.alike) hp hb k1 k2 k3 T' rfl X'
    exact ⟨t2, st t2 a1, b1⟩
  · obtain ⟨k1, k2, k3⟩ := vx_keep h0 e1 hS hAX hf hL hF
    obtain ⟨t2, a1, b1⟩ := kx E ce q u t T'.heap (locs ++ L) e1.symm (by rw [← e2]; exact X'.warmed.alike) hp hb k1 k2 k3 (by rw [e1]; exact hce) hcv hcl T' rfl X'
    exact ⟨t2, st.trans a1, b1⟩
theorem vx_callf {S SX : Type} {post : UInt32 → S → Prop} {px : SX → Prop} {B : S → State → Prop} {BX : String → SX → State → Prop} {AX : Nat → Prop} (hr : vx_Run p l e R s m args below meth c H locs cells slots mc ms (F0 m pc ls st0) rest (va_Qf post B A1 a) (vx_X px BX AX) free) (hS : va_S A0 H0 H locs) (hA : ∀ q, q < H.size → A1 q → A0 q) (hf : ∀ q, free q → A0 q) (hAX : ∀ q, q < H.size → AX q → A0 q)
    (kx : ∀ (E : String) (ce : Cell) (q9 : Addr) (u : SX) (t : State) (H1 : Heap) (locs1 : List Loc), t.heap = H1 → s.vm.Alike t.vm → px u → BX E u t → H.size ≤ H1.size → (∀ q : Nat, q < H.size → ¬ AX q → H1[q]? = H[q]?) → va_S A0 H0 H1 locs1 → H1[q9]? = some ce → ce.vm = .none → s.vm.findClass E = some ce.cls → vx_W p l e R s m args below meth c H1 locs1 (cells + mc) (slots + ms) Q (F0 m pc ls rest) q9)
    (kk : ∀ (r : UInt32) (u : S) (t : State) (H1 : Heap) (locs1 : List Loc), t.heap = H1 → s.vm.Alike t.vm → post r u → B u t → H.size ≤ H1.size → (∀ q : Nat, q < H.size → ¬ A1 q → H1[q]? = H[q]?) → va_S A0 H0 H1 locs1 → W p l e R s m args below meth c H1 locs1 (cells + mc) (slots + ms) Q (F0 m (pc + 3) ls (.float r :: rest))) : W p l e R s m args below meth c H locs cells slots Q (F0 m pc ls st0) := by
  intro T hT X
  rcases hr T hT X with ⟨v, st₀, t, T', L, h0, X', hL, e1, e2, ⟨⟨r, u, hv, hp, hb⟩, hF⟩, st⟩ | ⟨q, st₀, t, T', L, E, ce, h0, X', hL, e1, e2, ⟨u, hp, hb, hF⟩, hce, hcv, hcl, st⟩
  · cases hv
    obtain ⟨k1, k2, k3⟩ := vx_keep h0 e1 hS hA hf hL hF
    obtain ⟨t2, a1, b1⟩ := kk r u t T'.heap (locs ++ L) e1.symm (by rw [← e2]; exact X'.warmed.alike) hp hb k1 k2 k3 T' rfl X'
    exact ⟨t2, st t2 a1, b1⟩
  · obtain ⟨k1, k2, k3⟩ := vx_keep h0 e1 hS hAX hf hL hF
    obtain ⟨t2, a1, b1⟩ := kx E ce q u t T'.heap (locs ++ L) e1.symm (by rw [← e2]; exact X'.warmed.alike) hp hb k1 k2 k3 (by rw [e1]; exact hce) hcv hcl T' rfl X'
    exact ⟨t2, st.trans a1, b1⟩
theorem vx_calld {S SX : Type} {post : UInt64 → S → Prop} {px : SX → Prop} {B : S → State → Prop} {BX : String → SX → State → Prop} {AX : Nat → Prop} (hr : vx_Run p l e R s m args below meth c H locs cells slots mc ms (F0 m pc ls st0) rest (va_Qd post B A1 a) (vx_X px BX AX) free) (hS : va_S A0 H0 H locs) (hA : ∀ q, q < H.size → A1 q → A0 q) (hf : ∀ q, free q → A0 q) (hAX : ∀ q, q < H.size → AX q → A0 q)
    (kx : ∀ (E : String) (ce : Cell) (q9 : Addr) (u : SX) (t : State) (H1 : Heap) (locs1 : List Loc), t.heap = H1 → s.vm.Alike t.vm → px u → BX E u t → H.size ≤ H1.size → (∀ q : Nat, q < H.size → ¬ AX q → H1[q]? = H[q]?) → va_S A0 H0 H1 locs1 → H1[q9]? = some ce → ce.vm = .none → s.vm.findClass E = some ce.cls → vx_W p l e R s m args below meth c H1 locs1 (cells + mc) (slots + ms) Q (F0 m pc ls rest) q9)
    (kk : ∀ (r : UInt64) (u : S) (t : State) (H1 : Heap) (locs1 : List Loc), t.heap = H1 → s.vm.Alike t.vm → post r u → B u t → H.size ≤ H1.size → (∀ q : Nat, q < H.size → ¬ A1 q → H1[q]? = H[q]?) → va_S A0 H0 H1 locs1 → W p l e R s m args below meth c H1 locs1 (cells + mc) (slots + ms) Q (F0 m (pc + 3) ls (.double r :: rest))) : W p l e R s m args below meth c H locs cells slots Q (F0 m pc ls st0) := by
  intro T hT X
  rcases hr T hT X with ⟨v, st₀, t, T', L, h0, X', hL, e1, e2, ⟨⟨r, u, hv, hp, hb⟩, hF⟩, st⟩ | ⟨q, st₀, t, T', L, E, ce, h0, X', hL, e1, e2, ⟨u, hp, hb, hF⟩, hce, hcv, hcl, st⟩
  · cases hv
    obtain ⟨k1, k2, k3⟩ := vx_keep h0 e1 hS hA hf hL hF
    obtain ⟨t2, a1, b1⟩ := kk r u t T'.heap (locs ++ L) e1.symm (by rw [← e2]; exact X'.warmed.alike) hp hb k1 k2 k3 T' rfl X'
    exact ⟨t2, st t2 a1, b1⟩
  · obtain ⟨k1, k2, k3⟩ := vx_keep h0 e1 hS hAX hf hL hF
    obtain ⟨t2, a1, b1⟩ := kx E ce q u t T'.heap (locs ++ L) e1.symm (by rw [← e2]; exact X'.warmed.alike) hp hb k1 k2 k3 (by rw [e1]; exact hce) hcv hcl T' rfl X'
    exact ⟨t2, st.trans a1, b1⟩
theorem vx_callv {S SX : Type} {post : S → Prop} {px : SX → Prop} {B : S → State → Prop} {BX : String → SX → State → Prop} {AX : Nat → Prop} (hr : vx_Run p l e R s m args below meth c H locs cells slots mc ms (F0 m pc ls st0) rest (va_Qv post B A1 a) (vx_X px BX AX) free) (hS : va_S A0 H0 H locs) (hA : ∀ q, q < H.size → A1 q → A0 q) (hf : ∀ q, free q → A0 q) (hAX : ∀ q, q < H.size → AX q → A0 q)
    (kx : ∀ (E : String) (ce : Cell) (q9 : Addr) (u : SX) (t : State) (H1 : Heap) (locs1 : List Loc), t.heap = H1 → s.vm.Alike t.vm → px u → BX E u t → H.size ≤ H1.size → (∀ q : Nat, q < H.size → ¬ AX q → H1[q]? = H[q]?) → va_S A0 H0 H1 locs1 → H1[q9]? = some ce → ce.vm = .none → s.vm.findClass E = some ce.cls → vx_W p l e R s m args below meth c H1 locs1 (cells + mc) (slots + ms) Q (F0 m pc ls rest) q9)
    (kk : ∀ (u : S) (t : State) (H1 : Heap) (locs1 : List Loc), t.heap = H1 → s.vm.Alike t.vm → post u → B u t → H.size ≤ H1.size → (∀ q : Nat, q < H.size → ¬ A1 q → H1[q]? = H[q]?) → va_S A0 H0 H1 locs1 → W p l e R s m args below meth c H1 locs1 (cells + mc) (slots + ms) Q (F0 m (pc + 3) ls (rest))) : W p l e R s m args below meth c H locs cells slots Q (F0 m pc ls st0) := by
  intro T hT X
  rcases hr T hT X with ⟨v, st₀, t, T', L, h0, X', hL, e1, e2, ⟨⟨u, hv, hp, hb⟩, hF⟩, st⟩ | ⟨q, st₀, t, T', L, E, ce, h0, X', hL, e1, e2, ⟨u, hp, hb, hF⟩, hce, hcv, hcl, st⟩
  · cases hv
    obtain ⟨k1, k2, k3⟩ := vx_keep h0 e1 hS hA hf hL hF
    obtain ⟨t2, a1, b1⟩ := kk u t T'.heap (locs ++ L) e1.symm (by rw [← e2]; exact X'.warmed.alike) hp hb k1 k2 k3 T' rfl X'
    exact ⟨t2, st t2 a1, b1⟩
  · obtain ⟨k1, k2, k3⟩ := vx_keep h0 e1 hS hAX hf hL hF
    obtain ⟨t2, a1, b1⟩ := kx E ce q u t T'.heap (locs ++ L) e1.symm (by rw [← e2]; exact X'.warmed.alike) hp hb k1 k2 k3 (by rw [e1]; exact hce) hcv hcl T' rfl X'
    exact ⟨t2, st.trans a1, b1⟩
end Rows
section Ends
variable {p : Program} {l : Launch} {e : Env} {R : Room} {s : State} {m : MethodId} {args : Array Value} {below : List Frame} {meth : Method} {c : Code} {H : Heap} {locs : List Loc} {cells slots : Nat} {Q : State → Prop}
variable {mc ms : Nat} {free : Addr → Prop} {A0 A1 : Nat → Prop} {H0 : Heap} {a : Array Value} {ls : Array Slot} {st0 rest : List Value}
variable {Qc : Array Value → State → Outcome → State → Prop} {XC : String → State → State → Prop}
/-- what a body that may throw owes at its end -/
def vx_MQ (below : List Frame) (Qc : Array Value → State → Outcome → State → Prop) (XC : String → State → State → Prop) (a : Array Value) (s : State) (mc ms : Nat) (free : Addr → Prop) : State → Prop := fun t =>
  ∃ o, t.status = .running ∧ Ended t below o ∧ vx_Q Qc XC mc ms free a s o t
theorem vx_ret {g : JFrame} {mc ms : Nat} (k : W p l e R s m args below meth c H locs cells slots (MQ below Qc args s mc ms free) g) : W p l e R s m args below meth c H locs cells slots (vx_MQ below Qc XC args s mc ms free) g := by
  intro T hT X
  obtain ⟨t, a1, o, b1, b2, b3, b4⟩ := k T hT X
  exact ⟨t, a1, o, b1, b2, Or.inl ⟨b3, b4⟩⟩
/-- not caught here: it goes on to the caller -/
theorem vx_widen {g : JFrame} {q : Addr} {k n : Nat} (h1 : cells ≤ k) (h2 : slots ≤ n) (kk : vx_W p l e R s m args below meth c H locs k n Q g q) : vx_W p l e R s m args below meth c H locs cells slots Q g q := fun T hT X => kk T hT (stand_widen X h1 h2)
theorem vx_out {pc : Nat} {E : String} {ce : Cell} {q : Addr} {mc ms : Nat} (hout : ∀ x ∈ c.exceptionTable.toList, covers x pc = false) (hlocks : meth.locks = false) (hcell : H[q]? = some ce) (hv : ce.vm = .none) (hcl : s.vm.findClass E = some ce.cls)
    (hx : ∀ t : State, t.heap = H → s.vm.Alike t.vm → XC E s t) (hf : ∀ z ∈ locs, free z.base) (hc : cells ≤ mc) (hs : slots ≤ ms) :
    vx_W p l e R s m args below meth c H locs cells slots (vx_MQ below Qc XC args s mc ms free) (F0 m pc ls rest) q := by
  intro T hT X
  obtain ⟨st1, hrun, hend, hW, hsm⟩ := X.leaveThrown q (g := F0 m pc ls rest) rfl rfl rfl hout hlocks
  have hcell9 : (T.setFrames (.throwing q :: below)).heap[q]? = some ce := by
    show T.heap[q]? = some ce
    rw [hT]; exact hcell
  exact ⟨_, st1, .threw q, hrun, hend, Or.inr ⟨q, rfl, E, ce, locs, hx _ hT hW.alike, hcell9, hv, hcl, hW, hsm.mono hc hs, hf⟩⟩
theorem vx_frame {U : State} {k n : Nat} (h : s.sameButNew ({ U with vm := s.vm } : State) locs k n) : s.heap.size ≤ U.heap.size ∧ ∀ q : Nat, q < s.heap.size → (∀ z ∈ locs, z.base ≠ q) → U.heap[q]? = s.heap[q]? := by
  obtain ⟨-, h2, -, -, -, h6⟩ := h
  refine ⟨h2, fun q hq hz => ?_⟩
  obtain ⟨c9, e1, e2, e3, e4⟩ := h6 q _ (Array.getElem?_eq_getElem hq)
  have hs : c9.slots = (s.heap[q]).slots := Array.ext_getElem? fun i => e4 i fun hm => hz _ hm rfl
  have h9 : c9 = s.heap[q] := by
    rw [hs] at e2
    exact e2
  have e5 : U.heap[q]? = some c9 := e1
  rw [e5, h9, Array.getElem?_eq_getElem hq]
/-- the words of a throw but the four that speak of the heap -/
def vx_no (w : Cond) : Bool := decide (w ≠ .isRef (.static Bundle.tN "UNASSIGNED_STACK" Bundle.steD)) && decide (w ≠ .isRef (.static Bundle.tN "SUPPRESSED_SENTINEL" Bundle.listD)) && decide (w ≠ .laysStatic Bundle.tN "UNASSIGNED_STACK" Bundle.steD) && decide (w ≠ .laysStatic Bundle.tN "SUPPRESSED_SENTINEL" Bundle.listD)
def vx_at0 (own : String) (ic : Nat) (X : String) (names : List String) : List Cond := (Bundle.ownAtoms0 own ic X names).filter vx_no
def vx_atS (own : String) (ic : Nat) (X : String) (names : List String) : List Cond := (Bundle.ownAtoms own ic X names).filter vx_no
/-- a word that the tables alone decide, or a good one -/
def vx_ot (w : Cond) : Bool := w.onTables || goodWord w
theorem vx_ot_at {args a' : Array Value} {s U : State} {w : Cond} (hW : s.WarmedH U.vm) (hvm : s.vm = U.vm) (hg : vx_ot w = true) (h : w.before args s = true) : w.before a' U = true := by
  simp only [vx_ot, Bool.or_eq_true] at hg
  rcases hg with hg | hg
  · exact va_tabs hg hvm h
  · exact word_at hW (good_of_word hg) h
/-- a list's words: the good ones out of the method's own list, the others by premises of their own -/
theorem vx_hat {args : Array Value} {s : State} {L B : List Cond} (h1 : ∀ w ∈ L.filter goodWord, w.before args s = true) (h2 : ∀ w ∈ L.filter (fun w => !goodWord w), w ∈ B) (h3 : ∀ w ∈ B, w.before args s = true) : ∀ w ∈ L, w.before args s = true := by
  intro w hw
  by_cases g : goodWord w = true
  · exact h1 w (List.mem_filter.mpr ⟨hw, g⟩)
  · refine h3 w (h2 w (List.mem_filter.mpr ⟨hw, ?_⟩))
    show (!goodWord w) = true
    cases hgw : goodWord w
    · rfl
    · exact absurd hgw g
theorem vx_c {args : Array Value} {s : State} {w : Cond} {B : List Cond} (h : w.before args s = true) (t : ∀ w ∈ B, w.before args s = true) : ∀ w' ∈ w :: B, w'.before args s = true := fun w' h' => (List.mem_cons.mp h').elim (fun e => by rw [e]; exact h) (t w')
theorem vx_n {args : Array Value} {s : State} : ∀ w ∈ ([] : List Cond), w.before args s = true := fun _ h => nomatch h
theorem vx_own {args : Array Value} {s : State} {L : List Cond} (h1 : ∀ w ∈ L.filter vx_no, w.before args s = true)
    (hU : (Cond.isRef (.static Bundle.tN "UNASSIGNED_STACK" Bundle.steD)).before args s = true) (hN : (Cond.isRef (.static Bundle.tN "SUPPRESSED_SENTINEL" Bundle.listD)).before args s = true)
    (lU : (Cond.laysStatic Bundle.tN "UNASSIGNED_STACK" Bundle.steD).before args s = true) (lN : (Cond.laysStatic Bundle.tN "SUPPRESSED_SENTINEL" Bundle.listD).before args s = true) : ∀ w ∈ L, w.before args s = true := by
  intro w hw
  by_cases e1 : w = .isRef (.static Bundle.tN "UNASSIGNED_STACK" Bundle.steD)
  · rw [e1]; exact hU
  · by_cases e2 : w = .isRef (.static Bundle.tN "SUPPRESSED_SENTINEL" Bundle.listD)
    · rw [e2]; exact hN
    · by_cases e3 : w = .laysStatic Bundle.tN "UNASSIGNED_STACK" Bundle.steD
      · rw [e3]; exact lU
      · by_cases e4 : w = .laysStatic Bundle.tN "SUPPRESSED_SENTINEL" Bundle.listD
        · rw [e4]; exact lN
        · exact h1 w (List.mem_filter.mpr ⟨hw, by unfold vx_no; rw [decide_eq_true e1, decide_eq_true e2, decide_eq_true e3, decide_eq_true e4]; rfl⟩)
/-- where a static field lies, its class's statics cell in H -/
def vx_L (C n d : String) (A : Nat → Prop) (U : State) (H : Heap) : Prop := ∃ (c : ClassId) (k : Class) (i : Nat) (f : Field) (a : Nat) (cell : Cell), U.vm.findClass C = some c ∧ U.fieldFound? C n d = some (c, k, i, f) ∧ f.isStatic = true ∧ k.statics = some a ∧ H[a]? = some cell ∧ cell.vm.isStatics = true ∧ cell.cls = c ∧ f.slot < cell.slots.size ∧ k.staticTypes[f.slot]? = some f.type ∧ ¬ A a
theorem vx_L.moved {C n d : String} {A : Nat → Prop} {u U : State} {H : Heap} (hvm : u.vm.Alike U.vm) (h : vx_L C n d A u H) : vx_L C n d A U H := by
  obtain ⟨c, k, i, f, a, cell, h1, h2, h3, h4, h5, h6, h7, h8, h9, h10⟩ := h
  obtain ⟨k', hi', he⟩ := State.fieldFound?_setVm hvm h2
  exact ⟨c, k', i, f, a, cell, by rw [hvm.findClass]; exact h1, hi', h3, by rw [he]; exact h4, h5, h6, h7, h8, by rw [he]; exact h9, h10⟩
theorem vx_L.kept {C n d : String} {A : Nat → Prop} {U : State} {H H1 : Heap} (h : vx_L C n d A U H) (hq : ∀ a : Nat, a < H.size → ¬ A a → H1[a]? = H[a]?) : vx_L C n d A U H1 := by
  obtain ⟨c, k, i, f, a, cell, h1, h2, h3, h4, h5, h6, h7, h8, h9, h10⟩ := h
  exact ⟨c, k, i, f, a, cell, h1, h2, h3, h4, by rw [hq a (Array.getElem?_eq_some_iff.mp h5).1 h10]; exact h5, h6, h7, h8, h9, h10⟩
theorem vx_L.narrow {C n d : String} {A B : Nat → Prop} {U : State} {H : Heap} (h : vx_L C n d A U H) (hAB : ∀ q, B q → A q) : vx_L C n d B U H := by
  obtain ⟨c, k, i, f, a, cell, h1, h2, h3, h4, h5, h6, h7, h8, h9, h10⟩ := h
  exact ⟨c, k, i, f, a, cell, h1, h2, h3, h4, h5, h6, h7, h8, h9, fun z => h10 (hAB _ z)⟩
theorem vx_L.word {C n d : String} {A : Nat → Prop} {s : State} {args : Array Value} (h : vx_L C n d A s s.heap) : (Cond.laysStatic C n d).before args s = true := by
  obtain ⟨c, k, i, f, a, cell, h1, h2, h3, h4, h5, h6, h7, h8, h9, -⟩ := h
  show (Cond.laysStatic C n d).holds args s none s [] = true
  exact Cond.laysStatic_of h1 h2 h3 h4 h5 h6 h7 h8 h9
/-- .. and what it holds: null or some reference -/
def vx_Zq (C n d : String) (A : Nat → Prop) (U : State) (H : Heap) : Prop := va_Zq C n d A U H ∧ vx_L C n d A U H
theorem vx_Zq.moved {C n d : String} {A : Nat → Prop} {u U : State} {H : Heap} (hvm : u.vm.Alike U.vm) (h : vx_Zq C n d A u H) : vx_Zq C n d A U H := ⟨va_Zq.moved hvm h.1, vx_L.moved hvm h.2⟩
theorem vx_Zq.kept {C n d : String} {A : Nat → Prop} {U : State} {H H1 : Heap} (h : vx_Zq C n d A U H) (hq : ∀ a : Nat, a < H.size → ¬ A a → H1[a]? = H[a]?) : vx_Zq C n d A U H1 := ⟨va_Zq.kept h.1 hq, vx_L.kept h.2 hq⟩
theorem vx_Zq.narrow {C n d : String} {A B : Nat → Prop} {U : State} {H : Heap} (h : vx_Zq C n d A U H) (hAB : ∀ q, B q → A q) : vx_Zq C n d B U H := ⟨va_Zq.narrow h.1 hAB, vx_L.narrow h.2 hAB⟩
theorem vx_Zqof {args : Array Value} {s : State} {C n d : String} {A : Nat → Prop} (hl : (Cond.laysStatic C n d).before args s = true) (hini : (Cond.initialized C).before args s = true) (h : (Cond.isRef (.static C n d)).before args s = true) (hA : ∀ a : Nat, a < s.heap.size → ¬ A a) : vx_Zq C n d A s s.heap := by
  refine ⟨va_Zqof hl hini h hA, ?_⟩
  obtain ⟨c, k, i, f, a, cell, h1, h2, h3, h4, h5, h6, h7, h8, h9⟩ := Cond.laysStatic_spec hl
  exact ⟨c, k, i, f, a, cell, h1, h2, h3, h4, h5, h6, h7, h8, h9, hA a (Array.getElem?_eq_some_iff.mp h5).1⟩
theorem vx_isRef {C n d : String} {v : Value} {A : Nat → Prop} {s : State} {args : Array Value} (h : va_Z C n d v A s s.heap) (hv : v.isRef = true) : (Cond.isRef (.static C n d)).before args s = true := by
  obtain ⟨cf, kf, fi, f, a, cell, h1, h2, h3, h4, h5, h6, h7, -⟩ := h
  have he : (Term.static C n d).eval args s none [] s = some v := by
    simp [Term.eval, State.fieldNamed?, h1, h2, h4, h5, h6, h7]
  simp only [Cond.before, Cond.holds, Cond.value, he]
  cases v <;> simp_all [Value.isRef]
theorem vx_isRefq {C n d : String} {A : Nat → Prop} {s : State} {args : Array Value} (h : va_Zq C n d A s s.heap) : (Cond.isRef (.static C n d)).before args s = true := by
  rcases h with h | ⟨t, h⟩
  · exact vx_isRef h rfl
  · exact vx_isRef h rfl
/-- the same frame, seen from here: as if the method were called anew in this heap -/
theorem vx_rebase {T : State} (X : Stand p l e R s m args below meth c T locs cells slots) {R' : Room} (hf : R'.frames ≤ R.frames) (hl : R'.locals ≤ R.locals) (hc : cells + R'.cells ≤ R.cells) (hs : slots + R'.slots ≤ R.slots) :
    Stand p l e R' ((T.setVm s.vm).setFrames (.invoking m args :: below)) m args below meth c T [] 0 0 := by
  have htop : (T.setVm s.vm).topJava?.isSome := X.here.top
  have hF : ((T.setVm s.vm).setFrames (.invoking m args :: below)).frames = .invoking m args :: below := State.frames_setFrames _ (State.cur_lt_of_top htop)
  obtain ⟨g₀, hg0⟩ := Option.isSome_iff_exists.mp htop
  obtain ⟨r, hr⟩ := State.topJava?_eq_some.mp hg0
  have hl9 : e.platform.stackLimits (T.setVm s.vm).me = e.platform.stackLimits s.me := X.limits
  have hb9 : (T.setVm s.vm).me.stackBytes = s.me.stackBytes := X.bytes
  refine ⟨X.admits, X.cas, X.clock, hF, ?_, X.hears, X.method, X.code, X.here, X.tail, X.warmed, ?_, ?_, ?_⟩
  · have h := X.room
    have hU : ((T.setVm s.vm).setFrames (.invoking m args :: below)).localsInUse = s.localsInUse := by
      rw [State.localsInUse_invoking hF (meth := meth) (c := c) X.method X.code, State.localsInUse_invoking X.frames X.method X.code]
    simp only [State.hasRoom, Bool.and_eq_true, decide_eq_true_eq] at h ⊢
    obtain ⟨⟨⟨⟨h1, h2, h3, h4, h5, h6⟩, h7⟩, h8⟩, h9⟩ := h
    rw [X.frames, List.length_cons] at h2 h3
    have q1 := X.heapSize
    have q2 := X.used
    simp only [hF, hU, List.length_cons, State.stackLimits_setFrames, State.stackBytes_setFrames, hl9, hb9]
    refine ⟨⟨⟨⟨by omega, by omega, by omega, by omega, by omega, h6⟩, ?_⟩, ?_⟩, X.book⟩
    · show T.heap.size + R'.cells ≤ e.platform.maxCells
      omega
    · show T.slotsUsed + R'.slots ≤ e.platform.maxSlots
      omega
  · rw [State.stackLimits_setFrames]; rfl
  · rw [State.stackBytes_setFrames]; rfl
  · refine ⟨?_, Nat.le_refl _, Nat.le_refl _, ?_, ?_, fun a c9 h9 => ⟨c9, h9, rfl, rfl, fun _ _ => rfl⟩⟩
    · obtain ⟨t, ht, -⟩ := State.frames_cons hr
      show T.setVm s.vm = { ((T.setVm s.vm).setFrames (.invoking m args :: below)).setFrames (T.setVm s.vm).frames with heap := T.heap, slotsUsed := T.slotsUsed }
      rw [State.setFrames_setFrames, State.setFrames_self ht]
      rfl
    · show T.slotsUsed = T.slotsUsed + ((T.heap.toList.drop T.heap.size).map (·.slots.size)).sum
      rw [List.drop_eq_nil_of_le (Nat.le_of_eq Array.length_toList)]
      rfl
    · show ((T.heap.toList.drop T.heap.size).map (·.slots.size)).sum ≤ 0
      rw [List.drop_eq_nil_of_le (Nat.le_of_eq Array.length_toList)]
      exact Nat.le_refl _
/-- 'throw new E()': new; dup; invokespecial; athrow -/
theorem vx_throw0 {cc : ByteArray} {pc : Nat} (hexec : p.tables.exec = Jvm.exec) (hb : c.code = cc) (hl : l.stackTraces = false) {own cls : String} {names : List String} {ik ic mc ms : Nat} {A : Nat → Prop}
    (hown : s.vm.findClass own = some m.cls) (hcls : Bundle.fit cls = true) (hnames : ∀ n ∈ names, Bundle.fit n = true)
    (hk : (Cond.classLink own ik cls).before args s = true) (hini : (Cond.initialized cls).before args s = true) (hat : ∀ w ∈ vx_at0 own ic cls names, w.before args s = true)
    (hgood : ∀ w ∈ Cond.classLink own ik cls :: Cond.initialized cls :: vx_at0 own ic cls names, vx_ot w = true)
    (hU : vx_Zq Bundle.tN "UNASSIGNED_STACK" Bundle.steD A s s.heap) (hN : vx_Zq Bundle.tN "SUPPRESSED_SENTINEL" Bundle.listD A s s.heap) (hS : va_S A s.heap H locs) (hsize : ls.size = c.maxLocals)
    (d0 : decode cc pc = .ok (.new ik, 3)) (d3 : decode cc (pc + 3) = .ok (.dup, 1)) (d4 : decode cc (pc + 4) = .ok (.invokespecial ic, 3)) (d7 : decode cc (pc + 7) = .ok (.athrow, 1))
    (hout : ∀ x ∈ c.exceptionTable.toList, covers x (pc + 7) = false)
    (hRframes : names.length + 3 < R.frames) (hRlocals : (rest.map fun v => v.category).sum + (13 * (names.length + 1) + 42) ≤ R.locals) (hRcells : cells + 1 ≤ R.cells) (hRslots : slots + 6 ≤ R.slots) (hlocks : meth.locks = false)
    (hx : ∀ t : State, s.vm.Alike t.vm → H.size ≤ t.heap.size → (∀ q : Nat, q < H.size → t.heap[q]? = H[q]?) → XC cls s t)
    (hf : ∀ z ∈ locs, free z.base) (hc : cells + 1 ≤ mc) (hs : slots + 6 ≤ ms) :
    W p l e R s m args below meth c H locs cells slots (vx_MQ below Qc XC args s mc ms free) (F0 m pc ls rest) := by
  intro T hT X
  have htr : e.platform.stackTraces = false := (show e.platform.stackTraces = l.stackTraces by rw [X.admits.platform]).trans hl
  have Y := vx_rebase X (R' := { frames := R.frames, locals := R.locals, cells := 1, slots := 6 }) (Nat.le_refl _) (Nat.le_refl _) hRcells hRslots
  obtain ⟨s', hA⟩ : ∃ z, z = (T.setVm s.vm).setFrames (.invoking m args :: below) := ⟨_, rfl⟩
  rw [← hA] at Y
  have hvm : s'.vm = s.vm := by rw [hA]; rfl
  have hhp : s'.heap = H := by rw [hA]; exact hT
  have hW0 : s.WarmedH s'.vm := by rw [hvm]; exact State.WarmedH.refl s
  have hat' : ∀ w ∈ vx_at0 own ic cls names, w.before args s' = true := fun w hw => vx_ot_at hW0 hvm.symm (hgood w (List.mem_cons_of_mem _ (List.mem_cons_of_mem _ hw))) (hat w hw)
  have hk' : (Cond.classLink own ik cls).before args s' = true := vx_ot_at hW0 hvm.symm (hgood _ List.mem_cons_self) hk
  have hini' : (Cond.initialized cls).before args s' = true := vx_ot_at hW0 hvm.symm (hgood _ (List.mem_cons_of_mem _ List.mem_cons_self)) hini
  have hU' : vx_Zq Bundle.tN "UNASSIGNED_STACK" Bundle.steD A s' s'.heap := by rw [hhp]; exact vx_Zq.moved hW0.alike (hU.kept hS.2.1)
  have hN' : vx_Zq Bundle.tN "SUPPRESSED_SENTINEL" Bundle.listD A s' s'.heap := by rw [hhp]; exact vx_Zq.moved hW0.alike (hN.kept hS.2.1)
  have h : ∀ w ∈ Bundle.ownAtoms0 own ic cls names, w.before args s' = true := vx_own hat' (vx_isRefq hU'.1) (vx_isRefq hN'.1) hU'.2.word hN'.2.word
  have hown' : s'.vm.findClass own = some m.cls := by rw [hvm]; exact hown
  have hins : (Cond.instantiable cls 6).before args s' = true := h _ (by simp [Bundle.ownAtoms0])
  obtain ⟨vm₁, cX, kX, hfX, hkX, -, -, X₁, st1⟩ := Y.newCold hexec (own := own) (C := cls) (index := ik) (n := 6) hown' hk' hins hini'
    (g := F0 m pc ls rest) rfl (by rw [hb]; exact d0) (Nat.le_refl _) (Nat.le_refl _)
  generalize hT1 : (T.setVm vm₁).pushCell { cls := cX, slots := kX.instanceTypes.map defaultValue, vm := .none } = T1 at X₁ st1
  have hcat : (Value.ref T.heap.size).category = 1 := rfl
  have hcellA : T1.heap[T.heap.size]? = some (freshCell cX kX) := by rw [← hT1]; exact State.heap_pushCell_size _ _
  have d3' : decode c.code (pc + 3) = .ok (.dup, 1) := by rw [hb]; exact d3
  obtain ⟨U, hsteps, hrun, hend, hW, hsame, ce, hce, hO⟩ := X₁.ctorThrow0 hexec htr (own := own) (cls := cls) (names := names) (ic := ic) hown' hcls hnames h (fun x hx => nomatch hx) hfX hkX hcellA (by rw [hhp, hT]; exact Nat.le_refl _)
    (g := { method := m, pc := pc + 4, locals := ls, stack := .ref T.heap.size :: .ref T.heap.size :: rest, locked := none }) rfl hsize rfl rfl (rest := rest) rfl
    (by rw [hb]; exact d4) (by rw [hb]; exact d7) hout hRframes (by simp only [List.map_cons, List.sum_cons, hcat]; omega) hlocks
  obtain ⟨f1, f2⟩ := vx_frame hsame
  rw [hhp] at f1 f2
  have hWs : s.WarmedH U.vm := State.WarmedH.trans hW0 hW
  have hcl : s.vm.findClass cls = some ce.cls := by
    have h9 := hO.cls
    rw [hvm] at h9
    exact h9
  have hall : s.sameButNew ({ U with vm := s.vm } : State) locs mc ms := by
    subst hA
    obtain ⟨e1, e2⟩ := hsame
    rw [State.setFrames_setFrames] at e1
    have h2 : (T.setVm s.vm).sameButNew ({ U with vm := s.vm } : State) [] (0 + 1) (0 + 6) := ⟨e1, e2⟩
    have h3 := X.same.trans h2
    rw [List.append_nil] at h3
    exact h3.mono hc hs
  refine ⟨U, ?_, .threw T.heap.size, hrun, hend, Or.inr ⟨T.heap.size, rfl, cls, ce, locs, hx U hWs.alike f1 (fun q hq => f2 q hq (fun z hz => nomatch hz)), hce, hO.vm, hcl, hWs, hall, hf⟩⟩
  refine st1 _ ?_
  show Steps p.tables e below (T1.setTop { method := m, pc := pc + 3, locals := ls, stack := .ref T.heap.size :: rest, locked := none }) _
  jvm_step X₁.here [X₁.here.top, hexec, d3', Value.category]
  exact hsteps
/-- 'throw new E("text")': new; dup; ldc; invokespecial; athrow -/
theorem vx_throwS {cc : ByteArray} {pc : Nat} (hexec : p.tables.exec = Jvm.exec) (hb : c.code = cc) (hl : l.stackTraces = false) {own cls text : String} {names : List String} {ik is ic mc ms sa : Nat} {A : Nat → Prop}
    (hown : s.vm.findClass own = some m.cls) (hcls : Bundle.fit cls = true) (hnames : ∀ n ∈ names, Bundle.fit n = true)
    (hk : (Cond.classLink own ik cls).before args s = true) (hini : (Cond.initialized cls).before args s = true) (hstr : vk_R own is text sa s) (hat : ∀ w ∈ vx_atS own ic cls names, w.before args s = true)
    (hgood : ∀ w ∈ Cond.classLink own ik cls :: Cond.initialized cls :: vx_atS own ic cls names, vx_ot w = true)
    (hU : vx_Zq Bundle.tN "UNASSIGNED_STACK" Bundle.steD A s s.heap) (hN : vx_Zq Bundle.tN "SUPPRESSED_SENTINEL" Bundle.listD A s s.heap) (hS : va_S A s.heap H locs) (hsize : ls.size = c.maxLocals)
    (d0 : decode cc pc = .ok (.new ik, 3)) (d3 : decode cc (pc + 3) = .ok (.dup, 1)) (d4 : decode cc (pc + 4) = .ok (.ldc is, 2)) (d6 : decode cc (pc + 6) = .ok (.invokespecial ic, 3)) (d9 : decode cc (pc + 9) = .ok (.athrow, 1))
    (hout : ∀ x ∈ c.exceptionTable.toList, covers x (pc + 9) = false)
    (hRframes : names.length + 3 < R.frames) (hRlocals : (rest.map fun v => v.category).sum + (13 * (names.length + 1) + 43) ≤ R.locals) (hRcells : cells + 1 ≤ R.cells) (hRslots : slots + 6 ≤ R.slots) (hlocks : meth.locks = false)
    (hx : ∀ t : State, s.vm.Alike t.vm → H.size ≤ t.heap.size → (∀ q : Nat, q < H.size → t.heap[q]? = H[q]?) → XC cls s t)
    (hf : ∀ z ∈ locs, free z.base) (hc : cells + 1 ≤ mc) (hs : slots + 6 ≤ ms) :
    W p l e R s m args below meth c H locs cells slots (vx_MQ below Qc XC args s mc ms free) (F0 m pc ls rest) := by
  intro T hT X
  have htr : e.platform.stackTraces = false := (show e.platform.stackTraces = l.stackTraces by rw [X.admits.platform]).trans hl
  have Y := vx_rebase X (R' := { frames := R.frames, locals := R.locals, cells := 1, slots := 6 }) (Nat.le_refl _) (Nat.le_refl _) hRcells hRslots
  obtain ⟨s', hA⟩ : ∃ z, z = (T.setVm s.vm).setFrames (.invoking m args :: below) := ⟨_, rfl⟩
  rw [← hA] at Y
  have hvm : s'.vm = s.vm := by rw [hA]; rfl
  have hhp : s'.heap = H := by rw [hA]; exact hT
  have hW0 : s.WarmedH s'.vm := by rw [hvm]; exact State.WarmedH.refl s
  have hat' : ∀ w ∈ vx_atS own ic cls names, w.before args s' = true := fun w hw => vx_ot_at hW0 hvm.symm (hgood w (List.mem_cons_of_mem _ (List.mem_cons_of_mem _ hw))) (hat w hw)
  have hk' : (Cond.classLink own ik cls).before args s' = true := vx_ot_at hW0 hvm.symm (hgood _ List.mem_cons_self) hk
  have hini' : (Cond.initialized cls).before args s' = true := vx_ot_at hW0 hvm.symm (hgood _ (List.mem_cons_of_mem _ List.mem_cons_self)) hini
  have hU' : vx_Zq Bundle.tN "UNASSIGNED_STACK" Bundle.steD A s' s'.heap := by rw [hhp]; exact vx_Zq.moved hW0.alike (hU.kept hS.2.1)
  have hN' : vx_Zq Bundle.tN "SUPPRESSED_SENTINEL" Bundle.listD A s' s'.heap := by rw [hhp]; exact vx_Zq.moved hW0.alike (hN.kept hS.2.1)
  have h : ∀ w ∈ Bundle.ownAtoms own ic cls names, w.before args s' = true := vx_own hat' (vx_isRefq hU'.1) (vx_isRefq hN'.1) hU'.2.word hN'.2.word
  have hown' : s'.vm.findClass own = some m.cls := by rw [hvm]; exact hown
  have hins : (Cond.instantiable cls 6).before args s' = true := h _ (by simp [Bundle.ownAtoms])
  obtain ⟨vm₁, cX, kX, hfX, hkX, -, -, X₁, st1⟩ := Y.newCold hexec (own := own) (C := cls) (index := ik) (n := 6) hown' hk' hins hini'
    (g := F0 m pc ls rest) rfl (by rw [hb]; exact d0) (Nat.le_refl _) (Nat.le_refl _)
  generalize hT1 : (T.setVm vm₁).pushCell { cls := cX, slots := kX.instanceTypes.map defaultValue, vm := .none } = T1 at X₁ st1
  have hcat : (Value.ref T.heap.size).category = 1 := rfl
  have hcellA : T1.heap[T.heap.size]? = some (freshCell cX kX) := by rw [← hT1]; exact State.heap_pushCell_size _ _
  have d3' : decode c.code (pc + 3) = .ok (.dup, 1) := by rw [hb]; exact d3
  have d4' : decode c.code (pc + 4) = .ok (.ldc is, 2) := by rw [hb]; exact d4
  have hstr' : vk_R own is text sa s' := vk_R.warm hW0 hstr
  obtain ⟨U, hsteps, hrun, hend, hW, hsame, ce, hce, hO⟩ := X₁.ctorThrowS hexec htr (own := own) (cls := cls) (names := names) (ic := ic) hown' hcls hnames h (fun x hx => nomatch hx) hfX hkX hcellA (by rw [hhp, hT]; exact Nat.le_refl _) (msg := .ref sa) rfl
    (g := { method := m, pc := pc + 6, locals := ls, stack := .ref sa :: .ref T.heap.size :: .ref T.heap.size :: rest, locked := none }) rfl hsize rfl rfl (rest := rest) rfl
    (by rw [hb]; exact d6) (by rw [hb]; exact d9) hout hRframes (by simp only [List.map_cons, List.sum_cons, hcat]; omega) hlocks
  obtain ⟨f1, f2⟩ := vx_frame hsame
  rw [hhp] at f1 f2
  have hWs : s.WarmedH U.vm := State.WarmedH.trans hW0 hW
  have hcl : s.vm.findClass cls = some ce.cls := by
    have h9 := hO.cls
    rw [hvm] at h9
    exact h9
  have hall : s.sameButNew ({ U with vm := s.vm } : State) locs mc ms := by
    subst hA
    obtain ⟨e1, e2⟩ := hsame
    rw [State.setFrames_setFrames] at e1
    have h2 : (T.setVm s.vm).sameButNew ({ U with vm := s.vm } : State) [] (0 + 1) (0 + 6) := ⟨e1, e2⟩
    have h3 := X.same.trans h2
    rw [List.append_nil] at h3
    exact h3.mono hc hs
  refine ⟨U, ?_, .threw T.heap.size, hrun, hend, Or.inr ⟨T.heap.size, rfl, cls, ce, locs, hx U hWs.alike f1 (fun q hq => f2 q hq (fun z hz => nomatch hz)), hce, hO.vm, hcl, hWs, hall, hf⟩⟩
  refine st1 _ ?_
  show Steps p.tables e below (T1.setTop { method := m, pc := pc + 3, locals := ls, stack := .ref T.heap.size :: rest, locked := none }) _
  jvm_step X₁.here [X₁.here.top, hexec, d3', Value.category]
  exact X₁.ldcString hexec (own := own) (text := text) (index := is) (a := sa) hown' hstr'.1 hstr'.2
    (g := { method := m, pc := pc + 4, locals := ls, stack := .ref T.heap.size :: .ref T.heap.size :: rest, locked := none }) rfl d4' _ hsteps
/-- 'throw new E("text")', the text by a wide index -/
theorem vx_throwSW {cc : ByteArray} {pc : Nat} (hexec : p.tables.exec = Jvm.exec) (hb : c.code = cc) (hl : l.stackTraces = false) {own cls text : String} {names : List String} {ik is ic mc ms sa : Nat} {A : Nat → Prop}
    (hown : s.vm.findClass own = some m.cls) (hcls : Bundle.fit cls = true) (hnames : ∀ n ∈ names, Bundle.fit n = true)
    (hk : (Cond.classLink own ik cls).before args s = true) (hini : (Cond.initialized cls).before args s = true) (hstr : vk_R own is text sa s) (hat : ∀ w ∈ vx_atS own ic cls names, w.before args s = true)
    (hgood : ∀ w ∈ Cond.classLink own ik cls :: Cond.initialized cls :: vx_atS own ic cls names, vx_ot w = true)
    (hU : vx_Zq Bundle.tN "UNASSIGNED_STACK" Bundle.steD A s s.heap) (hN : vx_Zq Bundle.tN "SUPPRESSED_SENTINEL" Bundle.listD A s s.heap) (hS : va_S A s.heap H locs) (hsize : ls.size = c.maxLocals)
    (d0 : decode cc pc = .ok (.new ik, 3)) (d3 : decode cc (pc + 3) = .ok (.dup, 1)) (d4 : decode cc (pc + 4) = .ok (.ldc_w is, 3)) (d7 : decode cc (pc + 7) = .ok (.invokespecial ic, 3)) (d10 : decode cc (pc + 10) = .ok (.athrow, 1))
    (hout : ∀ x ∈ c.exceptionTable.toList, covers x (pc + 10) = false)
    (hRframes : names.length + 3 < R.frames) (hRlocals : (rest.map fun v => v.category).sum + (13 * (names.length + 1) + 43) ≤ R.locals) (hRcells : cells + 1 ≤ R.cells) (hRslots : slots + 6 ≤ R.slots) (hlocks : meth.locks = false)
    (hx : ∀ t : State, s.vm.Alike t.vm → H.size ≤ t.heap.size → (∀ q : Nat, q < H.size → t.heap[q]? = H[q]?) → XC cls s t)
    (hf : ∀ z ∈ locs, free z.base) (hc : cells + 1 ≤ mc) (hs : slots + 6 ≤ ms) :
    W p l e R s m args below meth c H locs cells slots (vx_MQ below Qc XC args s mc ms free) (F0 m pc ls rest) := by
  intro T hT X
  have htr : e.platform.stackTraces = false := (show e.platform.stackTraces = l.stackTraces by rw [X.admits.platform]).trans hl
  have Y := vx_rebase X (R' := { frames := R.frames, locals := R.locals, cells := 1, slots := 6 }) (Nat.le_refl _) (Nat.le_refl _) hRcells hRslots
  obtain ⟨s', hA⟩ : ∃ z, z = (T.setVm s.vm).setFrames (.invoking m args :: below) := ⟨_, rfl⟩
  rw [← hA] at Y
  have hvm : s'.vm = s.vm := by rw [hA]; rfl
  have hhp : s'.heap = H := by rw [hA]; exact hT
  have hW0 : s.WarmedH s'.vm := by rw [hvm]; exact State.WarmedH.refl s
  have hat' : ∀ w ∈ vx_atS own ic cls names, w.before args s' = true := fun w hw => vx_ot_at hW0 hvm.symm (hgood w (List.mem_cons_of_mem _ (List.mem_cons_of_mem _ hw))) (hat w hw)
  have hk' : (Cond.classLink own ik cls).before args s' = true := vx_ot_at hW0 hvm.symm (hgood _ List.mem_cons_self) hk
  have hini' : (Cond.initialized cls).before args s' = true := vx_ot_at hW0 hvm.symm (hgood _ (List.mem_cons_of_mem _ List.mem_cons_self)) hini
  have hU' : vx_Zq Bundle.tN "UNASSIGNED_STACK" Bundle.steD A s' s'.heap := by rw [hhp]; exact vx_Zq.moved hW0.alike (hU.kept hS.2.1)
  have hN' : vx_Zq Bundle.tN "SUPPRESSED_SENTINEL" Bundle.listD A s' s'.heap := by rw [hhp]; exact vx_Zq.moved hW0.alike (hN.kept hS.2.1)
  have h : ∀ w ∈ Bundle.ownAtoms own ic cls names, w.before args s' = true := vx_own hat' (vx_isRefq hU'.1) (vx_isRefq hN'.1) hU'.2.word hN'.2.word
  have hown' : s'.vm.findClass own = some m.cls := by rw [hvm]; exact hown
  have hins : (Cond.instantiable cls 6).before args s' = true := h _ (by simp [Bundle.ownAtoms])
  obtain ⟨vm₁, cX, kX, hfX, hkX, -, -, X₁, st1⟩ := Y.newCold hexec (own := own) (C := cls) (index := ik) (n := 6) hown' hk' hins hini'
    (g := F0 m pc ls rest) rfl (by rw [hb]; exact d0) (Nat.le_refl _) (Nat.le_refl _)
  generalize hT1 : (T.setVm vm₁).pushCell { cls := cX, slots := kX.instanceTypes.map defaultValue, vm := .none } = T1 at X₁ st1
  have hcat : (Value.ref T.heap.size).category = 1 := rfl
  have hcellA : T1.heap[T.heap.size]? = some (freshCell cX kX) := by rw [← hT1]; exact State.heap_pushCell_size _ _
  have d3' : decode c.code (pc + 3) = .ok (.dup, 1) := by rw [hb]; exact d3
  have d4' : decode c.code (pc + 4) = .ok (.ldc_w is, 3) := by rw [hb]; exact d4
  have hstr' : vk_R own is text sa s' := vk_R.warm hW0 hstr
  obtain ⟨U, hsteps, hrun, hend, hW, hsame, ce, hce, hO⟩ := X₁.ctorThrowS hexec htr (own := own) (cls := cls) (names := names) (ic := ic) hown' hcls hnames h (fun x hx => nomatch hx) hfX hkX hcellA (by rw [hhp, hT]; exact Nat.le_refl _) (msg := .ref sa) rfl
    (g := { method := m, pc := pc + 7, locals := ls, stack := .ref sa :: .ref T.heap.size :: .ref T.heap.size :: rest, locked := none }) rfl hsize rfl rfl (rest := rest) rfl
    (by rw [hb]; exact d7) (by rw [hb]; exact d10) hout hRframes (by simp only [List.map_cons, List.sum_cons, hcat]; omega) hlocks
  obtain ⟨f1, f2⟩ := vx_frame hsame
  rw [hhp] at f1 f2
  have hWs : s.WarmedH U.vm := State.WarmedH.trans hW0 hW
  have hcl : s.vm.findClass cls = some ce.cls := by
    have h9 := hO.cls
    rw [hvm] at h9
    exact h9
  have hall : s.sameButNew ({ U with vm := s.vm } : State) locs mc ms := by
    subst hA
    obtain ⟨e1, e2⟩ := hsame
    rw [State.setFrames_setFrames] at e1
    have h2 : (T.setVm s.vm).sameButNew ({ U with vm := s.vm } : State) [] (0 + 1) (0 + 6) := ⟨e1, e2⟩
    have h3 := X.same.trans h2
    rw [List.append_nil] at h3
    exact h3.mono hc hs
  refine ⟨U, ?_, .threw T.heap.size, hrun, hend, Or.inr ⟨T.heap.size, rfl, cls, ce, locs, hx U hWs.alike f1 (fun q hq => f2 q hq (fun z hz => nomatch hz)), hce, hO.vm, hcl, hWs, hall, hf⟩⟩
  refine st1 _ ?_
  show Steps p.tables e below (T1.setTop { method := m, pc := pc + 3, locals := ls, stack := .ref T.heap.size :: rest, locked := none }) _
  jvm_step X₁.here [X₁.here.top, hexec, d3', Value.category]
  exact X₁.ldcStringW hexec (own := own) (text := text) (index := is) (a := sa) hown' hstr'.1 hstr'.2
    (g := { method := m, pc := pc + 4, locals := ls, stack := .ref T.heap.size :: .ref T.heap.size :: rest, locked := none }) rfl d4' _ hsteps
end Ends
section Bodies
variable {l : Launch}
theorem vx_ofW {y : MethodName} {ws ws' : List Cond} {rm : Room} {Pc : Array Value → State → Prop} {Qc : Array Value → State → Outcome → State → Prop} {XC : String → State → State → Prop} {mc ms : Nat} {free : Addr → Prop} {cc : ByteArray} {maxL : Nat} {ret : Option FieldType}
    (hy : plainName y.cls = true) (hw : ws = Cond.code y cc maxL ret :: ws')
    (body : ∀ p e s m args below meth c s₁, BodyLoose p l y (headSpec ws rm) cc maxL ret e s m args below meth c s₁ → c.maxLocals = maxL → (∀ x ∈ c.exceptionTable.toList, False) → Pc args s →
      W p l e (headSpec ws rm).room s m args below meth c s.heap [] 0 0 (vx_MQ below Qc XC args s mc ms free) (entryFrame m args maxL)) : vx_Met l y ws rm Pc Qc XC mc ms free := by
  refine MetFree.of_bodyS (code := cc) (maxLocals := maxL) (ret := ret) hy ?_ ?_
  · intro args s m h hn
    obtain ⟨meth, c, h1, h2, h3, h4, h5, h6, -, -⟩ := Cond.code_spec hn (atoms_spec (ws := ws) h _ (by rw [hw]; exact List.mem_cons_self))
    exact ⟨meth, c, h1, h2, h3, h4, h5, h6⟩
  · intro p e s m args below meth c s₁ B hml hP _
    have hh0 : s₁.heap = s.heap := by rw [B.state]; rfl
    have ht : ∀ x ∈ c.exceptionTable.toList, False := by
      obtain ⟨meth9, c9, h1, h2, -, -, -, -, h7, -⟩ := Cond.code_spec B.named (atoms_spec (ws := ws) B.pre _ (by rw [hw]; exact List.mem_cons_self))
      cases Option.some.inj (h1.symm.trans B.method)
      cases Option.some.inj (h2.symm.trans (Stand.of_body B).code)
      intro x hx
      rw [Array.isEmpty_iff.mp h7] at hx
      cases hx
    obtain ⟨t, a1, o, b1, b2, b3⟩ := body p e s m args below meth c s₁ B hml ht hP s₁ hh0 (Stand.of_body B)
    exact ⟨t, o, a1, b1, b2, b3⟩
/-- the table of a body with handlers -/
theorem vx_table {p : Program} {x y : MethodName} {S : Spec} {cc bytes : ByteArray} {maxL maxL' : Nat} {ret ret' : Option FieldType} {e : Env} {s s₁ : State} {m : MethodId} {args : Array Value} {below : List Frame} {meth : Method} {c : Code} {hh : List (Nat × Nat × Nat × Nat)}
    (B : BodyLoose p l y S cc maxL ret e s m args below meth c s₁) (h : (Cond.codeWith y bytes maxL' ret' hh).before args s = true) : c.exceptionTable.toList = tableOf hh := by
  obtain ⟨m9, meth9, c9, hn9, h1, h2, -, -, h6, -⟩ := Cond.codeWith_spec h
  cases Option.some.inj (hn9.symm.trans B.named)
  cases Option.some.inj (h1.symm.trans B.method)
  cases Option.some.inj (h2.symm.trans (Stand.of_body B).code)
  rw [← h6, table_eq]
end Bodies
end VXA
/-! ===== END ===== -/
/-! ===== BEGIN a static call of a method with an exception table ===== -/
section VXS
variable {p : Program} {l : Launch} {e : Env} {R : Room} {s : State} {m : MethodId} {args : Array Value} {below : List Frame} {meth : Method} {c : Code} {T : State} {H : Heap} {locs : List Loc} {cells slots : Nat}
abbrev vx_CSW (R : Room) (s : State) (args : Array Value) (own : String) (index : Nat) (y : MethodName) (bytes : ByteArray) (maxL : Nat) (ret : Option FieldType) (hh : List (Nat × Nat × Nat × Nat)) (ws : List Cond) (rm : Room) (mc ms n : Nat) : Prop :=
  (rm.cells = mc ∧ rm.slots = ms ∧ rm.frames + 1 ≤ R.frames ∧ 8 + (maxL + 11) + rm.locals ≤ R.locals ∧ (∀ w ∈ ws, ∀ (a' : Array Value) (U : State), s.WarmedH U.vm → w.before a' U = true) ∧ Cond.codeWith y bytes maxL ret hh ∈ ws) ∧
  (Cond.codeWith y bytes maxL ret hh).before args s = true ∧ (Cond.initialized y.cls).before args s = true ∧ (y.cls ≠ "java/lang/invoke/MethodHandle" ∧ y.cls ≠ "java/lang/invoke/VarHandle") ∧
  (∀ sig, parseMethodDescriptor y.desc = some sig → n = sig.parameters.length) ∧ (Cond.methodLink own index y).before args s = true ∧ (Cond.static y).before args s = true
theorem vx_cwSW {own : String} {index maxL mc ms : Nat} {y : MethodName} {bytes : ByteArray} {ret : Option FieldType} {hh : List (Nat × Nat × Nat × Nat)} {Ts ws ws' : List Cond} {rm : Room} (n : Nat) (ht : ∀ w ∈ Ts, w.before args s = true) (hT : GoodIn Ts (va_wsS own index y ws)) (hw : ws = Cond.codeWith y bytes maxL ret hh :: ws') (hrc : rm.cells = mc) (hrs : rm.slots = ms)
    (hd : y.cls ≠ "java/lang/invoke/MethodHandle" ∧ y.cls ≠ "java/lang/invoke/VarHandle" ∧ (parseMethodDescriptor y.desc).map (fun d => d.parameters.length) = some n) (hR : rm.frames + 1 ≤ R.frames ∧ 8 + (maxL + 11) + rm.locals ≤ R.locals) :
    vx_CSW R s args own index y bytes maxL ret hh ws rm mc ms n := by
  have ok : ∀ w ∈ va_wsS own index y ws, w.before args s = true := fun w h => ht w (hT w h).1
  have hG : GoodIn Ts ws := fun w h => hT w (by unfold va_wsS; exact List.mem_append_right _ h)
  have hc : Cond.codeWith y bytes maxL ret hh ∈ ws := by rw [hw]; exact List.mem_cons_self
  refine ⟨⟨hrc, hrs, hR.1, hR.2, pay_in ht hG, hc⟩, ht _ (hG _ hc).1, ok _ (by simp [va_wsS]), ⟨hd.1, hd.2.1⟩, fun sig h => ?_, ok _ (by simp [va_wsS]), ok _ (by simp [va_wsS])⟩
  have h2 := hd.2.2
  rw [h] at h2
  exact (Option.some.inj h2).symm
theorem vx_callSW (X : Stand p l e R s m args below meth c T locs cells slots) (hexec : p.tables.exec = Jvm.exec) {own : String} {index : Nat} {y : MethodName} {bytes : ByteArray} {maxL : Nat} {ret : Option FieldType} {hh : List (Nat × Nat × Nat × Nat)}
    (hown : s.vm.findClass own = some m.cls) (hlink : (Cond.methodLink own index y).before args s = true) (hstat : (Cond.static y).before args s = true) (hinit : (Cond.initialized y.cls).before args s = true)
    (hcode : (Cond.codeWith y bytes maxL ret hh).before args s = true) (hy : y.cls ≠ "java/lang/invoke/MethodHandle" ∧ y.cls ≠ "java/lang/invoke/VarHandle")
    {W9 : Nat} {Pre : Pt → Array Value → Prop} {Post : Pt → Array Value → Option Value → Pt → Prop} (hK : Back l R p e below s args y 3 W9 Pre Post)
    {g : JFrame} (hg : g.method = m) (hsize : g.locals.size = c.maxLocals) {argsL rest : List Value} (hlen : ∀ sig, parseMethodDescriptor y.desc = some sig → argsL.length = sig.parameters.length)
    (hstack : g.stack = argsL.reverse ++ rest) (hW : 2 * g.monitorRoom + (rest.map fun v => v.category).sum ≤ W9) (hdg : decode c.code g.pc = .ok (.invokestatic index, 3))
    (hpre : ∀ vm₁, s.WarmedH vm₁ → Pre ⟨T.setVm vm₁, locs, cells, slots⟩ argsL.toArray) :
    ∃ (v : Option Value) (vm₁ : Vm) (B : Pt), s.WarmedH vm₁ ∧ Stand p l e R s m args below meth c B.U B.locs B.cells B.slots ∧ Post ⟨T.setVm vm₁, locs, cells, slots⟩ argsL.toArray v B ∧
      ∀ target, Steps p.tables e below (B.U.setTop { g with pc := g.pc + 3, stack := v.toList ++ rest }) target → Steps p.tables e below (T.setTop g) target := by
  obtain ⟨mk, methM, cM, hnamed, hmethM, -, -, -, -, -, -, hsigM⟩ := Cond.codeWith_spec hcode
  have hstatic : methM.isStatic = true := Cond.static_spec hnamed hmethM hstat
  obtain ⟨kP, hkP, -⟩ := className_of_methodNamed hnamed
  have hinitP : kP.init = .initialized := Cond.initialized_spec (findClass_of_methodNamed hnamed) hkP hinit
  obtain ⟨vm₁, X₁, hstep₁⟩ := X.invokestatic hexec hown hlink hnamed hmethM hstatic hkP hinitP hy (g := g) hg (argsL := argsL) (rest := rest) (hlen _ hsigM) hstack hdg
  obtain ⟨v, B, X', hpost, hsteps⟩ := hK m meth c ⟨T.setVm vm₁, locs, cells, slots⟩ { g with stack := rest } (.invokestatic index) mk argsL.toArray X₁ hg hsize hdg hW (X₁.named hnamed) (hpre vm₁ X₁.warmed)
  exact ⟨v, vm₁, B, X₁.warmed, X', hpost, fun target h => hstep₁ _ fun acts => by rw [doInvoke_state]; exact hsteps.trans h⟩
theorem vx_runSW {y : MethodName} {bytes cc : ByteArray} {maxL nL mc ms n index : Nat} {ret : Option FieldType} {hh : List (Nat × Nat × Nat × Nat)} {ws : List Cond} {rm : Room} {Pc : Array Value → State → Prop} {Qc : Array Value → State → Outcome → State → Prop} {free : Addr → Prop} {Ts : List Cond} {own : String} {As rest : List Value} {g : JFrame}
    (S : CallFix p m c cc nL s args Ts own) (hM : Met l y ws rm Pc Qc mc ms free) (cw : vx_CSW R s args own index y bytes maxL ret hh ws rm mc ms n) (hp : PreS s H Pc As)
    (hg : g.method = m) (hn : As.length = n) (hsize : g.locals.size = nL) (hstack : g.stack = As.reverse ++ rest) (hW : 2 * g.monitorRoom + (rest.map fun v => v.category).sum ≤ 8) (hdg : decode cc g.pc = .ok (.invokestatic index, 3)) (hf : cells + mc ≤ R.cells ∧ slots + ms ≤ R.slots) :
    va_Run p l e R s m args below meth c H locs cells slots mc ms g rest (Qc As.toArray) (free) := by
  obtain ⟨⟨hrc, hrs, hfr, hlo, hws, hcw⟩, hcode, hini, hy, hlen, hl, hstt⟩ := cw
  have hK : Back l R p e below s args y 3 8 (PreOf R mc ms Pc) (PostOf Qc mc ms free) := va_backW (hh := hh) (bytes := bytes) (maxL := maxL) (ret := ret) hM hp.1 hrc hrs hfr hlo hws hcw (fun a' U hW => word_at hW (Or.inl (by first | rfl | simp [Cond.onTables, Cond.keeps, Cond.steady])) hini)
  obtain ⟨hx, hb, hml, ho, -⟩ := S
  intro T hT X
  obtain ⟨v, vm₁, ⟨U', l2, c2, s2⟩, hW₁, X', ⟨g', mk, t, L, e1, e2, hq, h1, hL, h2, h3⟩, st⟩ := vx_callSW X hx (hh := hh) (bytes := bytes) (maxL := maxL) (ret := ret) ho hl hstt hini hcode hy hK hg (hsize.trans hml.symm) (argsL := As) (rest := rest) (fun sig h => hn.trans (hlen sig h)) hstack hW (by rw [hb]; exact hdg)
    (fun vm₁ hW₁ => ⟨hf.1, hf.2, hp.2 (T.setVm vm₁) hT hW₁⟩)
  dsimp only [Pt.U, Pt.locs, Pt.cells, Pt.slots] at X' e1 e2 h1 h2 h3 st
  subst h1; subst h2; subst h3
  exact ⟨v, (T.setVm vm₁).calling g' mk As.toArray, t, U', L, hT, X', hL, e1, e2, hq, st⟩
/-- a thing of a world lies in the heap -/
theorem vx_lt {D : va_G} {cl : List vw_C} {ws : va_W} {H1 : Heap} (h : va_P D cl ws H1) {k : Nat} {q : Nat × va_E} (hk : ws[k]? = some q) : q.1 < H1.size := (h k q hk).lt
end VXS
/-! ===== END ===== -/
/-! ===== BEGIN methods with a table of their own: called by a name, returning or throwing ===== -/
section VXH
/-! vx_backW, vx_callVX, vx_callSX, vx_callVW, vx_runVW, vx_runVX, vx_runSX, vx_ofWH follow the same proofs as their sisters above (Free/Laws.lean, Shelf42/LK1.lean); vx_outP calls Shelf42/NT130.lean (outThrough). -/
section
variable {l : Launch} {R : Room} {p : Program} {e : Env} {below : List Frame} {s : State} {sargs : Array Value} {y : MethodName} {len W9 : Nat}
theorem vx_backW {ws : List Cond} {rm : Room} {Pc : Array Value → State → Prop} {Qc : Array Value → State → Outcome → State → Prop} {XC : String → State → State → Prop} {mc ms : Nat} {free : Addr → Prop} {bytes : ByteArray} {maxL : Nat} {ret : Option FieldType} {hh : List (Nat × Nat × Nat × Nat)}
    (hM : vx_Met l y ws rm Pc Qc XC mc ms free) (hblind : FrameBlind Pc) (hrc : rm.cells = mc) (hrs : rm.slots = ms)
    (hframes : rm.frames + 1 ≤ R.frames) (hlocals : W9 + (maxL + 11) + rm.locals ≤ R.locals)
    (hws : ∀ w ∈ ws, ∀ a' U, s.WarmedH U.vm → w.before a' U = true) (hcode : Cond.codeWith y bytes maxL ret hh ∈ ws) (hinit : ∀ a' U, s.WarmedH U.vm → (Cond.initialized y.cls).before a' U = true) :
    vx_Back l R p e below s sargs y len W9 (PreOf R mc ms Pc) (PostOf Qc mc ms free) (vx_Post XC mc ms free) := by
  intro m meth c A g ig mk a X hg hsize hdg hW hn hp
  have h1 : (headSpec ws rm).pre.before a A.U = true := atoms_intro fun w hw => hws w hw _ _ X.warmed
  have h2 : (Cond.codeWith y bytes maxL ret hh).before a A.U = true := hws _ hcode _ _ X.warmed
  have h3 : (Cond.initialized y.cls).before a A.U = true := hinit _ _ X.warmed
  have h4 : A.cells + (headSpec ws rm).room.cells ≤ R.cells := by rw [show (headSpec ws rm).room.cells = mc from hrc]; exact hp.1
  have h5 : A.slots + (headSpec ws rm).room.slots ≤ R.slots := by rw [show (headSpec ws rm).room.slots = ms from hrs]; exact hp.2.1
  have hPc : Pc a (A.U.calling g mk a) := hblind _ _ _ _ hp.2.2
  obtain ⟨U, Ls, c0, s0⟩ := A
  dsimp only [Pt.U, Pt.locs, Pt.cells, Pt.slots] at h1 h2 h3 h4 h5 X hn hPc ⊢
  obtain ⟨m9, methY, cY, hn9, hmY, hcY, -, hlY, -⟩ := Cond.codeWith_spec h2
  cases Option.some.inj (hn9.symm.trans hn)
  obtain ⟨kY, hkY, -⟩ := className_of_methodNamed hn
  have hinitY : kY.init = .initialized := Cond.initialized_spec (findClass_of_methodNamed hn) hkY h3
  have h : At U g.method c below := by rw [hg]; exact X.here
  have hlocals9 : W9 + (maxL + 11) + (headSpec ws rm).room.locals ≤ R.locals := hlocals
  have happ : (headSpec ws rm).appliesLoose y e.platform (U.calling g mk a) = true :=
    Spec.appliesLoose_calling (g := g) h hdg hn hkY hinitY
      (X.room_calling (g := g) (R' := (headSpec ws rm).room) hsize hmY hcY hframes (by rw [hlY]; omega) h4 h5) h1
  obtain ⟨mid, hmid⟩ := h.above
  have hfr : (U.setTop g).frames = (.java g :: mid) ++ below := by rw [State.frames_setTop' g h.top, hmid]; rfl
  obtain ⟨o, s₂, hsteps, -, hend, hq⟩ := Steps.callFree hM p X.admits X.cas X.clock (acts := []) hfr happ hPc trivial
  have hq' : vx_Q Qc XC mc ms free a (U.calling g mk a) o s₂ := hq
  rw [State.frames_setTop' g h.top] at hend
  obtain ⟨g₀, hg0⟩ := Option.isSome_iff_exists.mp h.top
  obtain ⟨r, hr⟩ := State.topJava?_eq_some.mp hg0
  have hr' : (({ U with heap := s₂.heap, slotsUsed := s₂.slotsUsed } : State).setVm s₂.vm).frames = .java g₀ :: r := hr
  rcases hq' with ⟨hqc, L, hfe, hL⟩ | ⟨q, rfl, E, ce, L, hx, hce, hcv, hcl, hW₂, hsm, hL⟩
  · obtain ⟨⟨v, rfl⟩, hW₂, e2, q2, q3, q4, q5, q6⟩ := id hfe
    have e3 : s₂ = ({ (U.calling g mk a).setFrames s₂.frames with heap := s₂.heap, slotsUsed := s₂.slotsUsed } : State).setVm s₂.vm := by
      have : s₂ = ({ s₂ with vm := (U.calling g mk a).vm } : State).setVm s₂.vm := rfl
      rw [e2] at this
      exact this
    obtain ⟨c₂, i₂, len₂, hc₂, hd₂, hf₂⟩ := hend
    have hW' : U.WarmedH s₂.vm := hW₂
    have hcc : c₂ = c := by
      have h1 : s₂.code? g.method = U.code? g.method := by
        rw [State.code?_eq, State.code?_eq, hW'.alike.method?]
      exact Option.some.inj (hc₂.symm.trans (h1.trans h.code))
    subst hcc
    have hlen : len₂ = len := by rw [hdg] at hd₂; cases hd₂; rfl
    subst hlen
    have hs₂ : s₂ = (({ U with heap := s₂.heap, slotsUsed := s₂.slotsUsed } : State).setVm s₂.vm).setTop { g with pc := g.pc + len₂, stack := v.toList ++ g.stack } := by
      refine e3.trans ?_
      rw [hf₂, State.calling_eq h.top, State.setFrames_setFrames, State.setTop_of_frames _ hr', hr]
      rfl
    have hsame : U.sameButNew ({ U with heap := s₂.heap, slotsUsed := s₂.slotsUsed } : State) L mc ms := by
      refine ⟨?_, q2, q3, q4, q5, q6⟩
      obtain ⟨t, ht, -⟩ := State.frames_cons hr
      show ({ U with heap := s₂.heap, slotsUsed := s₂.slotsUsed } : State) = { U.setFrames U.frames with heap := s₂.heap, slotsUsed := s₂.slotsUsed }
      rw [State.setFrames_self ht]
    subst hg
    refine Or.inl ⟨v, ⟨(({ U with heap := s₂.heap, slotsUsed := s₂.slotsUsed } : State).setVm s₂.vm), Ls ++ L, c0 + mc, s0 + ms⟩,
      ⟨X.admits, X.cas, X.clock, X.frames, X.room, X.hears, X.method, X.code, (X.here.setHeapUsed s₂.heap s₂.slotsUsed).setVm hW'.alike, X.tail, State.WarmedH.trans X.warmed hW', X.limits, X.bytes, X.same.trans (hsame.setVm s.vm)⟩,
      ⟨g, mk, s₂, L, rfl, rfl, hqc, rfl, hL, rfl, rfl⟩, ?_⟩
    show Steps p.tables e below _ ((({ U with heap := s₂.heap, slotsUsed := s₂.slotsUsed } : State).setVm s₂.vm).setTop { g with pc := g.pc + len₂, stack := v.toList ++ g.stack })
    rw [← hs₂]
    exact hsteps
  · obtain ⟨e2, q2, q3, q4, q5, q6⟩ := id hsm
    have e3 : s₂ = ({ (U.calling g mk a).setFrames s₂.frames with heap := s₂.heap, slotsUsed := s₂.slotsUsed } : State).setVm s₂.vm := by
      have : s₂ = ({ s₂ with vm := (U.calling g mk a).vm } : State).setVm s₂.vm := rfl
      rw [e2] at this
      exact this
    have hf₂ : s₂.frames = .throwing q :: .java g :: U.frames.tail := hend
    have hW' : U.WarmedH s₂.vm := hW₂
    have hs₂ : s₂ = ((({ U with heap := s₂.heap, slotsUsed := s₂.slotsUsed } : State).setVm s₂.vm).setTop g).pushFrame (.throwing q) := by
      refine e3.trans ?_
      rw [hf₂, State.calling_eq h.top, State.setFrames_setFrames, State.pushFrame, State.frames_setTop _ hr', State.setTop_of_frames _ hr', State.setFrames_setFrames, hr]
      rfl
    have hsame : U.sameButNew ({ U with heap := s₂.heap, slotsUsed := s₂.slotsUsed } : State) L mc ms := by
      refine ⟨?_, q2, q3, q4, q5, q6⟩
      obtain ⟨t, ht, -⟩ := State.frames_cons hr
      show ({ U with heap := s₂.heap, slotsUsed := s₂.slotsUsed } : State) = { U.setFrames U.frames with heap := s₂.heap, slotsUsed := s₂.slotsUsed }
      rw [State.setFrames_self ht]
    subst hg
    refine Or.inr ⟨q, ⟨(({ U with heap := s₂.heap, slotsUsed := s₂.slotsUsed } : State).setVm s₂.vm), Ls ++ L, c0 + mc, s0 + ms⟩,
      ⟨X.admits, X.cas, X.clock, X.frames, X.room, X.hears, X.method, X.code, (X.here.setHeapUsed s₂.heap s₂.slotsUsed).setVm hW'.alike, X.tail, State.WarmedH.trans X.warmed hW', X.limits, X.bytes, X.same.trans (hsame.setVm s.vm)⟩,
      ⟨g, mk, s₂, L, E, ce, rfl, rfl, hx, hce, hcv, hcl, rfl, hL, rfl, rfl⟩, ?_⟩
    show Steps p.tables e below _ (((({ U with heap := s₂.heap, slotsUsed := s₂.slotsUsed } : State).setVm s₂.vm).setTop g).pushFrame (.throwing q))
    rw [← hs₂]
    exact hsteps
end
variable {p : Program} {l : Launch} {e : Env} {R : Room} {s : State} {m : MethodId} {args : Array Value} {below : List Frame} {meth : Method} {c : Code} {T : State} {H : Heap} {locs : List Loc} {cells slots : Nat}
theorem vx_callVX (X : Stand p l e R s m args below meth c T locs cells slots) (hexec : p.tables.exec = Jvm.exec) {own C : String} {index : Nat} {y : MethodName} {bytes : ByteArray} {maxL : Nat} {ret : Option FieldType} {hh : List (Nat × Nat × Nat × Nat)}
    (hown : s.vm.findClass own = some m.cls) (hlink : (Cond.methodLink own index y).before args s = true) (hinst : (Cond.instanceMethod y).before args s = true) (hsel : (Cond.selects C y y).before args s = true)
    (hcode : (Cond.codeWith y bytes maxL ret hh).before args s = true) (hy : y.cls ≠ "java/lang/invoke/MethodHandle" ∧ y.cls ≠ "java/lang/invoke/VarHandle")
    {W9 : Nat} {Pre : Pt → Array Value → Prop} {Post : Pt → Array Value → Option Value → Pt → Prop} {PostX : Pt → Array Value → Addr → Pt → Prop} (hK : vx_Back l R p e below s args y 3 W9 Pre Post PostX)
    {b : Addr} {cellB : Cell} (hcell : T.heap[b]? = some cellB) (hobj : cellB.vm.isStatics = false) (hcls : s.vm.findClass C = some cellB.cls)
    {g : JFrame} (hg : g.method = m) (hsize : g.locals.size = c.maxLocals) {argsL rest : List Value} (hlen : ∀ sig, parseMethodDescriptor y.desc = some sig → argsL.length = sig.parameters.length)
    (hstack : g.stack = argsL.reverse ++ .ref b :: rest) (hW : 2 * g.monitorRoom + (rest.map fun v => v.category).sum ≤ W9) (hdg : decode c.code g.pc = .ok (.invokevirtual index, 3))
    (hpre : ∀ vm₁, s.WarmedH vm₁ → Pre ⟨T.setVm vm₁, locs, cells, slots⟩ (Value.ref b :: argsL).toArray) :
    (∃ (v : Option Value) (vm₁ : Vm) (B : Pt), s.WarmedH vm₁ ∧ Stand p l e R s m args below meth c B.U B.locs B.cells B.slots ∧ Post ⟨T.setVm vm₁, locs, cells, slots⟩ (Value.ref b :: argsL).toArray v B ∧
      ∀ target, Steps p.tables e below (B.U.setTop { g with pc := g.pc + 3, stack := v.toList ++ rest }) target → Steps p.tables e below (T.setTop g) target) ∨
    (∃ (q : Addr) (vm₁ : Vm) (B : Pt), s.WarmedH vm₁ ∧ Stand p l e R s m args below meth c B.U B.locs B.cells B.slots ∧ PostX ⟨T.setVm vm₁, locs, cells, slots⟩ (Value.ref b :: argsL).toArray q B ∧
      Steps p.tables e below (T.setTop g) ((B.U.setTop { g with stack := rest }).pushFrame (.throwing q))) := by
  obtain ⟨mk, methM, hnamed, hmethM, hstM, habM⟩ := Cond.instanceMethod_spec hinst
  obtain ⟨m8, methM', cM, hn8, hmethM', -, -, -, -, -, -, hsigM⟩ := Cond.codeWith_spec hcode
  cases Option.some.inj (hn8.symm.trans hnamed)
  cases hmethM.symm.trans hmethM'
  obtain ⟨c2, r2, m2, q1, q2, q3, q4, kP, hkP, hkPi⟩ := Cond.selects_spec hsel
  cases hcls.symm.trans q1
  cases (State.methodFound?_of_named hnamed hy).symm.trans q2
  cases hnamed.symm.trans q3
  have hselP : selectMethod e.platform s.vm cellB.cls mk = .method mk := by rw [Launch.admits_selectMethod X.admits]; exact q4
  obtain ⟨vm₁, X₁, hstep₁⟩ := X.invokevirtual hexec hown hlink hnamed hmethM hstM hkP hkPi hy (a := b) (cell := cellB) hcell
    (fun z h => by rw [h] at hobj; cases hobj) hselP hmethM habM hkP hkPi (g := g) hg (argsL := argsL) (rest := rest) (hlen _ hsigM) hstack hdg
  rcases hK m meth c ⟨T.setVm vm₁, locs, cells, slots⟩ { g with stack := rest } (.invokevirtual index) mk (Value.ref b :: argsL).toArray X₁ hg hsize hdg hW (X₁.named hnamed) (hpre vm₁ X₁.warmed) with ⟨v, B, X', hpost, hsteps⟩ | ⟨q, B, X', hpost, hsteps⟩
  · exact Or.inl ⟨v, vm₁, B, X₁.warmed, X', hpost, fun target h => hstep₁ _ fun acts => by rw [doInvoke_state]; exact hsteps.trans h⟩
  · exact Or.inr ⟨q, vm₁, B, X₁.warmed, X', hpost, hstep₁ _ fun acts => by rw [doInvoke_state]; exact hsteps⟩
theorem vx_callSX (X : Stand p l e R s m args below meth c T locs cells slots) (hexec : p.tables.exec = Jvm.exec) {own : String} {index : Nat} {y : MethodName} {bytes : ByteArray} {maxL : Nat} {ret : Option FieldType} {hh : List (Nat × Nat × Nat × Nat)}
    (hown : s.vm.findClass own = some m.cls) (hlink : (Cond.methodLink own index y).before args s = true) (hstat : (Cond.static y).before args s = true) (hinit : (Cond.initialized y.cls).before args s = true)
    (hcode : (Cond.codeWith y bytes maxL ret hh).before args s = true) (hy : y.cls ≠ "java/lang/invoke/MethodHandle" ∧ y.cls ≠ "java/lang/invoke/VarHandle")
    {W9 : Nat} {Pre : Pt → Array Value → Prop} {Post : Pt → Array Value → Option Value → Pt → Prop} {PostX : Pt → Array Value → Addr → Pt → Prop} (hK : vx_Back l R p e below s args y 3 W9 Pre Post PostX)
    {g : JFrame} (hg : g.method = m) (hsize : g.locals.size = c.maxLocals) {argsL rest : List Value} (hlen : ∀ sig, parseMethodDescriptor y.desc = some sig → argsL.length = sig.parameters.length)
    (hstack : g.stack = argsL.reverse ++ rest) (hW : 2 * g.monitorRoom + (rest.map fun v => v.category).sum ≤ W9) (hdg : decode c.code g.pc = .ok (.invokestatic index, 3))
    (hpre : ∀ vm₁, s.WarmedH vm₁ → Pre ⟨T.setVm vm₁, locs, cells, slots⟩ argsL.toArray) :
    (∃ (v : Option Value) (vm₁ : Vm) (B : Pt), s.WarmedH vm₁ ∧ Stand p l e R s m args below meth c B.U B.locs B.cells B.slots ∧ Post ⟨T.setVm vm₁, locs, cells, slots⟩ argsL.toArray v B ∧
      ∀ target, Steps p.tables e below (B.U.setTop { g with pc := g.pc + 3, stack := v.toList ++ rest }) target → Steps p.tables e below (T.setTop g) target) ∨
    (∃ (q : Addr) (vm₁ : Vm) (B : Pt), s.WarmedH vm₁ ∧ Stand p l e R s m args below meth c B.U B.locs B.cells B.slots ∧ PostX ⟨T.setVm vm₁, locs, cells, slots⟩ argsL.toArray q B ∧
      Steps p.tables e below (T.setTop g) ((B.U.setTop { g with stack := rest }).pushFrame (.throwing q))) := by
  obtain ⟨mk, methM, cM, hnamed, hmethM, -, -, -, -, -, -, hsigM⟩ := Cond.codeWith_spec hcode
  have hstatic : methM.isStatic = true := Cond.static_spec hnamed hmethM hstat
  obtain ⟨kP, hkP, -⟩ := className_of_methodNamed hnamed
  have hinitP : kP.init = .initialized := Cond.initialized_spec (findClass_of_methodNamed hnamed) hkP hinit
  obtain ⟨vm₁, X₁, hstep₁⟩ := X.invokestatic hexec hown hlink hnamed hmethM hstatic hkP hinitP hy (g := g) hg (argsL := argsL) (rest := rest) (hlen _ hsigM) hstack hdg
  rcases hK m meth c ⟨T.setVm vm₁, locs, cells, slots⟩ { g with stack := rest } (.invokestatic index) mk argsL.toArray X₁ hg hsize hdg hW (X₁.named hnamed) (hpre vm₁ X₁.warmed) with ⟨v, B, X', hpost, hsteps⟩ | ⟨q, B, X', hpost, hsteps⟩
  · exact Or.inl ⟨v, vm₁, B, X₁.warmed, X', hpost, fun target h => hstep₁ _ fun acts => by rw [doInvoke_state]; exact hsteps.trans h⟩
  · exact Or.inr ⟨q, vm₁, B, X₁.warmed, X', hpost, hstep₁ _ fun acts => by rw [doInvoke_state]; exact hsteps⟩
theorem vx_callVW (X : Stand p l e R s m args below meth c T locs cells slots) (hexec : p.tables.exec = Jvm.exec) {own C : String} {index : Nat} {y : MethodName} {bytes : ByteArray} {maxL : Nat} {ret : Option FieldType} {hh : List (Nat × Nat × Nat × Nat)}
    (hown : s.vm.findClass own = some m.cls) (hlink : (Cond.methodLink own index y).before args s = true) (hinst : (Cond.instanceMethod y).before args s = true) (hsel : (Cond.selects C y y).before args s = true)
    (hcode : (Cond.codeWith y bytes maxL ret hh).before args s = true) (hy : y.cls ≠ "java/lang/invoke/MethodHandle" ∧ y.cls ≠ "java/lang/invoke/VarHandle")
    {W9 : Nat} {Pre : Pt → Array Value → Prop} {Post : Pt → Array Value → Option Value → Pt → Prop} (hK : Back l R p e below s args y 3 W9 Pre Post)
    {b : Addr} {cellB : Cell} (hcell : T.heap[b]? = some cellB) (hobj : cellB.vm.isStatics = false) (hcls : s.vm.findClass C = some cellB.cls)
    {g : JFrame} (hg : g.method = m) (hsize : g.locals.size = c.maxLocals) {argsL rest : List Value} (hlen : ∀ sig, parseMethodDescriptor y.desc = some sig → argsL.length = sig.parameters.length)
    (hstack : g.stack = argsL.reverse ++ .ref b :: rest) (hW : 2 * g.monitorRoom + (rest.map fun v => v.category).sum ≤ W9) (hdg : decode c.code g.pc = .ok (.invokevirtual index, 3))
    (hpre : ∀ vm₁, s.WarmedH vm₁ → Pre ⟨T.setVm vm₁, locs, cells, slots⟩ (Value.ref b :: argsL).toArray) :
    ∃ (v : Option Value) (vm₁ : Vm) (B : Pt), s.WarmedH vm₁ ∧ Stand p l e R s m args below meth c B.U B.locs B.cells B.slots ∧ Post ⟨T.setVm vm₁, locs, cells, slots⟩ (Value.ref b :: argsL).toArray v B ∧
      ∀ target, Steps p.tables e below (B.U.setTop { g with pc := g.pc + 3, stack := v.toList ++ rest }) target → Steps p.tables e below (T.setTop g) target := by
  obtain ⟨mk, methM, hnamed, hmethM, hstM, habM⟩ := Cond.instanceMethod_spec hinst
  obtain ⟨m8, methM', cM, hn8, hmethM', -, -, -, -, -, -, hsigM⟩ := Cond.codeWith_spec hcode
  cases Option.some.inj (hn8.symm.trans hnamed)
  cases hmethM.symm.trans hmethM'
  obtain ⟨c2, r2, m2, q1, q2, q3, q4, kP, hkP, hkPi⟩ := Cond.selects_spec hsel
  cases hcls.symm.trans q1
  cases (State.methodFound?_of_named hnamed hy).symm.trans q2
  cases hnamed.symm.trans q3
  have hselP : selectMethod e.platform s.vm cellB.cls mk = .method mk := by rw [Launch.admits_selectMethod X.admits]; exact q4
  obtain ⟨vm₁, X₁, hstep₁⟩ := X.invokevirtual hexec hown hlink hnamed hmethM hstM hkP hkPi hy (a := b) (cell := cellB) hcell
    (fun z h => by rw [h] at hobj; cases hobj) hselP hmethM habM hkP hkPi (g := g) hg (argsL := argsL) (rest := rest) (hlen _ hsigM) hstack hdg
  obtain ⟨v, B, X', hpost, hsteps⟩ := hK m meth c ⟨T.setVm vm₁, locs, cells, slots⟩ { g with stack := rest } (.invokevirtual index) mk (Value.ref b :: argsL).toArray X₁ hg hsize hdg hW (X₁.named hnamed) (hpre vm₁ X₁.warmed)
  exact ⟨v, vm₁, B, X₁.warmed, X', hpost, fun target h => hstep₁ _ fun acts => by rw [doInvoke_state]; exact hsteps.trans h⟩
abbrev vx_CVW (R : Room) (s : State) (args : Array Value) (own C : String) (index : Nat) (y : MethodName) (bytes : ByteArray) (maxL : Nat) (ret : Option FieldType) (hh : List (Nat × Nat × Nat × Nat)) (ws : List Cond) (rm : Room) (mc ms n : Nat) : Prop :=
  (rm.cells = mc ∧ rm.slots = ms ∧ rm.frames + 1 ≤ R.frames ∧ 8 + (maxL + 11) + rm.locals ≤ R.locals ∧ (∀ w ∈ ws, ∀ (a' : Array Value) (U : State), s.WarmedH U.vm → w.before a' U = true) ∧ Cond.codeWith y bytes maxL ret hh ∈ ws) ∧
  (Cond.codeWith y bytes maxL ret hh).before args s = true ∧ (Cond.initialized y.cls).before args s = true ∧ (y.cls ≠ "java/lang/invoke/MethodHandle" ∧ y.cls ≠ "java/lang/invoke/VarHandle") ∧
  (∀ sig, parseMethodDescriptor y.desc = some sig → n = sig.parameters.length) ∧ (Cond.methodLink own index y).before args s = true ∧ (Cond.instanceMethod y).before args s = true ∧ (Cond.selects C y y).before args s = true
theorem vx_cwVW {own C : String} {index maxL mc ms : Nat} {y : MethodName} {bytes : ByteArray} {ret : Option FieldType} {hh : List (Nat × Nat × Nat × Nat)} {Ts ws ws' : List Cond} {rm : Room} (n : Nat) (ht : ∀ w ∈ Ts, w.before args s = true) (hT : GoodIn Ts (wsV own index C y ws)) (hw : ws = Cond.codeWith y bytes maxL ret hh :: ws') (hrc : rm.cells = mc) (hrs : rm.slots = ms)
    (hd : y.cls = C ∧ y.cls ≠ "java/lang/invoke/MethodHandle" ∧ y.cls ≠ "java/lang/invoke/VarHandle" ∧ (parseMethodDescriptor y.desc).map (fun d => d.parameters.length) = some n) (hR : rm.frames + 1 ≤ R.frames ∧ 8 + (maxL + 11) + rm.locals ≤ R.locals) :
    vx_CVW R s args own C index y bytes maxL ret hh ws rm mc ms n := by
  obtain ⟨hC, hd⟩ := hd
  subst hC
  have ok : ∀ w ∈ wsV own index y.cls y ws, w.before args s = true := fun w h => ht w (hT w h).1
  have hG : GoodIn Ts ws := fun w h => hT w (by unfold wsV; exact List.mem_append_right _ h)
  have hc : Cond.codeWith y bytes maxL ret hh ∈ ws := by rw [hw]; exact List.mem_cons_self
  refine ⟨⟨hrc, hrs, hR.1, hR.2, pay_in ht hG, hc⟩, ht _ (hG _ hc).1, ok _ (by simp [wsV]), ⟨hd.1, hd.2.1⟩, fun sig h => ?_, ok _ (by simp [wsV]), ok _ (by simp [wsV]), ok _ (by simp [wsV])⟩
  have h2 := hd.2.2
  rw [h] at h2
  exact (Option.some.inj h2).symm
theorem vx_runVW {y : MethodName} {bytes cc : ByteArray} {maxL nL mc ms n index : Nat} {ret : Option FieldType} {hh : List (Nat × Nat × Nat × Nat)} {ws : List Cond} {rm : Room} {Pc : Array Value → State → Prop} {Qc : Array Value → State → Outcome → State → Prop} {free : Addr → Prop} {Ts : List Cond} {own C : String} {b : Addr} {As rest : List Value} {g : JFrame}
    (S : CallFix p m c cc nL s args Ts own) (hM : Met l y ws rm Pc Qc mc ms free) (cw : vx_CVW R s args own C index y bytes maxL ret hh ws rm mc ms n) (hp : PreV s H C b Pc As)
    (hg : g.method = m) (hn : As.length = n) (hsize : g.locals.size = nL) (hstack : g.stack = As.reverse ++ .ref b :: rest) (hW : 2 * g.monitorRoom + (rest.map fun v => v.category).sum ≤ 8) (hdg : decode cc g.pc = .ok (.invokevirtual index, 3)) (hf : cells + mc ≤ R.cells ∧ slots + ms ≤ R.slots) :
    va_Run p l e R s m args below meth c H locs cells slots mc ms g rest (Qc (Value.ref b :: As).toArray) free := by
  obtain ⟨⟨hrc, hrs, hfr, hlo, hws, hcw⟩, hcode, hini, hy, hlen, hl, hin, hse⟩ := cw
  have hK : Back l R p e below s args y 3 8 (PreOf R mc ms Pc) (PostOf Qc mc ms free) := va_backW (hh := hh) (bytes := bytes) (maxL := maxL) (ret := ret) hM hp.1 hrc hrs hfr hlo hws hcw (fun a' U hW => word_at hW (Or.inl (by first | rfl | simp [Cond.onTables, Cond.keeps, Cond.steady])) hini)
  obtain ⟨hx, hb, hml, ho, -⟩ := S
  obtain ⟨-, ⟨cellB, hcB, hoB, hclB⟩, hPc⟩ := hp
  intro T hT X
  obtain ⟨v, vm₁, ⟨U', l2, c2, s2⟩, hW₁, X', ⟨g', mk, t, L, e1, e2, hq, h1, hL, h2, h3⟩, st⟩ := vx_callVW X hx (C := C) (hh := hh) (bytes := bytes) (maxL := maxL) (ret := ret) ho hl hin hse hcode hy hK (by rw [hT]; exact hcB) hoB hclB hg (hsize.trans hml.symm) (argsL := As) (rest := rest) (fun sig h => hn.trans (hlen sig h)) hstack hW (by rw [hb]; exact hdg)
    (fun vm₁ hW₁ => ⟨hf.1, hf.2, hPc (T.setVm vm₁) hT hW₁⟩)
  dsimp only [Pt.U, Pt.locs, Pt.cells, Pt.slots] at X' e1 e2 h1 h2 h3 st
  subst h1; subst h2; subst h3
  exact ⟨v, (T.setVm vm₁).calling g' mk (Value.ref b :: As).toArray, t, U', L, hT, X', hL, e1, e2, hq, st⟩
section
variable {y : MethodName} {bytes cc : ByteArray} {maxL nL mc ms n index : Nat} {ret : Option FieldType} {ws : List Cond} {rm : Room} {Pc : Array Value → State → Prop} {Qc : Array Value → State → Outcome → State → Prop} {XC : String → State → State → Prop} {free : Addr → Prop} {Ts : List Cond} {own C : String} {b : Addr} {As rest : List Value} {g : JFrame}
theorem vx_runVX {hh : List (Nat × Nat × Nat × Nat)} (S : CallFix p m c cc nL s args Ts own) (hM : vx_Met l y ws rm Pc Qc XC mc ms free) (cw : vx_CVW R s args own C index y bytes maxL ret hh ws rm mc ms n) (hp : PreV s H C b Pc As)
    (hg : g.method = m) (hn : As.length = n) (hsize : g.locals.size = nL) (hstack : g.stack = As.reverse ++ .ref b :: rest) (hW : 2 * g.monitorRoom + (rest.map fun v => v.category).sum ≤ 8) (hdg : decode cc g.pc = .ok (.invokevirtual index, 3)) (hf : cells + mc ≤ R.cells ∧ slots + ms ≤ R.slots) :
    vx_Run p l e R s m args below meth c H locs cells slots mc ms g rest (Qc (Value.ref b :: As).toArray) XC free := by
  obtain ⟨⟨hrc, hrs, hfr, hlo, hws, hcw⟩, hcode, hini, hy, hlen, hl, hin, hse⟩ := cw
  have hK : vx_Back l R p e below s args y 3 8 (PreOf R mc ms Pc) (PostOf Qc mc ms free) (vx_Post XC mc ms free) := vx_backW (hh := hh) (bytes := bytes) (maxL := maxL) (ret := ret) hM hp.1 hrc hrs hfr hlo hws hcw (fun a' U hW => word_at hW (Or.inl (by first | rfl | simp [Cond.onTables, Cond.keeps, Cond.steady])) hini)
  obtain ⟨hx, hb, hml, ho, -⟩ := S
  obtain ⟨-, ⟨cellB, hcB, hoB, hclB⟩, hPc⟩ := hp
  intro T hT X
  rcases vx_callVX X hx (C := C) (hh := hh) (bytes := bytes) (maxL := maxL) (ret := ret) ho hl hin hse hcode hy hK (by rw [hT]; exact hcB) hoB hclB hg (hsize.trans hml.symm) (argsL := As) (rest := rest) (fun sig h => hn.trans (hlen sig h)) hstack hW (by rw [hb]; exact hdg)
    (fun vm₁ hW₁ => ⟨hf.1, hf.2, hPc (T.setVm vm₁) hT hW₁⟩) with ⟨v, vm₁, ⟨U', l2, c2, s2⟩, hW₁, X', ⟨g', mk, t, L, e1, e2, hq, h1, hL, h2, h3⟩, st⟩ | ⟨q, vm₁, ⟨U', l2, c2, s2⟩, hW₁, X', ⟨g', mk, t, L, E, ce, e1, e2, hq, hce, hcv, hcl, h1, hL, h2, h3⟩, st⟩
  · dsimp only [Pt.U, Pt.locs, Pt.cells, Pt.slots] at X' e1 e2 h1 h2 h3 st
    subst h1; subst h2; subst h3
    exact Or.inl ⟨v, (T.setVm vm₁).calling g' mk (Value.ref b :: As).toArray, t, U', L, hT, X', hL, e1, e2, hq, st⟩
  · dsimp only [Pt.U, Pt.locs, Pt.cells, Pt.slots] at X' e1 e2 h1 h2 h3 st hcl
    subst h1; subst h2; subst h3
    exact Or.inr ⟨q, (T.setVm vm₁).calling g' mk (Value.ref b :: As).toArray, t, U', L, E, ce, hT, X', hL, e1, e2, hq, hce, hcv, vx_cls hW₁ hcl, st⟩
theorem vx_runSX {hh : List (Nat × Nat × Nat × Nat)} (S : CallFix p m c cc nL s args Ts own) (hM : vx_Met l y ws rm Pc Qc XC mc ms free) (cw : vx_CSW R s args own index y bytes maxL ret hh ws rm mc ms n) (hp : PreS s H Pc As)
    (hg : g.method = m) (hn : As.length = n) (hsize : g.locals.size = nL) (hstack : g.stack = As.reverse ++ rest) (hW : 2 * g.monitorRoom + (rest.map fun v => v.category).sum ≤ 8) (hdg : decode cc g.pc = .ok (.invokestatic index, 3)) (hf : cells + mc ≤ R.cells ∧ slots + ms ≤ R.slots) :
    vx_Run p l e R s m args below meth c H locs cells slots mc ms g rest (Qc As.toArray) XC free := by
  obtain ⟨⟨hrc, hrs, hfr, hlo, hws, hcw⟩, hcode, hini, hy, hlen, hl, hstt⟩ := cw
  have hK : vx_Back l R p e below s args y 3 8 (PreOf R mc ms Pc) (PostOf Qc mc ms free) (vx_Post XC mc ms free) := vx_backW (hh := hh) (bytes := bytes) (maxL := maxL) (ret := ret) hM hp.1 hrc hrs hfr hlo hws hcw (fun a' U hW => word_at hW (Or.inl (by first | rfl | simp [Cond.onTables, Cond.keeps, Cond.steady])) hini)
  obtain ⟨hx, hb, hml, ho, -⟩ := S
  intro T hT X
  rcases vx_callSX X hx (hh := hh) (bytes := bytes) (maxL := maxL) (ret := ret) ho hl hstt hini hcode hy hK hg (hsize.trans hml.symm) (argsL := As) (rest := rest) (fun sig h => hn.trans (hlen sig h)) hstack hW (by rw [hb]; exact hdg)
    (fun vm₁ hW₁ => ⟨hf.1, hf.2, hp.2 (T.setVm vm₁) hT hW₁⟩) with ⟨v, vm₁, ⟨U', l2, c2, s2⟩, hW₁, X', ⟨g', mk, t, L, e1, e2, hq, h1, hL, h2, h3⟩, st⟩ | ⟨q, vm₁, ⟨U', l2, c2, s2⟩, hW₁, X', ⟨g', mk, t, L, E, ce, e1, e2, hq, hce, hcv, hcl, h1, hL, h2, h3⟩, st⟩
  · dsimp only [Pt.U, Pt.locs, Pt.cells, Pt.slots] at X' e1 e2 h1 h2 h3 st
    subst h1; subst h2; subst h3
    exact Or.inl ⟨v, (T.setVm vm₁).calling g' mk As.toArray, t, U', L, hT, X', hL, e1, e2, hq, st⟩
  · dsimp only [Pt.U, Pt.locs, Pt.cells, Pt.slots] at X' e1 e2 h1 h2 h3 st hcl
    subst h1; subst h2; subst h3
    exact Or.inr ⟨q, (T.setVm vm₁).calling g' mk As.toArray, t, U', L, E, ce, hT, X', hL, e1, e2, hq, hce, hcv, vx_cls hW₁ hcl, st⟩
end
end VXH
theorem vx_ofWH {l : Launch} {y : MethodName} {ws ws' : List Cond} {rm : Room} {Pc : Array Value → State → Prop} {Qc : Array Value → State → Outcome → State → Prop} {XC : String → State → State → Prop} {mc ms : Nat} {free : Addr → Prop} {cc : ByteArray} {maxL : Nat} {ret : Option FieldType} {hh : List (Nat × Nat × Nat × Nat)}
    (hy : plainName y.cls = true) (hw : ws = Cond.codeWith y cc maxL ret hh :: ws')
    (body : ∀ p e s m args below meth c s₁, BodyLoose p l y (headSpec ws rm) cc maxL ret e s m args below meth c s₁ → c.maxLocals = maxL → Pc args s →
      W p l e (headSpec ws rm).room s m args below meth c s.heap [] 0 0 (vx_MQ below Qc XC args s mc ms free) (entryFrame m args maxL)) : vx_Met l y ws rm Pc Qc XC mc ms free := by
  refine MetFree.of_bodyS (code := cc) (maxLocals := maxL) (ret := ret) hy ?_ ?_
  · intro args s m h hn
    obtain ⟨m9, meth, c, hn9, h1, h2, h3, h4, -, h5, h6, -⟩ := Cond.codeWith_spec (atoms_spec (ws := ws) h _ (by rw [hw]; exact List.mem_cons_self))
    cases hn.symm.trans hn9
    exact ⟨meth, c, h1, h2, h3, h4, h5, h6⟩
  · intro p e s m args below meth c s₁ B hml hP _
    have hh0 : s₁.heap = s.heap := by rw [B.state]; rfl
    obtain ⟨t, a1, o, b1, b2, b3⟩ := body p e s m args below meth c s₁ B hml hP s₁ hh0 (Stand.of_body B)
    exact ⟨t, o, a1, b1, b2, b3⟩
/-! ===== END ===== -/
end
section
/-! ===== BEGIN printed: names, fields, word lists, decode rows ===== -/
def RX0 : String := "MarkDesk$Kind"
def TX0 : u_T := fun k => match k with
  | _ => ("", "", "", false)
def tyX0 : Nat → FieldType := fun k => match k with
  | _ => .int
abbrev wsX00 : List Cond := u_ws RX0 TX0 0
theorem nmX0 : ∀ a, a < 0 → ∀ b, b < 0 → a ≠ b → (TX0 a).2.1 ≠ (TX0 b).2.1 := by decide +kernel
theorem tyX0_ok : ∀ k, k < 0 → parseFieldDescriptor (TX0 k).2.2.1 = some (tyX0 k) := by decide +kernel
def RX1 : String := "MarkDesk$KnownType"
def TX1 : u_T := fun k => match k with
  | 0 => ("MarkDesk$KnownType", "answer", "[I", true)
  | 1 => ("MarkDesk$KnownType", "parts", "[I", true)
  | 2 => ("MarkDesk$KnownType", "waiting", "[I", true)
  | 3 => ("MarkDesk$KnownType", "root", "I", false)
  | _ => ("MarkDesk$KnownType", "letters", "I", false)
def tyX1 : Nat → FieldType := fun k => match k with
  | 0 => .array .int
  | 1 => .array .int
  | 2 => .array .int
  | 3 => .int
  | _ => .int
abbrev wsX10 : List Cond := u_ws RX1 TX1 5
theorem nmX1 : ∀ a, a < 5 → ∀ b, b < 5 → a ≠ b → (TX1 a).2.1 ≠ (TX1 b).2.1 := by decide +kernel
theorem tyX1_ok : ∀ k, k < 5 → parseFieldDescriptor (TX1 k).2.2.1 = some (tyX1 k) := by decide +kernel
abbrev cX1_init : ByteArray := prog_3_method_1_code
def yX1_init : MethodName := ⟨RX1, "<init>", "()V"⟩
abbrev cX1_keep : ByteArray := prog_3_method_2_code
def yX1_keep : MethodName := ⟨RX1, "keep", "(LMarkDesk$Types;I)V"⟩
abbrev cX1_at : ByteArray := prog_3_method_3_code
def yX1_at : MethodName := ⟨RX1, "at", "(I)I"⟩
abbrev cX1_keepNode : ByteArray := prog_3_method_4_code
def yX1_keepNode : MethodName := ⟨RX1, "keepNode", "(LMarkDesk$Types;II)I"⟩
def RX2 : String := "MarkDesk$Machine"
def TX2 : u_T := fun k => match k with
  | 0 => ("MarkDesk$Machine", "terms", "LMarkDesk$Terms;", true)
  | 1 => ("MarkDesk$Machine", "values", "LMarkDesk$Values;", true)
  | 2 => ("MarkDesk$Machine", "scopes", "LMarkDesk$Scopes;", true)
  | 3 => ("MarkDesk$Machine", "waitings", "LMarkDesk$Waitings;", true)
  | 4 => ("MarkDesk$Machine", "behindMarks", "[I", true)
  | 5 => ("MarkDesk$Machine", "marks", "I", false)
  | 6 => ("MarkDesk$Machine", "toDo", "I", false)
  | 7 => ("MarkDesk$Machine", "term", "I", false)
  | 8 => ("MarkDesk$Machine", "scope", "I", false)
  | 9 => ("MarkDesk$Machine", "given", "I", false)
  | 10 => ("MarkDesk$Machine", "end", "I", false)
  | 11 => ("MarkDesk$Machine", "fuelLeft", "I", false)
  | _ => ("MarkDesk$Machine", "stepsDone", "I", false)
def tyX2 : Nat → FieldType := fun k => match k with
  | 0 => .object "MarkDesk$Terms"
  | 1 => .object "MarkDesk$Values"
  | 2 => .object "MarkDesk$Scopes"
  | 3 => .object "MarkDesk$Waitings"
  | 4 => .array .int
  | 5 => .int
  | 6 => .int
  | 7 => .int
  | 8 => .int
  | 9 => .int
  | 10 => .int
  | 11 => .int
  | _ => .int
abbrev wsX20 : List Cond := u_ws RX2 TX2 13
theorem nmX2 : ∀ a, a < 13 → ∀ b, b < 13 → a ≠ b → (TX2 a).2.1 ≠ (TX2 b).2.1 := by decide +kernel
theorem tyX2_ok : ∀ k, k < 13 → parseFieldDescriptor (TX2 k).2.2.1 = some (tyX2 k) := by decide +kernel
abbrev cX2_init : ByteArray := prog_4_method_1_code
def yX2_init : MethodName := ⟨RX2, "<init>", "(LMarkDesk$Terms;)V"⟩
abbrev cX2_workOut : ByteArray := prog_4_method_2_code
def yX2_workOut : MethodName := ⟨RX2, "workOut", "(II)I"⟩
abbrev cX2_resultForm : ByteArray := prog_4_method_3_code
def yX2_resultForm : MethodName := ⟨RX2, "resultForm", "()I"⟩
abbrev cX2_plainResult : ByteArray := prog_4_method_4_code
def yX2_plainResult : MethodName := ⟨RX2, "plainResult", "()I"⟩
abbrev cX2_doRound : ByteArray := prog_4_method_5_code
def yX2_doRound : MethodName := ⟨RX2, "doRound", "()V"⟩
abbrev cX2_goTo : ByteArray := prog_4_method_6_code
def yX2_goTo : MethodName := ⟨RX2, "goTo", "(II)V"⟩
abbrev cX2_enterMark : ByteArray := prog_4_method_7_code
def yX2_enterMark : MethodName := ⟨RX2, "enterMark", "(I)V"⟩
abbrev cX2_leaveMark : ByteArray := prog_4_method_8_code
def yX2_leaveMark : MethodName := ⟨RX2, "leaveMark", "()V"⟩
abbrev cX2_beginTerm : ByteArray := prog_4_method_9_code
def yX2_beginTerm : MethodName := ⟨RX2, "beginTerm", "()V"⟩
abbrev cX2_bringValue : ByteArray := prog_4_method_10_code
def yX2_bringValue : MethodName := ⟨RX2, "bringValue", "()V"⟩
abbrev cX2_choose : ByteArray := prog_4_method_11_code
def yX2_choose : MethodName := ⟨RX2, "choose", "(II)V"⟩
abbrev cX2_callWith : ByteArray := prog_4_method_12_code
def yX2_callWith : MethodName := ⟨RX2, "callWith", "(II)V"⟩
abbrev cX2_joinNumbers : ByteArray := prog_4_method_13_code
def yX2_joinNumbers : MethodName := ⟨RX2, "joinNumbers", "(III)V"⟩
def RX3 : String := "MarkDesk$Scopes"
def TX3 : u_T := fun k => match k with
  | 0 => ("MarkDesk$Scopes", "bound", "[I", true)
  | 1 => ("MarkDesk$Scopes", "outer", "[I", true)
  | _ => ("MarkDesk$Scopes", "used", "I", false)
def tyX3 : Nat → FieldType := fun k => match k with
  | 0 => .array .int
  | 1 => .array .int
  | _ => .int
abbrev wsX30 : List Cond := u_ws RX3 TX3 3
theorem nmX3 : ∀ a, a < 3 → ∀ b, b < 3 → a ≠ b → (TX3 a).2.1 ≠ (TX3 b).2.1 := by decide +kernel
theorem tyX3_ok : ∀ k, k < 3 → parseFieldDescriptor (TX3 k).2.2.1 = some (tyX3 k) := by decide +kernel
abbrev cX3_init : ByteArray := prog_5_method_1_code
def yX3_init : MethodName := ⟨RX3, "<init>", "()V"⟩
abbrev cX3_clear : ByteArray := prog_5_method_2_code
def yX3_clear : MethodName := ⟨RX3, "clear", "()V"⟩
abbrev cX3_bind : ByteArray := prog_5_method_3_code
def yX3_bind : MethodName := ⟨RX3, "bind", "(II)I"⟩
abbrev cX3_look : ByteArray := prog_5_method_4_code
def yX3_look : MethodName := ⟨RX3, "look", "(II)I"⟩
def RX4 : String := "MarkDesk$Terms"
def TX4 : u_T := fun k => match k with
  | 0 => ("MarkDesk$Terms", "kind", "[I", true)
  | 1 => ("MarkDesk$Terms", "first", "[I", true)
  | 2 => ("MarkDesk$Terms", "second", "[I", true)
  | 3 => ("MarkDesk$Terms", "third", "[I", true)
  | 4 => ("MarkDesk$Terms", "needed", "[I", true)
  | 5 => ("MarkDesk$Terms", "height", "[I", true)
  | 6 => ("MarkDesk$Terms", "size", "[I", true)
  | _ => ("MarkDesk$Terms", "used", "I", false)
def tyX4 : Nat → FieldType := fun k => match k with
  | 0 => .array .int
  | 1 => .array .int
  | 2 => .array .int
  | 3 => .array .int
  | 4 => .array .int
  | 5 => .array .int
  | 6 => .array .int
  | _ => .int
abbrev wsX40 : List Cond := u_ws RX4 TX4 8
theorem nmX4 : ∀ a, a < 8 → ∀ b, b < 8 → a ≠ b → (TX4 a).2.1 ≠ (TX4 b).2.1 := by decide +kernel
theorem tyX4_ok : ∀ k, k < 8 → parseFieldDescriptor (TX4 k).2.2.1 = some (tyX4 k) := by decide +kernel
abbrev cX4_init : ByteArray := prog_6_method_1_code
def yX4_init : MethodName := ⟨RX4, "<init>", "()V"⟩
abbrev cX4_has : ByteArray := prog_6_method_2_code
def yX4_has : MethodName := ⟨RX4, "has", "(I)Z"⟩
abbrev cX4_hasClosed : ByteArray := prog_6_method_3_code
def yX4_hasClosed : MethodName := ⟨RX4, "hasClosed", "(I)Z"⟩
abbrev cX4_wordsFit : ByteArray := prog_6_method_4_code
def yX4_wordsFit : MethodName := ⟨RX4, "wordsFit", "(IIII)Z"⟩
abbrev cX4_hasRoomFor : ByteArray := prog_6_method_5_code
def yX4_hasRoomFor : MethodName := ⟨RX4, "hasRoomFor", "(IIII)Z"⟩
abbrev cX4_add : ByteArray := prog_6_method_6_code
def yX4_add : MethodName := ⟨RX4, "add", "(IIII)I"⟩
abbrev cX4_heightOver : ByteArray := prog_6_method_7_code
def yX4_heightOver : MethodName := ⟨RX4, "heightOver", "(IIII)I"⟩
abbrev cX4_sizeOver : ByteArray := prog_6_method_8_code
def yX4_sizeOver : MethodName := ⟨RX4, "sizeOver", "(IIII)I"⟩
abbrev cX4_neededOver : ByteArray := prog_6_method_9_code
def yX4_neededOver : MethodName := ⟨RX4, "neededOver", "(IIII)I"⟩
def RX5 : String := "MarkDesk$Types"
def TX5 : u_T := fun k => match k with
  | 0 => ("MarkDesk$Types", "form", "[I", true)
  | 1 => ("MarkDesk$Types", "sameAs", "[I", true)
  | 2 => ("MarkDesk$Types", "parts", "[I", true)
  | 3 => ("MarkDesk$Types", "pairs", "[I", true)
  | 4 => ("MarkDesk$Types", "progress", "[I", true)
  | 5 => ("MarkDesk$Types", "partsSeen", "[I", true)
  | 6 => ("MarkDesk$Types", "path", "[I", true)
  | 7 => ("MarkDesk$Types", "used", "I", false)
  | _ => ("MarkDesk$Types", "pending", "I", false)
def tyX5 : Nat → FieldType := fun k => match k with
  | 0 => .array .int
  | 1 => .array .int
  | 2 => .array .int
  | 3 => .array .int
  | 4 => .array .int
  | 5 => .array .int
  | 6 => .array .int
  | 7 => .int
  | _ => .int
abbrev wsX50 : List Cond := u_ws RX5 TX5 9
theorem nmX5 : ∀ a, a < 9 → ∀ b, b < 9 → a ≠ b → (TX5 a).2.1 ≠ (TX5 b).2.1 := by decide +kernel
theorem tyX5_ok : ∀ k, k < 9 → parseFieldDescriptor (TX5 k).2.2.1 = some (tyX5 k) := by decide +kernel
abbrev cX5_init : ByteArray := prog_7_method_1_code
def yX5_init : MethodName := ⟨RX5, "<init>", "()V"⟩
abbrev cX5_clear : ByteArray := prog_7_method_2_code
def yX5_clear : MethodName := ⟨RX5, "clear", "()V"⟩
abbrev cX5_letter : ByteArray := prog_7_method_3_code
def yX5_letter : MethodName := ⟨RX5, "letter", "()I"⟩
abbrev cX5_function : ByteArray := prog_7_method_4_code
def yX5_function : MethodName := ⟨RX5, "function", "(IIII)I"⟩
abbrev cX5_chosen : ByteArray := prog_7_method_5_code
def yX5_chosen : MethodName := ⟨RX5, "chosen", "(I)I"⟩
abbrev cX5_chosenPart : ByteArray := prog_7_method_6_code
def yX5_chosenPart : MethodName := ⟨RX5, "chosenPart", "(II)I"⟩
abbrev cX5_makeSame : ByteArray := prog_7_method_7_code
def yX5_makeSame : MethodName := ⟨RX5, "makeSame", "(II)Z"⟩
abbrev cX5_noneContainsItself : ByteArray := prog_7_method_8_code
def yX5_noneContainsItself : MethodName := ⟨RX5, "noneContainsItself", "()Z"⟩
abbrev cX5_addNode : ByteArray := prog_7_method_9_code
def yX5_addNode : MethodName := ⟨RX5, "addNode", "(I)I"⟩
abbrev cX5_addPair : ByteArray := prog_7_method_10_code
def yX5_addPair : MethodName := ⟨RX5, "addPair", "(II)V"⟩
abbrev cX5_join : ByteArray := prog_7_method_11_code
def yX5_join : MethodName := ⟨RX5, "join", "(II)Z"⟩
abbrev cX5_endsEverywhere : ByteArray := prog_7_method_12_code
def yX5_endsEverywhere : MethodName := ⟨RX5, "endsEverywhere", "(I)Z"⟩
def RX6 : String := "MarkDesk$Typing"
def TX6 : u_T := fun k => match k with
  | 0 => ("MarkDesk$Typing", "terms", "LMarkDesk$Terms;", true)
  | 1 => ("MarkDesk$Typing", "types", "LMarkDesk$Types;", true)
  | 2 => ("MarkDesk$Typing", "boundType", "[I", true)
  | 3 => ("MarkDesk$Typing", "pieceGives", "[I", true)
  | _ => ("MarkDesk$Typing", "bound", "I", false)
def tyX6 : Nat → FieldType := fun k => match k with
  | 0 => .object "MarkDesk$Terms"
  | 1 => .object "MarkDesk$Types"
  | 2 => .array .int
  | 3 => .array .int
  | _ => .int
abbrev wsX60 : List Cond := u_ws RX6 TX6 5
theorem nmX6 : ∀ a, a < 5 → ∀ b, b < 5 → a ≠ b → (TX6 a).2.1 ≠ (TX6 b).2.1 := by decide +kernel
theorem tyX6_ok : ∀ k, k < 5 → parseFieldDescriptor (TX6 k).2.2.1 = some (tyX6 k) := by decide +kernel
abbrev cX6_init : ByteArray := prog_8_method_1_code
def yX6_init : MethodName := ⟨RX6, "<init>", "(LMarkDesk$Terms;)V"⟩
abbrev cX6_typeOfWhole : ByteArray := prog_8_method_2_code
def yX6_typeOfWhole : MethodName := ⟨RX6, "typeOfWhole", "(I)I"⟩
abbrev cX6_holds : ByteArray := prog_8_method_3_code
def yX6_holds : MethodName := ⟨RX6, "holds", "(IIIII)Z"⟩
abbrev cX6_typeOfVariable : ByteArray := prog_8_method_4_code
def yX6_typeOfVariable : MethodName := ⟨RX6, "typeOfVariable", "(I)I"⟩
abbrev cX6_bind : ByteArray := prog_8_method_5_code
def yX6_bind : MethodName := ⟨RX6, "bind", "(II)V"⟩
abbrev cX6_functionHolds : ByteArray := prog_8_method_6_code
def yX6_functionHolds : MethodName := ⟨RX6, "functionHolds", "(III)Z"⟩
abbrev cX6_callHolds : ByteArray := prog_8_method_7_code
def yX6_callHolds : MethodName := ⟨RX6, "callHolds", "(IIIII)Z"⟩
abbrev cX6_numbersHold : ByteArray := prog_8_method_8_code
def yX6_numbersHold : MethodName := ⟨RX6, "numbersHold", "(IIII)Z"⟩
abbrev cX6_ifHolds : ByteArray := prog_8_method_9_code
def yX6_ifHolds : MethodName := ⟨RX6, "ifHolds", "(IIIII)Z"⟩
abbrev cX6_letHolds : ByteArray := prog_8_method_10_code
def yX6_letHolds : MethodName := ⟨RX6, "letHolds", "(IIIII)Z"⟩
abbrev cX6_takeHolds : ByteArray := prog_8_method_11_code
def yX6_takeHolds : MethodName := ⟨RX6, "takeHolds", "(IIIII)Z"⟩
abbrev cX6_wholeHolds : ByteArray := prog_8_method_12_code
def yX6_wholeHolds : MethodName := ⟨RX6, "wholeHolds", "(III)Z"⟩
def RX7 : String := "MarkDesk$Values"
def TX7 : u_T := fun k => match k with
  | 0 => ("MarkDesk$Values", "form", "[I", true)
  | 1 => ("MarkDesk$Values", "content", "[I", true)
  | 2 => ("MarkDesk$Values", "scope", "[I", true)
  | _ => ("MarkDesk$Values", "used", "I", false)
def tyX7 : Nat → FieldType := fun k => match k with
  | 0 => .array .int
  | 1 => .array .int
  | 2 => .array .int
  | _ => .int
abbrev wsX70 : List Cond := u_ws RX7 TX7 4
theorem nmX7 : ∀ a, a < 4 → ∀ b, b < 4 → a ≠ b → (TX7 a).2.1 ≠ (TX7 b).2.1 := by decide +kernel
theorem tyX7_ok : ∀ k, k < 4 → parseFieldDescriptor (TX7 k).2.2.1 = some (tyX7 k) := by decide +kernel
abbrev cX7_init : ByteArray := prog_9_method_1_code
def yX7_init : MethodName := ⟨RX7, "<init>", "()V"⟩
abbrev cX7_clear : ByteArray := prog_9_method_2_code
def yX7_clear : MethodName := ⟨RX7, "clear", "()V"⟩
abbrev cX7_add : ByteArray := prog_9_method_3_code
def yX7_add : MethodName := ⟨RX7, "add", "(III)I"⟩
def RX8 : String := "MarkDesk$Waitings"
def TX8 : u_T := fun k => match k with
  | 0 => ("MarkDesk$Waitings", "term", "[I", true)
  | 1 => ("MarkDesk$Waitings", "scope", "[I", true)
  | 2 => ("MarkDesk$Waitings", "held", "[I", true)
  | 3 => ("MarkDesk$Waitings", "next", "[I", true)
  | _ => ("MarkDesk$Waitings", "used", "I", false)
def tyX8 : Nat → FieldType := fun k => match k with
  | 0 => .array .int
  | 1 => .array .int
  | 2 => .array .int
  | 3 => .array .int
  | _ => .int
abbrev wsX80 : List Cond := u_ws RX8 TX8 5
theorem nmX8 : ∀ a, a < 5 → ∀ b, b < 5 → a ≠ b → (TX8 a).2.1 ≠ (TX8 b).2.1 := by decide +kernel
theorem tyX8_ok : ∀ k, k < 5 → parseFieldDescriptor (TX8 k).2.2.1 = some (tyX8 k) := by decide +kernel
abbrev cX8_init : ByteArray := prog_10_method_1_code
def yX8_init : MethodName := ⟨RX8, "<init>", "()V"⟩
abbrev cX8_clear : ByteArray := prog_10_method_2_code
def yX8_clear : MethodName := ⟨RX8, "clear", "()V"⟩
abbrev cX8_add : ByteArray := prog_10_method_3_code
def yX8_add : MethodName := ⟨RX8, "add", "(IIII)I"⟩
def RX9 : String := "MarkDesk"
def TX9 : u_T := fun k => match k with
  | 0 => ("MarkDesk", "terms", "LMarkDesk$Terms;", true)
  | 1 => ("MarkDesk", "machine", "LMarkDesk$Machine;", true)
  | 2 => ("MarkDesk", "typing", "LMarkDesk$Typing;", true)
  | 3 => ("MarkDesk", "latestType", "LMarkDesk$KnownType;", true)
  | 4 => ("MarkDesk", "latestValue", "I", false)
  | 5 => ("MarkDesk", "latestSteps", "I", false)
  | 6 => ("MarkDesk", "allSteps", "J", false)
  | 7 => ("MarkDesk", "valuesFound", "I", false)
  | 8 => ("MarkDesk", "stuckTerms", "I", false)
  | 9 => ("MarkDesk", "neededMore", "I", false)
  | 10 => ("MarkDesk", "typesFound", "I", false)
  | _ => ("MarkDesk", "typesMissing", "I", false)
def tyX9 : Nat → FieldType := fun k => match k with
  | 0 => .object "MarkDesk$Terms"
  | 1 => .object "MarkDesk$Machine"
  | 2 => .object "MarkDesk$Typing"
  | 3 => .object "MarkDesk$KnownType"
  | 4 => .int
  | 5 => .int
  | 6 => .long
  | 7 => .int
  | 8 => .int
  | 9 => .int
  | 10 => .int
  | _ => .int
abbrev wsX90 : List Cond := u_ws RX9 TX9 12
theorem nmX9 : ∀ a, a < 12 → ∀ b, b < 12 → a ≠ b → (TX9 a).2.1 ≠ (TX9 b).2.1 := by decide +kernel
theorem tyX9_ok : ∀ k, k < 12 → parseFieldDescriptor (TX9 k).2.2.1 = some (tyX9 k) := by decide +kernel
abbrev cX9_init : ByteArray := prog_1_method_1_code
def yX9_init : MethodName := ⟨RX9, "<init>", "()V"⟩
abbrev cX9_make : ByteArray := prog_1_method_2_code
def yX9_make : MethodName := ⟨RX9, "make", "(IIII)I"⟩
abbrev cX9_open : ByteArray := prog_1_method_3_code
def yX9_open : MethodName := ⟨RX9, "open", "(I)I"⟩
abbrev cX9_work : ByteArray := prog_1_method_4_code
def yX9_work : MethodName := ⟨RX9, "work", "(II)I"⟩
abbrev cX9_value : ByteArray := prog_1_method_5_code
def yX9_value : MethodName := ⟨RX9, "value", "()I"⟩
abbrev cX9_steps : ByteArray := prog_1_method_6_code
def yX9_steps : MethodName := ⟨RX9, "steps", "()I"⟩
abbrev cX9_type : ByteArray := prog_1_method_7_code
def yX9_type : MethodName := ⟨RX9, "type", "(I)I"⟩
abbrev cX9_part : ByteArray := prog_1_method_8_code
def yX9_part : MethodName := ⟨RX9, "part", "(I)I"⟩
abbrev cX9_count : ByteArray := prog_1_method_9_code
def yX9_count : MethodName := ⟨RX9, "count", "(I)I"⟩
abbrev cX9_mean : ByteArray := prog_1_method_10_code
def yX9_mean : MethodName := ⟨RX9, "mean", "()F"⟩
abbrev cX9_keepValue : ByteArray := prog_1_method_11_code
def yX9_keepValue : MethodName := ⟨RX9, "keepValue", "()I"⟩
def RX10 : String := "MarkDeskModel"
def TX10 : u_T := fun k => match k with
  | 0 => ("MarkDeskModel", "thrown", "I", false)
  | 1 => ("MarkDeskModel", "terms", "I", false)
  | 2 => ("MarkDeskModel", "kind", "[I", true)
  | 3 => ("MarkDeskModel", "wordA", "[I", true)
  | 4 => ("MarkDeskModel", "wordB", "[I", true)
  | 5 => ("MarkDeskModel", "wordC", "[I", true)
  | 6 => ("MarkDeskModel", "height", "[I", true)
  | 7 => ("MarkDeskModel", "size", "[I", true)
  | 8 => ("MarkDeskModel", "need", "[I", true)
  | 9 => ("MarkDeskModel", "bounds", "I", false)
  | 10 => ("MarkDeskModel", "boundKind", "[I", true)
  | 11 => ("MarkDeskModel", "boundWord", "[I", true)
  | 12 => ("MarkDeskModel", "boundNext", "[I", true)
  | 13 => ("MarkDeskModel", "functions", "I", false)
  | 14 => ("MarkDeskModel", "functionTerm", "[I", true)
  | 15 => ("MarkDeskModel", "functionBound", "[I", true)
  | 16 => ("MarkDeskModel", "tasks", "I", false)
  | 17 => ("MarkDeskModel", "taskKind", "[I", true)
  | 18 => ("MarkDeskModel", "taskTerm", "[I", true)
  | 19 => ("MarkDeskModel", "taskBound", "[I", true)
  | 20 => ("MarkDeskModel", "taskValue", "[I", true)
  | 21 => ("MarkDeskModel", "taskWord", "[I", true)
  | 22 => ("MarkDeskModel", "taskNext", "[I", true)
  | 23 => ("MarkDeskModel", "marks", "I", false)
  | 24 => ("MarkDeskModel", "mark", "[I", true)
  | 25 => ("MarkDeskModel", "now", "I", false)
  | 26 => ("MarkDeskModel", "given", "I", false)
  | 27 => ("MarkDeskModel", "word", "I", false)
  | 28 => ("MarkDeskModel", "taken", "I", false)
  | 29 => ("MarkDeskModel", "stuck", "Z", false)
  | 30 => ("MarkDeskModel", "latestKind", "I", false)
  | 31 => ("MarkDeskModel", "latestWord", "I", false)
  | 32 => ("MarkDeskModel", "latestSteps", "I", false)
  | 33 => ("MarkDeskModel", "found", "I", false)
  | 34 => ("MarkDeskModel", "stucks", "I", false)
  | 35 => ("MarkDeskModel", "mores", "I", false)
  | 36 => ("MarkDeskModel", "typed", "I", false)
  | 37 => ("MarkDeskModel", "untyped", "I", false)
  | 38 => ("MarkDeskModel", "allSteps", "I", false)
  | 39 => ("MarkDeskModel", "bank", "I", false)
  | 40 => ("MarkDeskModel", "cells", "I", false)
  | 41 => ("MarkDeskModel", "sort", "[I", true)
  | 42 => ("MarkDeskModel", "standsFor", "[I", true)
  | 43 => ("MarkDeskModel", "parts", "[I", true)
  | 44 => ("MarkDeskModel", "letter", "[I", true)
  | 45 => ("MarkDeskModel", "result", "I", false)
  | 46 => ("MarkDeskModel", "bad", "Z", false)
  | 47 => ("MarkDeskModel", "pile", "[I", true)
  | 48 => ("MarkDeskModel", "pairs", "[I", true)
  | 49 => ("MarkDeskModel", "seen", "[Z", true)
  | 50 => ("MarkDeskModel", "goals", "I", false)
  | 51 => ("MarkDeskModel", "goalTerm", "[I", true)
  | 52 => ("MarkDeskModel", "goalBound", "[I", true)
  | 53 => ("MarkDeskModel", "goalType", "[I", true)
  | 54 => ("MarkDeskModel", "goalFrom", "[I", true)
  | 55 => ("MarkDeskModel", "goalTo", "[I", true)
  | 56 => ("MarkDeskModel", "places", "I", false)
  | 57 => ("MarkDeskModel", "placeType", "[I", true)
  | 58 => ("MarkDeskModel", "placeFrom", "[I", true)
  | _ => ("MarkDeskModel", "placeNext", "[I", true)
def tyX10 : Nat → FieldType := fun k => match k with
  | 0 => .int
  | 1 => .int
  | 2 => .array .int
  | 3 => .array .int
  | 4 => .array .int
  | 5 => .array .int
  | 6 => .array .int
  | 7 => .array .int
  | 8 => .array .int
  | 9 => .int
  | 10 => .array .int
  | 11 => .array .int
  | 12 => .array .int
  | 13 => .int
  | 14 => .array .int
  | 15 => .array .int
  | 16 => .int
  | 17 => .array .int
  | 18 => .array .int
  | 19 => .array .int
  | 20 => .array .int
  | 21 => .array .int
  | 22 => .array .int
  | 23 => .int
  | 24 => .array .int
  | 25 => .int
  | 26 => .int
  | 27 => .int
  | 28 => .int
  | 29 => .boolean
  | 30 => .int
  | 31 => .int
  | 32 => .int
  | 33 => .int
  | 34 => .int
  | 35 => .int
  | 36 => .int
  | 37 => .int
  | 38 => .int
  | 39 => .int
  | 40 => .int
  | 41 => .array .int
  | 42 => .array .int
  | 43 => .array .int
  | 44 => .array .int
  | 45 => .int
  | 46 => .boolean
  | 47 => .array .int
  | 48 => .array .int
  | 49 => .array .boolean
  | 50 => .int
  | 51 => .array .int
  | 52 => .array .int
  | 53 => .array .int
  | 54 => .array .int
  | 55 => .array .int
  | 56 => .int
  | 57 => .array .int
  | 58 => .array .int
  | _ => .array .int
abbrev wsX100 : List Cond := u_ws RX10 TX10 60
theorem nmX10 : ∀ a, a < 60 → ∀ b, b < 60 → a ≠ b → (TX10 a).2.1 ≠ (TX10 b).2.1 := by decide +kernel
theorem tyX10_ok : ∀ k, k < 60 → parseFieldDescriptor (TX10 k).2.2.1 = some (tyX10 k) := by decide +kernel
abbrev cX10_init : ByteArray := prog_12_method_1_code
def yX10_init : MethodName := ⟨RX10, "<init>", "()V"⟩
abbrev cX10_thrown : ByteArray := prog_12_method_2_code
def yX10_thrown : MethodName := ⟨RX10, "thrown", "()I"⟩
abbrev cX10_fail : ByteArray := prog_12_method_3_code
def yX10_fail : MethodName := ⟨RX10, "fail", "(I)I"⟩
abbrev cX10_in : ByteArray := prog_12_method_4_code
def yX10_in : MethodName := ⟨RX10, "in", "(III)Z"⟩
abbrev cX10_greater : ByteArray := prog_12_method_5_code
def yX10_greater : MethodName := ⟨RX10, "greater", "(II)I"⟩
abbrev cX10_isTerm : ByteArray := prog_12_method_6_code
def yX10_isTerm : MethodName := ⟨RX10, "isTerm", "(I)Z"⟩
abbrev cX10_hasB : ByteArray := prog_12_method_7_code
def yX10_hasB : MethodName := ⟨RX10, "hasB", "(I)Z"⟩
abbrev cX10_hasA : ByteArray := prog_12_method_8_code
def yX10_hasA : MethodName := ⟨RX10, "hasA", "(I)Z"⟩
abbrev cX10_fits : ByteArray := prog_12_method_9_code
def yX10_fits : MethodName := ⟨RX10, "fits", "(IIII)Z"⟩
abbrev cX10_make : ByteArray := prog_12_method_10_code
def yX10_make : MethodName := ⟨RX10, "make", "(IIII)I"⟩
abbrev cX10_needs : ByteArray := prog_12_method_11_code
def yX10_needs : MethodName := ⟨RX10, "needs", "(IIII)I"⟩
abbrev cX10_open : ByteArray := prog_12_method_12_code
def yX10_open : MethodName := ⟨RX10, "open", "(I)I"⟩
abbrev cX10_bind : ByteArray := prog_12_method_13_code
def yX10_bind : MethodName := ⟨RX10, "bind", "(III)I"⟩
abbrev cX10_then : ByteArray := prog_12_method_14_code
def yX10_then : MethodName := ⟨RX10, "then", "(IIIII)V"⟩
abbrev cX10_give : ByteArray := prog_12_method_15_code
def yX10_give : MethodName := ⟨RX10, "give", "(II)V"⟩
abbrev cX10_closure : ByteArray := prog_12_method_16_code
def yX10_closure : MethodName := ⟨RX10, "closure", "(II)I"⟩
abbrev cX10_begin : ByteArray := prog_12_method_17_code
def yX10_begin : MethodName := ⟨RX10, "begin", "(II)I"⟩
abbrev cX10_call : ByteArray := prog_12_method_18_code
def yX10_call : MethodName := ⟨RX10, "call", "(II)I"⟩
abbrev cX10_goOn : ByteArray := prog_12_method_19_code
def yX10_goOn : MethodName := ⟨RX10, "goOn", "()I"⟩
abbrev cX10_run : ByteArray := prog_12_method_20_code
def yX10_run : MethodName := ⟨RX10, "run", "(II)I"⟩
abbrev cX10_work : ByteArray := prog_12_method_21_code
def yX10_work : MethodName := ⟨RX10, "work", "(II)I"⟩
abbrev cX10_value : ByteArray := prog_12_method_22_code
def yX10_value : MethodName := ⟨RX10, "value", "()I"⟩
abbrev cX10_steps : ByteArray := prog_12_method_23_code
def yX10_steps : MethodName := ⟨RX10, "steps", "()I"⟩
abbrev cX10_cell : ByteArray := prog_12_method_24_code
def yX10_cell : MethodName := ⟨RX10, "cell", "(I)I"⟩
abbrev cX10_letterCell : ByteArray := prog_12_method_25_code
def yX10_letterCell : MethodName := ⟨RX10, "letterCell", "()I"⟩
abbrev cX10_functionCell : ByteArray := prog_12_method_26_code
def yX10_functionCell : MethodName := ⟨RX10, "functionCell", "(IIII)I"⟩
abbrev cX10_end : ByteArray := prog_12_method_27_code
def yX10_end : MethodName := ⟨RX10, "end", "(I)I"⟩
abbrev cX10_contains : ByteArray := prog_12_method_28_code
def yX10_contains : MethodName := ⟨RX10, "contains", "(II)Z"⟩
abbrev cX10_equal : ByteArray := prog_12_method_29_code
def yX10_equal : MethodName := ⟨RX10, "equal", "(II)V"⟩
abbrev cX10_endless : ByteArray := prog_12_method_30_code
def yX10_endless : MethodName := ⟨RX10, "endless", "()Z"⟩
abbrev cX10_goal : ByteArray := prog_12_method_31_code
def yX10_goal : MethodName := ⟨RX10, "goal", "(IIIII)V"⟩
abbrev cX10_place : ByteArray := prog_12_method_32_code
def yX10_place : MethodName := ⟨RX10, "place", "(III)I"⟩
abbrev cX10_variable : ByteArray := prog_12_method_33_code
def yX10_variable : MethodName := ⟨RX10, "variable", "(III)V"⟩
abbrev cX10_function : ByteArray := prog_12_method_34_code
def yX10_function : MethodName := ⟨RX10, "function", "(IIII)V"⟩
abbrev cX10_solve : ByteArray := prog_12_method_35_code
def yX10_solve : MethodName := ⟨RX10, "solve", "()V"⟩
abbrev cX10_solveTwo : ByteArray := prog_12_method_36_code
def yX10_solveTwo : MethodName := ⟨RX10, "solveTwo", "(III)V"⟩
abbrev cX10_numberLetters : ByteArray := prog_12_method_37_code
def yX10_numberLetters : MethodName := ⟨RX10, "numberLetters", "(I)V"⟩
abbrev cX10_told : ByteArray := prog_12_method_38_code
def yX10_told : MethodName := ⟨RX10, "told", "(II)I"⟩
abbrev cX10_type : ByteArray := prog_12_method_39_code
def yX10_type : MethodName := ⟨RX10, "type", "(I)I"⟩
abbrev cX10_part : ByteArray := prog_12_method_40_code
def yX10_part : MethodName := ⟨RX10, "part", "(I)I"⟩
abbrev cX10_count : ByteArray := prog_12_method_41_code
def yX10_count : MethodName := ⟨RX10, "count", "(I)I"⟩
abbrev cX10_mean : ByteArray := prog_12_method_42_code
def yX10_mean : MethodName := ⟨RX10, "mean", "()F"⟩
def RJ9 : String := "java/lang/Math"
def TJ9 : u_T := fun k => match k with
  | _ => ("", "", "", false)
def tyJ9 : Nat → FieldType := fun k => match k with
  | _ => .int
abbrev wsJ90 : List Cond := u_ws RJ9 TJ9 0
theorem nmJ9 : ∀ a, a < 0 → ∀ b, b < 0 → a ≠ b → (TJ9 a).2.1 ≠ (TJ9 b).2.1 := by decide +kernel
theorem tyJ9_ok : ∀ k, k < 0 → parseFieldDescriptor (TJ9 k).2.2.1 = some (tyJ9 k) := by decide +kernel
abbrev cJ9_max_7cf53 : ByteArray := prog_17_method_65_code
def yJ9_max_7cf53 : MethodName := ⟨RJ9, "max", "(II)I"⟩
abbrev cJ9_min_7cf53 : ByteArray := prog_17_method_69_code
def yJ9_min_7cf53 : MethodName := ⟨RJ9, "min", "(II)I"⟩
def RJ7 : String := "java/util/Arrays"
def TJ7 : u_T := fun k => match k with
  | _ => ("", "", "", false)
def tyJ7 : Nat → FieldType := fun k => match k with
  | _ => .int
abbrev wsJ70 : List Cond := u_ws RJ7 TJ7 0
theorem nmJ7 : ∀ a, a < 0 → ∀ b, b < 0 → a ≠ b → (TJ7 a).2.1 ≠ (TJ7 b).2.1 := by decide +kernel
theorem tyJ7_ok : ∀ k, k < 0 → parseFieldDescriptor (TJ7 k).2.2.1 = some (tyJ7 k) := by decide +kernel
abbrev cJ7_fill_53178 : ByteArray := prog_20_method_103_code
def yJ7_fill_53178 : MethodName := ⟨RJ7, "fill", "([II)V"⟩
def RL : String := "MarkDeskLaw"
abbrev cL_make : ByteArray := method_3_code
def yL_make : MethodName := ⟨RL, "make", "(LMarkDesk;IIII[J)I"⟩
abbrev cL_open : ByteArray := method_4_code
def yL_open : MethodName := ⟨RL, "open", "(LMarkDesk;I[J)I"⟩
abbrev cL_work : ByteArray := method_5_code
def yL_work : MethodName := ⟨RL, "work", "(LMarkDesk;II[J)I"⟩
abbrev cL_type : ByteArray := method_6_code
def yL_type : MethodName := ⟨RL, "type", "(LMarkDesk;I[J)I"⟩
abbrev cL_law : ByteArray := code
def yL_law : MethodName := ⟨RL, "law", "([I)Z"⟩
def wsX1_init : List Cond := .code yX1_init cX1_init 1 none :: ([.methodLink RX1 3 objectInit, .instanceMethod objectInit, .code objectInit ⟨#[0xb1]⟩ 1 none, .arrayClass .int, .fieldLink RX1 11 "MarkDesk$KnownType" "answer" "[I", .fieldLink RX1 17 "MarkDesk$KnownType" "parts" "[I", .fieldLink RX1 22 "MarkDesk$KnownType" "waiting" "[I", .fieldLink RX1 25 "MarkDesk$KnownType" "root" "I"] ++ wsX10)
def wsX5_chosen : List Cond := .code yX5_chosen cX5_chosen 4 (some .int) :: ([.fieldLink RX5 35 "MarkDesk$Types" "used" "I", .fieldLink RX5 17 "MarkDesk$Types" "sameAs" "[I"] ++ wsX50)
def wsJ7_fill_53178 : List Cond := .code yJ7_fill_53178 cJ7_fill_53178 4 none :: ([])
def wsX5_chosenPart : List Cond := .code yX5_chosenPart cX5_chosenPart 3 (some .int) :: ([.fieldLink RX5 20 "MarkDesk$Types" "parts" "[I", .methodLink RX5 43 yX5_chosen, .instanceMethod yX5_chosen, .selects RX5 yX5_chosen yX5_chosen, .initialized RX5, .code yX5_chosen cX5_chosen 4 (some .int), .fieldLink RX5 35 "MarkDesk$Types" "used" "I", .fieldLink RX5 17 "MarkDesk$Types" "sameAs" "[I"] ++ wsX50)
def wsX1_keepNode : List Cond := .code yX1_keepNode cX1_keepNode 7 (some .int) :: ([.fieldLink RX1 11 "MarkDesk$KnownType" "answer" "[I", .fieldLink RX1 46 "MarkDesk$Types" "form" "[I", .fieldLink RX1 33 "MarkDesk$KnownType" "letters" "I", .fieldLink RX1 17 "MarkDesk$KnownType" "parts" "[I", .fieldLink RX1 22 "MarkDesk$KnownType" "waiting" "[I", .methodLink RX1 49 yX5_chosenPart, .instanceMethod yX5_chosenPart, .selects RX5 yX5_chosenPart yX5_chosenPart, .initialized RX5, .code yX5_chosenPart cX5_chosenPart 3 (some .int), .fieldLink RX5 20 "MarkDesk$Types" "parts" "[I", .methodLink RX5 43 yX5_chosen, .instanceMethod yX5_chosen, .selects RX5 yX5_chosen yX5_chosen, .code yX5_chosen cX5_chosen 4 (some .int), .fieldLink RX5 35 "MarkDesk$Types" "used" "I", .fieldLink RX5 17 "MarkDesk$Types" "sameAs" "[I"] ++ wsX10 ++ wsX50)
def wsX1_keep_r1 : List Cond := [Cond.fieldLink RX1 25 "MarkDesk$KnownType" "root" "I", Cond.fieldLink RX1 33 "MarkDesk$KnownType" "letters" "I", Cond.fieldLink RX1 11 "MarkDesk$KnownType" "answer" "[I", Cond.fieldLink RX1 22 "MarkDesk$KnownType" "waiting" "[I", Cond.methodLink RX1 29 yX5_chosen, Cond.instanceMethod yX5_chosen, Cond.selects RX5 yX5_chosen yX5_chosen, Cond.initialized RX5, Cond.code yX5_chosen cX5_chosen 4 (some .int), Cond.fieldLink RX5 35 "MarkDesk$Types" "used" "I", Cond.fieldLink RX5 17 "MarkDesk$Types" "sameAs" "[I", Cond.methodLink RX1 36 yJ7_fill_53178, Cond.static yJ7_fill_53178, Cond.initialized RJ7, Cond.code yJ7_fill_53178 cJ7_fill_53178 4 none, Cond.methodLink RX1 42 yX1_keepNode, Cond.instanceMethod yX1_keepNode, Cond.selects RX1 yX1_keepNode yX1_keepNode, Cond.initialized RX1, Cond.code yX1_keepNode cX1_keepNode 7 (some .int), Cond.fieldLink RX1 46 "MarkDesk$Types" "form" "[I", Cond.fieldLink RX1 17 "MarkDesk$KnownType" "parts" "[I", Cond.methodLink RX1 49 yX5_chosenPart, Cond.instanceMethod yX5_chosenPart]
def wsX1_keep_r2 : List Cond := [Cond.selects RX5 yX5_chosenPart yX5_chosenPart, Cond.code yX5_chosenPart cX5_chosenPart 3 (some .int), Cond.fieldLink RX5 20 "MarkDesk$Types" "parts" "[I", Cond.methodLink RX5 43 yX5_chosen]
def wsX1_keep : List Cond := .code yX1_keep cX1_keep 6 none :: ((wsX1_keep_r1 ++ wsX1_keep_r2) ++ wsX10 ++ wsX50)
def wsX1_at : List Cond := .code yX1_at cX1_at 5 (some .int) :: ([.fieldLink RX1 25 "MarkDesk$KnownType" "root" "I", .fieldLink RX1 11 "MarkDesk$KnownType" "answer" "[I", .fieldLink RX1 17 "MarkDesk$KnownType" "parts" "[I"] ++ wsX10)
def wsX7_init : List Cond := .code yX7_init cX7_init 1 none :: ([.methodLink RX7 1 objectInit, .instanceMethod objectInit, .code objectInit ⟨#[0xb1]⟩ 1 none, .arrayClass .int, .fieldLink RX7 9 "MarkDesk$Values" "form" "[I", .fieldLink RX7 15 "MarkDesk$Values" "content" "[I", .fieldLink RX7 18 "MarkDesk$Values" "scope" "[I"] ++ wsX70)
def wsX3_init : List Cond := .code yX3_init cX3_init 1 none :: ([.methodLink RX3 3 objectInit, .instanceMethod objectInit, .code objectInit ⟨#[0xb1]⟩ 1 none, .arrayClass .int, .fieldLink RX3 11 "MarkDesk$Scopes" "bound" "[I", .fieldLink RX3 17 "MarkDesk$Scopes" "outer" "[I"] ++ wsX30)
def wsX8_init : List Cond := .code yX8_init cX8_init 1 none :: ([.methodLink RX8 1 objectInit, .instanceMethod objectInit, .code objectInit ⟨#[0xb1]⟩ 1 none, .arrayClass .int, .fieldLink RX8 9 "MarkDesk$Waitings" "term" "[I", .fieldLink RX8 15 "MarkDesk$Waitings" "scope" "[I", .fieldLink RX8 18 "MarkDesk$Waitings" "held" "[I", .fieldLink RX8 21 "MarkDesk$Waitings" "next" "[I"] ++ wsX80)
def wsX2_init_r1 : List Cond := [Cond.methodLink RX2 5 objectInit, Cond.instanceMethod objectInit, Cond.code objectInit ⟨#[0xb1]⟩ 1 none, Cond.classLink RX2 11 RX7, Cond.instantiable RX7 4, Cond.initialized RX7, Cond.fieldLink RX2 14 "MarkDesk$Machine" "values" "LMarkDesk$Values;", Cond.classLink RX2 18 RX3, Cond.instantiable RX3 3, Cond.initialized RX3, Cond.fieldLink RX2 21 "MarkDesk$Machine" "scopes" "LMarkDesk$Scopes;", Cond.classLink RX2 25 RX8, Cond.instantiable RX8 5, Cond.initialized RX8, Cond.fieldLink RX2 28 "MarkDesk$Machine" "waitings" "LMarkDesk$Waitings;", Cond.arrayClass .int, Cond.fieldLink RX2 32 "MarkDesk$Machine" "behindMarks" "[I", Cond.fieldLink RX2 36 "MarkDesk$Machine" "terms" "LMarkDesk$Terms;", Cond.instanceMethod yX7_init, Cond.code yX7_init cX7_init 1 none, Cond.methodLink RX7 1 objectInit, Cond.fieldLink RX7 9 "MarkDesk$Values" "form" "[I", Cond.fieldLink RX7 15 "MarkDesk$Values" "content" "[I", Cond.fieldLink RX7 18 "MarkDesk$Values" "scope" "[I"]
def wsX2_init_r2 : List Cond := [Cond.instanceMethod yX3_init, Cond.code yX3_init cX3_init 1 none, Cond.methodLink RX3 3 objectInit, Cond.fieldLink RX3 11 "MarkDesk$Scopes" "bound" "[I", Cond.fieldLink RX3 17 "MarkDesk$Scopes" "outer" "[I", Cond.instanceMethod yX8_init, Cond.code yX8_init cX8_init 1 none, Cond.methodLink RX8 1 objectInit, Cond.fieldLink RX8 9 "MarkDesk$Waitings" "term" "[I", Cond.fieldLink RX8 15 "MarkDesk$Waitings" "scope" "[I", Cond.fieldLink RX8 18 "MarkDesk$Waitings" "held" "[I", Cond.fieldLink RX8 21 "MarkDesk$Waitings" "next" "[I"]
def wsX2_init : List Cond := .code yX2_init cX2_init 2 none :: ((wsX2_init_r1 ++ wsX2_init_r2) ++ wsX70 ++ wsX20 ++ wsX30 ++ wsX80)
def wsX7_clear : List Cond := .code yX7_clear cX7_clear 1 none :: ([.fieldLink RX7 21 "MarkDesk$Values" "used" "I"] ++ wsX70)
def wsX3_clear : List Cond := .code yX3_clear cX3_clear 1 none :: ([.fieldLink RX3 20 "MarkDesk$Scopes" "used" "I"] ++ wsX30)
def wsX8_clear : List Cond := .code yX8_clear cX8_clear 1 none :: ([.fieldLink RX8 24 "MarkDesk$Waitings" "used" "I"] ++ wsX80)
def wsX2_goTo : List Cond := .code yX2_goTo cX2_goTo 3 none :: ([.fieldLink RX2 96 "MarkDesk$Machine" "term" "I", .fieldLink RX2 99 "MarkDesk$Machine" "scope" "I", .fieldLink RX2 71 "MarkDesk$Machine" "given" "I"] ++ wsX20)
def wsX2_leaveMark : List Cond := .code yX2_leaveMark cX2_leaveMark 1 none :: ([.fieldLink RX2 45 "MarkDesk$Machine" "marks" "I", .fieldLink RX2 58 "MarkDesk$Machine" "end" "I", .fieldLink RX2 32 "MarkDesk$Machine" "behindMarks" "[I", .fieldLink RX2 49 "MarkDesk$Machine" "toDo" "I"] ++ wsX20)
def wsX7_add : List Cond := .code yX7_add cX7_add 4 (some .int) :: ([.fieldLink RX7 9 "MarkDesk$Values" "form" "[I", .fieldLink RX7 21 "MarkDesk$Values" "used" "I", .fieldLink RX7 15 "MarkDesk$Values" "content" "[I", .fieldLink RX7 18 "MarkDesk$Values" "scope" "[I"] ++ wsX70)
def wsX3_look : List Cond := .code yX3_look cX3_look 5 (some .int) :: ([.fieldLink RX3 17 "MarkDesk$Scopes" "outer" "[I", .fieldLink RX3 11 "MarkDesk$Scopes" "bound" "[I"] ++ wsX30)
def wsX2_enterMark : List Cond := .code yX2_enterMark cX2_enterMark 2 none :: ([.fieldLink RX2 32 "MarkDesk$Machine" "behindMarks" "[I", .fieldLink RX2 45 "MarkDesk$Machine" "marks" "I", .fieldLink RX2 49 "MarkDesk$Machine" "toDo" "I"] ++ wsX20)
def wsX3_bind : List Cond := .code yX3_bind cX3_bind 3 (some .int) :: ([.fieldLink RX3 11 "MarkDesk$Scopes" "bound" "[I", .fieldLink RX3 20 "MarkDesk$Scopes" "used" "I", .fieldLink RX3 17 "MarkDesk$Scopes" "outer" "[I"] ++ wsX30)
def wsX8_add : List Cond := .code yX8_add cX8_add 5 (some .int) :: ([.fieldLink RX8 9 "MarkDesk$Waitings" "term" "[I", .fieldLink RX8 24 "MarkDesk$Waitings" "used" "I", .fieldLink RX8 15 "MarkDesk$Waitings" "scope" "[I", .fieldLink RX8 18 "MarkDesk$Waitings" "held" "[I", .fieldLink RX8 21 "MarkDesk$Waitings" "next" "[I"] ++ wsX80)
def wsX2_beginTerm_r1 : List Cond := [Cond.fieldLink RX2 36 "MarkDesk$Machine" "terms" "LMarkDesk$Terms;", Cond.fieldLink RX2 102 "MarkDesk$Terms" "first" "[I", Cond.fieldLink RX2 96 "MarkDesk$Machine" "term" "I", Cond.fieldLink RX2 107 "MarkDesk$Terms" "kind" "[I", Cond.fieldLink RX2 14 "MarkDesk$Machine" "values" "LMarkDesk$Values;", Cond.fieldLink RX2 71 "MarkDesk$Machine" "given" "I", Cond.fieldLink RX2 21 "MarkDesk$Machine" "scopes" "LMarkDesk$Scopes;", Cond.fieldLink RX2 99 "MarkDesk$Machine" "scope" "I", Cond.fieldLink RX2 49 "MarkDesk$Machine" "toDo" "I", Cond.fieldLink RX2 28 "MarkDesk$Machine" "waitings" "LMarkDesk$Waitings;", Cond.methodLink RX2 110 yX7_add, Cond.instanceMethod yX7_add, Cond.selects RX7 yX7_add yX7_add, Cond.initialized RX7, Cond.code yX7_add cX7_add 4 (some .int), Cond.fieldLink RX7 9 "MarkDesk$Values" "form" "[I", Cond.fieldLink RX7 21 "MarkDesk$Values" "used" "I", Cond.fieldLink RX7 15 "MarkDesk$Values" "content" "[I", Cond.fieldLink RX7 18 "MarkDesk$Values" "scope" "[I", Cond.methodLink RX2 114 yX3_look, Cond.instanceMethod yX3_look, Cond.selects RX3 yX3_look yX3_look, Cond.initialized RX3, Cond.code yX3_look cX3_look 5 (some .int)]
def wsX2_beginTerm_r2 : List Cond := [Cond.fieldLink RX3 17 "MarkDesk$Scopes" "outer" "[I", Cond.fieldLink RX3 11 "MarkDesk$Scopes" "bound" "[I", Cond.methodLink RX2 117 yX2_enterMark, Cond.instanceMethod yX2_enterMark, Cond.selects RX2 yX2_enterMark yX2_enterMark, Cond.initialized RX2, Cond.code yX2_enterMark cX2_enterMark 2 none, Cond.fieldLink RX2 32 "MarkDesk$Machine" "behindMarks" "[I", Cond.fieldLink RX2 45 "MarkDesk$Machine" "marks" "I", Cond.methodLink RX2 121 yX3_bind, Cond.instanceMethod yX3_bind, Cond.selects RX3 yX3_bind yX3_bind, Cond.code yX3_bind cX3_bind 3 (some .int), Cond.fieldLink RX3 20 "MarkDesk$Scopes" "used" "I", Cond.methodLink RX2 124 yX8_add, Cond.instanceMethod yX8_add, Cond.selects RX8 yX8_add yX8_add, Cond.initialized RX8, Cond.code yX8_add cX8_add 5 (some .int), Cond.fieldLink RX8 9 "MarkDesk$Waitings" "term" "[I", Cond.fieldLink RX8 24 "MarkDesk$Waitings" "used" "I", Cond.fieldLink RX8 15 "MarkDesk$Waitings" "scope" "[I", Cond.fieldLink RX8 18 "MarkDesk$Waitings" "held" "[I", Cond.fieldLink RX8 21 "MarkDesk$Waitings" "next" "[I"]
def wsX2_beginTerm : List Cond := .code yX2_beginTerm cX2_beginTerm 2 none :: ((wsX2_beginTerm_r1 ++ wsX2_beginTerm_r2) ++ wsX20 ++ wsX40 ++ wsX70 ++ wsX30 ++ wsX80)
def wsX2_choose : List Cond := .code yX2_choose cX2_choose 3 none :: ([.fieldLink RX2 14 "MarkDesk$Machine" "values" "LMarkDesk$Values;", .fieldLink RX2 68 "MarkDesk$Values" "form" "[I", .fieldLink RX2 71 "MarkDesk$Machine" "given" "I", .fieldLink RX2 58 "MarkDesk$Machine" "end" "I", .fieldLink RX2 84 "MarkDesk$Values" "content" "[I", .fieldLink RX2 36 "MarkDesk$Machine" "terms" "LMarkDesk$Terms;", .fieldLink RX2 139 "MarkDesk$Terms" "second" "[I", .fieldLink RX2 152 "MarkDesk$Terms" "third" "[I", .methodLink RX2 61 yX2_goTo, .instanceMethod yX2_goTo, .selects RX2 yX2_goTo yX2_goTo, .initialized RX2, .code yX2_goTo cX2_goTo 3 none, .fieldLink RX2 96 "MarkDesk$Machine" "term" "I", .fieldLink RX2 99 "MarkDesk$Machine" "scope" "I"] ++ wsX20 ++ wsX70 ++ wsX40)
def wsX2_callWith_r1 : List Cond := [Cond.fieldLink RX2 14 "MarkDesk$Machine" "values" "LMarkDesk$Values;", Cond.fieldLink RX2 68 "MarkDesk$Values" "form" "[I", Cond.fieldLink RX2 84 "MarkDesk$Values" "content" "[I", Cond.fieldLink RX2 155 "MarkDesk$Values" "scope" "[I", Cond.fieldLink RX2 36 "MarkDesk$Machine" "terms" "LMarkDesk$Terms;", Cond.fieldLink RX2 107 "MarkDesk$Terms" "kind" "[I", Cond.fieldLink RX2 21 "MarkDesk$Machine" "scopes" "LMarkDesk$Scopes;", Cond.fieldLink RX2 102 "MarkDesk$Terms" "first" "[I", Cond.fieldLink RX2 58 "MarkDesk$Machine" "end" "I", Cond.methodLink RX2 117 yX2_enterMark, Cond.instanceMethod yX2_enterMark, Cond.selects RX2 yX2_enterMark yX2_enterMark, Cond.initialized RX2, Cond.code yX2_enterMark cX2_enterMark 2 none, Cond.fieldLink RX2 32 "MarkDesk$Machine" "behindMarks" "[I", Cond.fieldLink RX2 45 "MarkDesk$Machine" "marks" "I", Cond.fieldLink RX2 49 "MarkDesk$Machine" "toDo" "I", Cond.methodLink RX2 121 yX3_bind, Cond.instanceMethod yX3_bind, Cond.selects RX3 yX3_bind yX3_bind, Cond.initialized RX3, Cond.code yX3_bind cX3_bind 3 (some .int), Cond.fieldLink RX3 11 "MarkDesk$Scopes" "bound" "[I", Cond.fieldLink RX3 20 "MarkDesk$Scopes" "used" "I"]
def wsX2_callWith_r2 : List Cond := [Cond.fieldLink RX3 17 "MarkDesk$Scopes" "outer" "[I", Cond.methodLink RX2 61 yX2_goTo, Cond.instanceMethod yX2_goTo, Cond.selects RX2 yX2_goTo yX2_goTo, Cond.code yX2_goTo cX2_goTo 3 none, Cond.fieldLink RX2 96 "MarkDesk$Machine" "term" "I", Cond.fieldLink RX2 99 "MarkDesk$Machine" "scope" "I", Cond.fieldLink RX2 71 "MarkDesk$Machine" "given" "I"]
def wsX2_callWith : List Cond := .code yX2_callWith cX2_callWith 6 none :: ((wsX2_callWith_r1 ++ wsX2_callWith_r2) ++ wsX20 ++ wsX70 ++ wsX40 ++ wsX30)
def wsX2_joinNumbers : List Cond := .code yX2_joinNumbers cX2_joinNumbers 4 none :: ([.fieldLink RX2 14 "MarkDesk$Machine" "values" "LMarkDesk$Values;", .fieldLink RX2 68 "MarkDesk$Values" "form" "[I", .fieldLink RX2 58 "MarkDesk$Machine" "end" "I", .fieldLink RX2 84 "MarkDesk$Values" "content" "[I", .fieldLink RX2 71 "MarkDesk$Machine" "given" "I", .methodLink RX2 110 yX7_add, .instanceMethod yX7_add, .selects RX7 yX7_add yX7_add, .initialized RX7, .code yX7_add cX7_add 4 (some .int), .fieldLink RX7 9 "MarkDesk$Values" "form" "[I", .fieldLink RX7 21 "MarkDesk$Values" "used" "I", .fieldLink RX7 15 "MarkDesk$Values" "content" "[I", .fieldLink RX7 18 "MarkDesk$Values" "scope" "[I"] ++ wsX20 ++ wsX70)
def wsX2_bringValue_r1 : List Cond := [Cond.fieldLink RX2 49 "MarkDesk$Machine" "toDo" "I", Cond.fieldLink RX2 28 "MarkDesk$Machine" "waitings" "LMarkDesk$Waitings;", Cond.fieldLink RX2 127 "MarkDesk$Waitings" "term" "[I", Cond.fieldLink RX2 36 "MarkDesk$Machine" "terms" "LMarkDesk$Terms;", Cond.fieldLink RX2 107 "MarkDesk$Terms" "kind" "[I", Cond.fieldLink RX2 129 "MarkDesk$Waitings" "next" "[I", Cond.fieldLink RX2 134 "MarkDesk$Waitings" "scope" "[I", Cond.fieldLink RX2 139 "MarkDesk$Terms" "second" "[I", Cond.fieldLink RX2 21 "MarkDesk$Machine" "scopes" "LMarkDesk$Scopes;", Cond.fieldLink RX2 71 "MarkDesk$Machine" "given" "I", Cond.fieldLink RX2 142 "MarkDesk$Waitings" "held" "[I", Cond.methodLink RX2 136 yX2_choose, Cond.instanceMethod yX2_choose, Cond.selects RX2 yX2_choose yX2_choose, Cond.initialized RX2, Cond.code yX2_choose cX2_choose 3 none, Cond.fieldLink RX2 14 "MarkDesk$Machine" "values" "LMarkDesk$Values;", Cond.fieldLink RX2 68 "MarkDesk$Values" "form" "[I", Cond.fieldLink RX2 58 "MarkDesk$Machine" "end" "I", Cond.fieldLink RX2 84 "MarkDesk$Values" "content" "[I", Cond.fieldLink RX2 152 "MarkDesk$Terms" "third" "[I", Cond.methodLink RX2 61 yX2_goTo, Cond.instanceMethod yX2_goTo, Cond.selects RX2 yX2_goTo yX2_goTo]
def wsX2_bringValue_r2 : List Cond := [Cond.code yX2_goTo cX2_goTo 3 none, Cond.fieldLink RX2 96 "MarkDesk$Machine" "term" "I", Cond.fieldLink RX2 99 "MarkDesk$Machine" "scope" "I", Cond.methodLink RX2 121 yX3_bind, Cond.instanceMethod yX3_bind, Cond.selects RX3 yX3_bind yX3_bind, Cond.initialized RX3, Cond.code yX3_bind cX3_bind 3 (some .int), Cond.fieldLink RX3 11 "MarkDesk$Scopes" "bound" "[I", Cond.fieldLink RX3 20 "MarkDesk$Scopes" "used" "I", Cond.fieldLink RX3 17 "MarkDesk$Scopes" "outer" "[I", Cond.methodLink RX2 124 yX8_add, Cond.instanceMethod yX8_add, Cond.selects RX8 yX8_add yX8_add, Cond.initialized RX8, Cond.code yX8_add cX8_add 5 (some .int), Cond.fieldLink RX8 9 "MarkDesk$Waitings" "term" "[I", Cond.fieldLink RX8 24 "MarkDesk$Waitings" "used" "I", Cond.fieldLink RX8 15 "MarkDesk$Waitings" "scope" "[I", Cond.fieldLink RX8 18 "MarkDesk$Waitings" "held" "[I", Cond.fieldLink RX8 21 "MarkDesk$Waitings" "next" "[I", Cond.methodLink RX2 145 yX2_callWith, Cond.instanceMethod yX2_callWith, Cond.selects RX2 yX2_callWith yX2_callWith]
def wsX2_bringValue_r3 : List Cond := [Cond.code yX2_callWith cX2_callWith 6 none, Cond.fieldLink RX2 155 "MarkDesk$Values" "scope" "[I", Cond.fieldLink RX2 102 "MarkDesk$Terms" "first" "[I", Cond.methodLink RX2 117 yX2_enterMark, Cond.instanceMethod yX2_enterMark, Cond.selects RX2 yX2_enterMark yX2_enterMark, Cond.code yX2_enterMark cX2_enterMark 2 none, Cond.fieldLink RX2 32 "MarkDesk$Machine" "behindMarks" "[I", Cond.fieldLink RX2 45 "MarkDesk$Machine" "marks" "I", Cond.methodLink RX2 148 yX2_joinNumbers, Cond.instanceMethod yX2_joinNumbers, Cond.selects RX2 yX2_joinNumbers yX2_joinNumbers, Cond.code yX2_joinNumbers cX2_joinNumbers 4 none, Cond.methodLink RX2 110 yX7_add, Cond.instanceMethod yX7_add, Cond.selects RX7 yX7_add yX7_add, Cond.initialized RX7, Cond.code yX7_add cX7_add 4 (some .int), Cond.fieldLink RX7 9 "MarkDesk$Values" "form" "[I", Cond.fieldLink RX7 21 "MarkDesk$Values" "used" "I", Cond.fieldLink RX7 15 "MarkDesk$Values" "content" "[I", Cond.fieldLink RX7 18 "MarkDesk$Values" "scope" "[I"]
def wsX2_bringValue : List Cond := .code yX2_bringValue cX2_bringValue 4 none :: ((wsX2_bringValue_r1 ++ (wsX2_bringValue_r2 ++ wsX2_bringValue_r3)) ++ wsX20 ++ wsX80 ++ wsX40 ++ wsX70 ++ wsX30)
def wsX2_doRound_r1 : List Cond := [Cond.fieldLink RX2 71 "MarkDesk$Machine" "given" "I", Cond.fieldLink RX2 49 "MarkDesk$Machine" "toDo" "I", Cond.fieldLink RX2 52 "MarkDesk$Machine" "fuelLeft" "I", Cond.fieldLink RX2 58 "MarkDesk$Machine" "end" "I", Cond.fieldLink RX2 55 "MarkDesk$Machine" "stepsDone" "I", Cond.methodLink RX2 87 yX2_leaveMark, Cond.instanceMethod yX2_leaveMark, Cond.selects RX2 yX2_leaveMark yX2_leaveMark, Cond.initialized RX2, Cond.code yX2_leaveMark cX2_leaveMark 1 none, Cond.fieldLink RX2 45 "MarkDesk$Machine" "marks" "I", Cond.fieldLink RX2 32 "MarkDesk$Machine" "behindMarks" "[I", Cond.methodLink RX2 90 yX2_beginTerm, Cond.instanceMethod yX2_beginTerm, Cond.selects RX2 yX2_beginTerm yX2_beginTerm, Cond.code yX2_beginTerm cX2_beginTerm 2 none, Cond.fieldLink RX2 36 "MarkDesk$Machine" "terms" "LMarkDesk$Terms;", Cond.fieldLink RX2 102 "MarkDesk$Terms" "first" "[I", Cond.fieldLink RX2 96 "MarkDesk$Machine" "term" "I", Cond.fieldLink RX2 107 "MarkDesk$Terms" "kind" "[I", Cond.fieldLink RX2 14 "MarkDesk$Machine" "values" "LMarkDesk$Values;", Cond.fieldLink RX2 21 "MarkDesk$Machine" "scopes" "LMarkDesk$Scopes;", Cond.fieldLink RX2 99 "MarkDesk$Machine" "scope" "I", Cond.fieldLink RX2 28 "MarkDesk$Machine" "waitings" "LMarkDesk$Waitings;"]
def wsX2_doRound_r2 : List Cond := [Cond.methodLink RX2 110 yX7_add, Cond.instanceMethod yX7_add, Cond.selects RX7 yX7_add yX7_add, Cond.initialized RX7, Cond.code yX7_add cX7_add 4 (some .int), Cond.fieldLink RX7 9 "MarkDesk$Values" "form" "[I", Cond.fieldLink RX7 21 "MarkDesk$Values" "used" "I", Cond.fieldLink RX7 15 "MarkDesk$Values" "content" "[I", Cond.fieldLink RX7 18 "MarkDesk$Values" "scope" "[I", Cond.methodLink RX2 114 yX3_look, Cond.instanceMethod yX3_look, Cond.selects RX3 yX3_look yX3_look, Cond.initialized RX3, Cond.code yX3_look cX3_look 5 (some .int), Cond.fieldLink RX3 17 "MarkDesk$Scopes" "outer" "[I", Cond.fieldLink RX3 11 "MarkDesk$Scopes" "bound" "[I", Cond.methodLink RX2 117 yX2_enterMark, Cond.instanceMethod yX2_enterMark, Cond.selects RX2 yX2_enterMark yX2_enterMark, Cond.code yX2_enterMark cX2_enterMark 2 none, Cond.methodLink RX2 121 yX3_bind, Cond.instanceMethod yX3_bind, Cond.selects RX3 yX3_bind yX3_bind, Cond.code yX3_bind cX3_bind 3 (some .int)]
def wsX2_doRound_r3 : List Cond := [Cond.fieldLink RX3 20 "MarkDesk$Scopes" "used" "I", Cond.methodLink RX2 124 yX8_add, Cond.instanceMethod yX8_add, Cond.selects RX8 yX8_add yX8_add, Cond.initialized RX8, Cond.code yX8_add cX8_add 5 (some .int), Cond.fieldLink RX8 9 "MarkDesk$Waitings" "term" "[I", Cond.fieldLink RX8 24 "MarkDesk$Waitings" "used" "I", Cond.fieldLink RX8 15 "MarkDesk$Waitings" "scope" "[I", Cond.fieldLink RX8 18 "MarkDesk$Waitings" "held" "[I", Cond.fieldLink RX8 21 "MarkDesk$Waitings" "next" "[I", Cond.methodLink RX2 93 yX2_bringValue, Cond.instanceMethod yX2_bringValue, Cond.selects RX2 yX2_bringValue yX2_bringValue, Cond.code yX2_bringValue cX2_bringValue 4 none, Cond.fieldLink RX2 127 "MarkDesk$Waitings" "term" "[I", Cond.fieldLink RX2 129 "MarkDesk$Waitings" "next" "[I", Cond.fieldLink RX2 134 "MarkDesk$Waitings" "scope" "[I", Cond.fieldLink RX2 139 "MarkDesk$Terms" "second" "[I", Cond.fieldLink RX2 142 "MarkDesk$Waitings" "held" "[I", Cond.methodLink RX2 136 yX2_choose, Cond.instanceMethod yX2_choose, Cond.selects RX2 yX2_choose yX2_choose, Cond.code yX2_choose cX2_choose 3 none]
def wsX2_doRound_r4 : List Cond := [Cond.fieldLink RX2 68 "MarkDesk$Values" "form" "[I", Cond.fieldLink RX2 84 "MarkDesk$Values" "content" "[I", Cond.fieldLink RX2 152 "MarkDesk$Terms" "third" "[I", Cond.methodLink RX2 61 yX2_goTo, Cond.instanceMethod yX2_goTo, Cond.selects RX2 yX2_goTo yX2_goTo, Cond.code yX2_goTo cX2_goTo 3 none, Cond.methodLink RX2 145 yX2_callWith, Cond.instanceMethod yX2_callWith, Cond.selects RX2 yX2_callWith yX2_callWith, Cond.code yX2_callWith cX2_callWith 6 none, Cond.fieldLink RX2 155 "MarkDesk$Values" "scope" "[I", Cond.methodLink RX2 148 yX2_joinNumbers, Cond.instanceMethod yX2_joinNumbers, Cond.selects RX2 yX2_joinNumbers yX2_joinNumbers, Cond.code yX2_joinNumbers cX2_joinNumbers 4 none]
def wsX2_doRound : List Cond := .code yX2_doRound cX2_doRound 1 none :: ((wsX2_doRound_r1 ++ (wsX2_doRound_r2 ++ (wsX2_doRound_r3 ++ wsX2_doRound_r4))) ++ wsX20 ++ wsX40 ++ wsX70 ++ wsX30 ++ wsX80)
def wsX2_workOut_r1 : List Cond := [Cond.fieldLink RX2 14 "MarkDesk$Machine" "values" "LMarkDesk$Values;", Cond.fieldLink RX2 21 "MarkDesk$Machine" "scopes" "LMarkDesk$Scopes;", Cond.fieldLink RX2 28 "MarkDesk$Machine" "waitings" "LMarkDesk$Waitings;", Cond.fieldLink RX2 45 "MarkDesk$Machine" "marks" "I", Cond.fieldLink RX2 49 "MarkDesk$Machine" "toDo" "I", Cond.fieldLink RX2 52 "MarkDesk$Machine" "fuelLeft" "I", Cond.fieldLink RX2 55 "MarkDesk$Machine" "stepsDone" "I", Cond.fieldLink RX2 58 "MarkDesk$Machine" "end" "I", Cond.methodLink RX2 40 yX7_clear, Cond.instanceMethod yX7_clear, Cond.selects RX7 yX7_clear yX7_clear, Cond.initialized RX7, Cond.code yX7_clear cX7_clear 1 none, Cond.fieldLink RX7 21 "MarkDesk$Values" "used" "I", Cond.methodLink RX2 43 yX3_clear, Cond.instanceMethod yX3_clear, Cond.selects RX3 yX3_clear yX3_clear, Cond.initialized RX3, Cond.code yX3_clear cX3_clear 1 none, Cond.fieldLink RX3 20 "MarkDesk$Scopes" "used" "I", Cond.methodLink RX2 44 yX8_clear, Cond.instanceMethod yX8_clear, Cond.selects RX8 yX8_clear yX8_clear, Cond.initialized RX8]
def wsX2_workOut_r2 : List Cond := [Cond.code yX8_clear cX8_clear 1 none, Cond.fieldLink RX8 24 "MarkDesk$Waitings" "used" "I", Cond.methodLink RX2 61 yX2_goTo, Cond.instanceMethod yX2_goTo, Cond.selects RX2 yX2_goTo yX2_goTo, Cond.initialized RX2, Cond.code yX2_goTo cX2_goTo 3 none, Cond.fieldLink RX2 96 "MarkDesk$Machine" "term" "I", Cond.fieldLink RX2 99 "MarkDesk$Machine" "scope" "I", Cond.fieldLink RX2 71 "MarkDesk$Machine" "given" "I", Cond.methodLink RX2 65 yX2_doRound, Cond.instanceMethod yX2_doRound, Cond.selects RX2 yX2_doRound yX2_doRound, Cond.code yX2_doRound cX2_doRound 1 none, Cond.methodLink RX2 87 yX2_leaveMark, Cond.instanceMethod yX2_leaveMark, Cond.selects RX2 yX2_leaveMark yX2_leaveMark, Cond.code yX2_leaveMark cX2_leaveMark 1 none, Cond.fieldLink RX2 32 "MarkDesk$Machine" "behindMarks" "[I", Cond.methodLink RX2 90 yX2_beginTerm, Cond.instanceMethod yX2_beginTerm, Cond.selects RX2 yX2_beginTerm yX2_beginTerm, Cond.code yX2_beginTerm cX2_beginTerm 2 none, Cond.fieldLink RX2 36 "MarkDesk$Machine" "terms" "LMarkDesk$Terms;"]
def wsX2_workOut_r3 : List Cond := [Cond.fieldLink RX2 102 "MarkDesk$Terms" "first" "[I", Cond.fieldLink RX2 107 "MarkDesk$Terms" "kind" "[I", Cond.methodLink RX2 110 yX7_add, Cond.instanceMethod yX7_add, Cond.selects RX7 yX7_add yX7_add, Cond.code yX7_add cX7_add 4 (some .int), Cond.fieldLink RX7 9 "MarkDesk$Values" "form" "[I", Cond.fieldLink RX7 15 "MarkDesk$Values" "content" "[I", Cond.fieldLink RX7 18 "MarkDesk$Values" "scope" "[I", Cond.methodLink RX2 114 yX3_look, Cond.instanceMethod yX3_look, Cond.selects RX3 yX3_look yX3_look, Cond.code yX3_look cX3_look 5 (some .int), Cond.fieldLink RX3 17 "MarkDesk$Scopes" "outer" "[I", Cond.fieldLink RX3 11 "MarkDesk$Scopes" "bound" "[I", Cond.methodLink RX2 117 yX2_enterMark, Cond.instanceMethod yX2_enterMark, Cond.selects RX2 yX2_enterMark yX2_enterMark, Cond.code yX2_enterMark cX2_enterMark 2 none, Cond.methodLink RX2 121 yX3_bind, Cond.instanceMethod yX3_bind, Cond.selects RX3 yX3_bind yX3_bind, Cond.code yX3_bind cX3_bind 3 (some .int), Cond.methodLink RX2 124 yX8_add]
def wsX2_workOut_r4 : List Cond := [Cond.instanceMethod yX8_add, Cond.selects RX8 yX8_add yX8_add, Cond.code yX8_add cX8_add 5 (some .int), Cond.fieldLink RX8 9 "MarkDesk$Waitings" "term" "[I", Cond.fieldLink RX8 15 "MarkDesk$Waitings" "scope" "[I", Cond.fieldLink RX8 18 "MarkDesk$Waitings" "held" "[I", Cond.fieldLink RX8 21 "MarkDesk$Waitings" "next" "[I", Cond.methodLink RX2 93 yX2_bringValue, Cond.instanceMethod yX2_bringValue, Cond.selects RX2 yX2_bringValue yX2_bringValue, Cond.code yX2_bringValue cX2_bringValue 4 none, Cond.fieldLink RX2 127 "MarkDesk$Waitings" "term" "[I", Cond.fieldLink RX2 129 "MarkDesk$Waitings" "next" "[I", Cond.fieldLink RX2 134 "MarkDesk$Waitings" "scope" "[I", Cond.fieldLink RX2 139 "MarkDesk$Terms" "second" "[I", Cond.fieldLink RX2 142 "MarkDesk$Waitings" "held" "[I", Cond.methodLink RX2 136 yX2_choose, Cond.instanceMethod yX2_choose, Cond.selects RX2 yX2_choose yX2_choose, Cond.code yX2_choose cX2_choose 3 none, Cond.fieldLink RX2 68 "MarkDesk$Values" "form" "[I", Cond.fieldLink RX2 84 "MarkDesk$Values" "content" "[I", Cond.fieldLink RX2 152 "MarkDesk$Terms" "third" "[I", Cond.methodLink RX2 145 yX2_callWith]
def wsX2_workOut_r5 : List Cond := [Cond.instanceMethod yX2_callWith, Cond.selects RX2 yX2_callWith yX2_callWith, Cond.code yX2_callWith cX2_callWith 6 none, Cond.fieldLink RX2 155 "MarkDesk$Values" "scope" "[I", Cond.methodLink RX2 148 yX2_joinNumbers, Cond.instanceMethod yX2_joinNumbers, Cond.selects RX2 yX2_joinNumbers yX2_joinNumbers, Cond.code yX2_joinNumbers cX2_joinNumbers 4 none]
def wsX2_workOut : List Cond := .code yX2_workOut cX2_workOut 4 (some .int) :: ((wsX2_workOut_r1 ++ (wsX2_workOut_r2 ++ (wsX2_workOut_r3 ++ (wsX2_workOut_r4 ++ wsX2_workOut_r5)))) ++ wsX20 ++ wsX70 ++ wsX30 ++ wsX80 ++ wsX40)
def wsX2_resultForm : List Cond := .code yX2_resultForm cX2_resultForm 1 (some .int) :: ([.fieldLink RX2 14 "MarkDesk$Machine" "values" "LMarkDesk$Values;", .fieldLink RX2 68 "MarkDesk$Values" "form" "[I", .fieldLink RX2 71 "MarkDesk$Machine" "given" "I", .methodLink RX2 74 Lib.Math.min.name, .static Lib.Math.min.name, .initialized "java/lang/Math", .code Lib.Math.min.name Lib.Math.min.code 2 (some .int)] ++ wsX20 ++ wsX70)
def wsX2_plainResult : List Cond := .code yX2_plainResult cX2_plainResult 1 (some .int) :: ([.fieldLink RX2 14 "MarkDesk$Machine" "values" "LMarkDesk$Values;", .fieldLink RX2 84 "MarkDesk$Values" "content" "[I", .fieldLink RX2 71 "MarkDesk$Machine" "given" "I", .methodLink RX2 80 yX2_resultForm, .instanceMethod yX2_resultForm, .selects RX2 yX2_resultForm yX2_resultForm, .initialized RX2, .code yX2_resultForm cX2_resultForm 1 (some .int), .fieldLink RX2 68 "MarkDesk$Values" "form" "[I", .methodLink RX2 74 Lib.Math.min.name, .static Lib.Math.min.name, .initialized "java/lang/Math", .code Lib.Math.min.name Lib.Math.min.code 2 (some .int)] ++ wsX20 ++ wsX70)
def wsX4_init : List Cond := .code yX4_init cX4_init 1 none :: ([.methodLink RX4 1 objectInit, .instanceMethod objectInit, .code objectInit ⟨#[0xb1]⟩ 1 none, .arrayClass .int, .fieldLink RX4 9 "MarkDesk$Terms" "kind" "[I", .fieldLink RX4 13 "MarkDesk$Terms" "first" "[I", .fieldLink RX4 16 "MarkDesk$Terms" "second" "[I", .fieldLink RX4 19 "MarkDesk$Terms" "third" "[I", .fieldLink RX4 22 "MarkDesk$Terms" "needed" "[I", .fieldLink RX4 25 "MarkDesk$Terms" "height" "[I", .fieldLink RX4 28 "MarkDesk$Terms" "size" "[I"] ++ wsX40)
def wsX4_has : List Cond := .code yX4_has cX4_has 2 (some .boolean) :: ([.fieldLink RX4 31 "MarkDesk$Terms" "used" "I"] ++ wsX40)
def wsX4_hasClosed : List Cond := .code yX4_hasClosed cX4_hasClosed 2 (some .boolean) :: ([.fieldLink RX4 22 "MarkDesk$Terms" "needed" "[I", .methodLink RX4 35 yX4_has, .instanceMethod yX4_has, .selects RX4 yX4_has yX4_has, .initialized RX4, .code yX4_has cX4_has 2 (some .boolean), .fieldLink RX4 31 "MarkDesk$Terms" "used" "I"] ++ wsX40)
def wsX4_wordsFit : List Cond := .code yX4_wordsFit cX4_wordsFit 6 (some .boolean) :: ([.fieldLink RX4 39 "MarkDesk$Kind" "TERM_WORDS" "[I", .methodLink RX4 35 yX4_has, .instanceMethod yX4_has, .selects RX4 yX4_has yX4_has, .initialized RX4, .code yX4_has cX4_has 2 (some .boolean), .fieldLink RX4 31 "MarkDesk$Terms" "used" "I"] ++ wsX40)
def wsX4_heightOver : List Cond := .code yX4_heightOver cX4_heightOver 6 (some .int) :: ([.fieldLink RX4 25 "MarkDesk$Terms" "height" "[I", .methodLink RX4 54 Lib.Math.max.name, .static Lib.Math.max.name, .initialized "java/lang/Math", .code Lib.Math.max.name Lib.Math.max.code 2 (some .int)] ++ wsX40)
def wsX4_sizeOver : List Cond := .code yX4_sizeOver cX4_sizeOver 6 (some .int) :: ([.fieldLink RX4 28 "MarkDesk$Terms" "size" "[I"] ++ wsX40)
def wsX4_hasRoomFor : List Cond := .code yX4_hasRoomFor cX4_hasRoomFor 6 (some .boolean) :: ([.fieldLink RX4 39 "MarkDesk$Kind" "TERM_WORDS" "[I", .fieldLink RX4 31 "MarkDesk$Terms" "used" "I", .methodLink RX4 44 yX4_heightOver, .instanceMethod yX4_heightOver, .selects RX4 yX4_heightOver yX4_heightOver, .initialized RX4, .code yX4_heightOver cX4_heightOver 6 (some .int), .fieldLink RX4 25 "MarkDesk$Terms" "height" "[I", .methodLink RX4 54 Lib.Math.max.name, .static Lib.Math.max.name, .initialized "java/lang/Math", .code Lib.Math.max.name Lib.Math.max.code 2 (some .int), .methodLink RX4 48 yX4_sizeOver, .instanceMethod yX4_sizeOver, .selects RX4 yX4_sizeOver yX4_sizeOver, .code yX4_sizeOver cX4_sizeOver 6 (some .int), .fieldLink RX4 28 "MarkDesk$Terms" "size" "[I"] ++ wsX40)
def wsX4_neededOver : List Cond := .code yX4_neededOver cX4_neededOver 6 (some .int) :: ([.fieldLink RX4 60 "MarkDesk$Kind" "BINDS" "[I", .fieldLink RX4 39 "MarkDesk$Kind" "TERM_WORDS" "[I", .fieldLink RX4 22 "MarkDesk$Terms" "needed" "[I", .methodLink RX4 54 Lib.Math.max.name, .static Lib.Math.max.name, .initialized "java/lang/Math", .code Lib.Math.max.name Lib.Math.max.code 2 (some .int)] ++ wsX40)
def wsX4_add_r1 : List Cond := [Cond.fieldLink RX4 39 "MarkDesk$Kind" "TERM_WORDS" "[I", Cond.fieldLink RX4 31 "MarkDesk$Terms" "used" "I", Cond.fieldLink RX4 9 "MarkDesk$Terms" "kind" "[I", Cond.fieldLink RX4 13 "MarkDesk$Terms" "first" "[I", Cond.fieldLink RX4 16 "MarkDesk$Terms" "second" "[I", Cond.fieldLink RX4 19 "MarkDesk$Terms" "third" "[I", Cond.fieldLink RX4 25 "MarkDesk$Terms" "height" "[I", Cond.fieldLink RX4 28 "MarkDesk$Terms" "size" "[I", Cond.fieldLink RX4 22 "MarkDesk$Terms" "needed" "[I", Cond.methodLink RX4 44 yX4_heightOver, Cond.instanceMethod yX4_heightOver, Cond.selects RX4 yX4_heightOver yX4_heightOver, Cond.initialized RX4, Cond.code yX4_heightOver cX4_heightOver 6 (some .int), Cond.methodLink RX4 54 Lib.Math.max.name, Cond.static Lib.Math.max.name, Cond.initialized "java/lang/Math", Cond.code Lib.Math.max.name Lib.Math.max.code 2 (some .int), Cond.methodLink RX4 48 yX4_sizeOver, Cond.instanceMethod yX4_sizeOver, Cond.selects RX4 yX4_sizeOver yX4_sizeOver, Cond.code yX4_sizeOver cX4_sizeOver 6 (some .int), Cond.methodLink RX4 51 yX4_neededOver, Cond.instanceMethod yX4_neededOver]
def wsX4_add_r2 : List Cond := [Cond.selects RX4 yX4_neededOver yX4_neededOver, Cond.code yX4_neededOver cX4_neededOver 6 (some .int), Cond.fieldLink RX4 60 "MarkDesk$Kind" "BINDS" "[I"]
def wsX4_add : List Cond := .code yX4_add cX4_add 7 (some .int) :: ((wsX4_add_r1 ++ wsX4_add_r2) ++ wsX40)
def wsX5_init : List Cond := .code yX5_init cX5_init 1 none :: ([.methodLink RX5 7 objectInit, .instanceMethod objectInit, .code objectInit ⟨#[0xb1]⟩ 1 none, .arrayClass .int, .fieldLink RX5 13 "MarkDesk$Types" "form" "[I", .fieldLink RX5 17 "MarkDesk$Types" "sameAs" "[I", .fieldLink RX5 20 "MarkDesk$Types" "parts" "[I", .fieldLink RX5 23 "MarkDesk$Types" "pairs" "[I", .fieldLink RX5 26 "MarkDesk$Types" "progress" "[I", .fieldLink RX5 29 "MarkDesk$Types" "partsSeen" "[I", .fieldLink RX5 32 "MarkDesk$Types" "path" "[I"] ++ wsX50)
def wsX5_addNode : List Cond := .code yX5_addNode cX5_addNode 2 (some .int) :: ([.fieldLink RX5 13 "MarkDesk$Types" "form" "[I", .fieldLink RX5 35 "MarkDesk$Types" "used" "I", .fieldLink RX5 17 "MarkDesk$Types" "sameAs" "[I", .fieldLink RX5 26 "MarkDesk$Types" "progress" "[I", .fieldLink RX5 29 "MarkDesk$Types" "partsSeen" "[I"] ++ wsX50)
def wsX5_clear : List Cond := .code yX5_clear cX5_clear 1 none :: ([.fieldLink RX5 35 "MarkDesk$Types" "used" "I", .methodLink RX5 39 yX5_addNode, .instanceMethod yX5_addNode, .selects RX5 yX5_addNode yX5_addNode, .initialized RX5, .code yX5_addNode cX5_addNode 2 (some .int), .fieldLink RX5 13 "MarkDesk$Types" "form" "[I", .fieldLink RX5 17 "MarkDesk$Types" "sameAs" "[I", .fieldLink RX5 26 "MarkDesk$Types" "progress" "[I", .fieldLink RX5 29 "MarkDesk$Types" "partsSeen" "[I"] ++ wsX50)
def wsX5_letter : List Cond := .code yX5_letter cX5_letter 1 (some .int) :: ([.methodLink RX5 39 yX5_addNode, .instanceMethod yX5_addNode, .selects RX5 yX5_addNode yX5_addNode, .initialized RX5, .code yX5_addNode cX5_addNode 2 (some .int), .fieldLink RX5 13 "MarkDesk$Types" "form" "[I", .fieldLink RX5 35 "MarkDesk$Types" "used" "I", .fieldLink RX5 17 "MarkDesk$Types" "sameAs" "[I", .fieldLink RX5 26 "MarkDesk$Types" "progress" "[I", .fieldLink RX5 29 "MarkDesk$Types" "partsSeen" "[I"] ++ wsX50)
def wsX5_function : List Cond := .code yX5_function cX5_function 6 (some .int) :: ([.fieldLink RX5 20 "MarkDesk$Types" "parts" "[I", .methodLink RX5 39 yX5_addNode, .instanceMethod yX5_addNode, .selects RX5 yX5_addNode yX5_addNode, .initialized RX5, .code yX5_addNode cX5_addNode 2 (some .int), .fieldLink RX5 13 "MarkDesk$Types" "form" "[I", .fieldLink RX5 35 "MarkDesk$Types" "used" "I", .fieldLink RX5 17 "MarkDesk$Types" "sameAs" "[I", .fieldLink RX5 26 "MarkDesk$Types" "progress" "[I", .fieldLink RX5 29 "MarkDesk$Types" "partsSeen" "[I"] ++ wsX50)
def wsX5_addPair : List Cond := .code yX5_addPair cX5_addPair 3 none :: ([.fieldLink RX5 23 "MarkDesk$Types" "pairs" "[I", .fieldLink RX5 46 "MarkDesk$Types" "pending" "I"] ++ wsX50)
def wsX5_join : List Cond := .code yX5_join cX5_join 4 (some .boolean) :: ([.fieldLink RX5 13 "MarkDesk$Types" "form" "[I", .fieldLink RX5 17 "MarkDesk$Types" "sameAs" "[I", .fieldLink RX5 20 "MarkDesk$Types" "parts" "[I", .methodLink RX5 49 yX5_addPair, .instanceMethod yX5_addPair, .selects RX5 yX5_addPair yX5_addPair, .initialized RX5, .code yX5_addPair cX5_addPair 3 none, .fieldLink RX5 23 "MarkDesk$Types" "pairs" "[I", .fieldLink RX5 46 "MarkDesk$Types" "pending" "I"] ++ wsX50)
def wsX5_makeSame : List Cond := .code yX5_makeSame cX5_makeSame 6 (some .boolean) :: ([.fieldLink RX5 46 "MarkDesk$Types" "pending" "I", .fieldLink RX5 23 "MarkDesk$Types" "pairs" "[I", .methodLink RX5 49 yX5_addPair, .instanceMethod yX5_addPair, .selects RX5 yX5_addPair yX5_addPair, .initialized RX5, .code yX5_addPair cX5_addPair 3 none, .methodLink RX5 43 yX5_chosen, .instanceMethod yX5_chosen, .selects RX5 yX5_chosen yX5_chosen, .code yX5_chosen cX5_chosen 4 (some .int), .fieldLink RX5 35 "MarkDesk$Types" "used" "I", .fieldLink RX5 17 "MarkDesk$Types" "sameAs" "[I", .methodLink RX5 53 yX5_join, .instanceMethod yX5_join, .selects RX5 yX5_join yX5_join, .code yX5_join cX5_join 4 (some .boolean), .fieldLink RX5 13 "MarkDesk$Types" "form" "[I", .fieldLink RX5 20 "MarkDesk$Types" "parts" "[I"] ++ wsX50)
def wsX5_endsEverywhere : List Cond := .code yX5_endsEverywhere cX5_endsEverywhere 6 (some .boolean) :: ([.fieldLink RX5 32 "MarkDesk$Types" "path" "[I", .fieldLink RX5 26 "MarkDesk$Types" "progress" "[I", .fieldLink RX5 29 "MarkDesk$Types" "partsSeen" "[I", .fieldLink RX5 13 "MarkDesk$Types" "form" "[I", .methodLink RX5 61 yX5_chosenPart, .instanceMethod yX5_chosenPart, .selects RX5 yX5_chosenPart yX5_chosenPart, .initialized RX5, .code yX5_chosenPart cX5_chosenPart 3 (some .int), .fieldLink RX5 20 "MarkDesk$Types" "parts" "[I", .methodLink RX5 43 yX5_chosen, .instanceMethod yX5_chosen, .selects RX5 yX5_chosen yX5_chosen, .code yX5_chosen cX5_chosen 4 (some .int), .fieldLink RX5 35 "MarkDesk$Types" "used" "I", .fieldLink RX5 17 "MarkDesk$Types" "sameAs" "[I"] ++ wsX50)
def wsX5_noneContainsItself : List Cond := .code yX5_noneContainsItself cX5_noneContainsItself 3 (some .boolean) :: ([.fieldLink RX5 35 "MarkDesk$Types" "used" "I", .fieldLink RX5 13 "MarkDesk$Types" "form" "[I", .fieldLink RX5 26 "MarkDesk$Types" "progress" "[I", .methodLink RX5 43 yX5_chosen, .instanceMethod yX5_chosen, .selects RX5 yX5_chosen yX5_chosen, .initialized RX5, .code yX5_chosen cX5_chosen 4 (some .int), .fieldLink RX5 17 "MarkDesk$Types" "sameAs" "[I", .methodLink RX5 57 yX5_endsEverywhere, .instanceMethod yX5_endsEverywhere, .selects RX5 yX5_endsEverywhere yX5_endsEverywhere, .code yX5_endsEverywhere cX5_endsEverywhere 6 (some .boolean), .fieldLink RX5 32 "MarkDesk$Types" "path" "[I", .fieldLink RX5 29 "MarkDesk$Types" "partsSeen" "[I", .methodLink RX5 61 yX5_chosenPart, .instanceMethod yX5_chosenPart, .selects RX5 yX5_chosenPart yX5_chosenPart, .code yX5_chosenPart cX5_chosenPart 3 (some .int), .fieldLink RX5 20 "MarkDesk$Types" "parts" "[I"] ++ wsX50)
def wsX6_init : List Cond := .code yX6_init cX6_init 2 none :: ([.methodLink RX6 5 objectInit, .instanceMethod objectInit, .code objectInit ⟨#[0xb1]⟩ 1 none, .classLink RX6 11 RX5, .instantiable RX5 9, .initialized RX5, .fieldLink RX6 14 "MarkDesk$Typing" "types" "LMarkDesk$Types;", .arrayClass .int, .fieldLink RX6 20 "MarkDesk$Typing" "boundType" "[I", .fieldLink RX6 24 "MarkDesk$Typing" "pieceGives" "[I", .fieldLink RX6 27 "MarkDesk$Typing" "terms" "LMarkDesk$Terms;", .instanceMethod yX5_init, .code yX5_init cX5_init 1 none, .methodLink RX5 7 objectInit, .fieldLink RX5 13 "MarkDesk$Types" "form" "[I", .fieldLink RX5 17 "MarkDesk$Types" "sameAs" "[I", .fieldLink RX5 20 "MarkDesk$Types" "parts" "[I", .fieldLink RX5 23 "MarkDesk$Types" "pairs" "[I", .fieldLink RX5 26 "MarkDesk$Types" "progress" "[I", .fieldLink RX5 29 "MarkDesk$Types" "partsSeen" "[I", .fieldLink RX5 32 "MarkDesk$Types" "path" "[I"] ++ wsX50 ++ wsX60)
def wsX6_bind : List Cond := .code yX6_bind cX6_bind 3 none :: ([.fieldLink RX6 20 "MarkDesk$Typing" "boundType" "[I", .fieldLink RX6 34 "MarkDesk$Typing" "bound" "I", .fieldLink RX6 24 "MarkDesk$Typing" "pieceGives" "[I"] ++ wsX60)
def wsX6_typeOfVariable : List Cond := .code yX6_typeOfVariable cX6_typeOfVariable 4 (some .int) :: ([.fieldLink RX6 34 "MarkDesk$Typing" "bound" "I", .fieldLink RX6 14 "MarkDesk$Typing" "types" "LMarkDesk$Types;", .fieldLink RX6 24 "MarkDesk$Typing" "pieceGives" "[I", .fieldLink RX6 20 "MarkDesk$Typing" "boundType" "[I", .methodLink RX6 38 yX5_letter, .instanceMethod yX5_letter, .selects RX5 yX5_letter yX5_letter, .initialized RX5, .code yX5_letter cX5_letter 1 (some .int), .methodLink RX5 39 yX5_addNode, .instanceMethod yX5_addNode, .selects RX5 yX5_addNode yX5_addNode, .code yX5_addNode cX5_addNode 2 (some .int), .fieldLink RX5 13 "MarkDesk$Types" "form" "[I", .fieldLink RX5 35 "MarkDesk$Types" "used" "I", .fieldLink RX5 17 "MarkDesk$Types" "sameAs" "[I", .fieldLink RX5 26 "MarkDesk$Types" "progress" "[I", .fieldLink RX5 29 "MarkDesk$Types" "partsSeen" "[I", .methodLink RX6 87 yX5_function, .instanceMethod yX5_function, .selects RX5 yX5_function yX5_function, .code yX5_function cX5_function 6 (some .int), .fieldLink RX5 20 "MarkDesk$Types" "parts" "[I"] ++ wsX60 ++ wsX50)
def wsX6_callHolds_r1 : List Cond := [Cond.fieldLink RX6 14 "MarkDesk$Typing" "types" "LMarkDesk$Types;", Cond.fieldLink RX6 27 "MarkDesk$Typing" "terms" "LMarkDesk$Terms;", Cond.fieldLink RX6 50 "MarkDesk$Terms" "first" "[I", Cond.fieldLink RX6 97 "MarkDesk$Terms" "second" "[I", Cond.methodLink RX6 38 yX5_letter, Cond.instanceMethod yX5_letter, Cond.selects RX5 yX5_letter yX5_letter, Cond.initialized RX5, Cond.code yX5_letter cX5_letter 1 (some .int), Cond.methodLink RX5 39 yX5_addNode, Cond.instanceMethod yX5_addNode, Cond.selects RX5 yX5_addNode yX5_addNode, Cond.code yX5_addNode cX5_addNode 2 (some .int), Cond.fieldLink RX5 13 "MarkDesk$Types" "form" "[I", Cond.fieldLink RX5 35 "MarkDesk$Types" "used" "I", Cond.fieldLink RX5 17 "MarkDesk$Types" "sameAs" "[I", Cond.fieldLink RX5 26 "MarkDesk$Types" "progress" "[I", Cond.fieldLink RX5 29 "MarkDesk$Types" "partsSeen" "[I", Cond.methodLink RX6 87 yX5_function, Cond.instanceMethod yX5_function, Cond.selects RX5 yX5_function yX5_function, Cond.code yX5_function cX5_function 6 (some .int), Cond.fieldLink RX5 20 "MarkDesk$Types" "parts" "[I", Cond.methodLink RX6 42 yX6_holds]
def wsX6_callHolds_r2 : List Cond := [Cond.instanceMethod yX6_holds, Cond.selects RX6 yX6_holds yX6_holds, Cond.initialized RX6, Cond.code yX6_functionHolds cX6_functionHolds 11 (some .boolean), Cond.fieldLink RX6 34 "MarkDesk$Typing" "bound" "I", Cond.fieldLink RX6 53 "MarkDesk$Terms" "kind" "[I", Cond.methodLink RX6 93 yX6_bind, Cond.instanceMethod yX6_bind, Cond.selects RX6 yX6_bind yX6_bind, Cond.code yX6_bind cX6_bind 3 none, Cond.fieldLink RX6 20 "MarkDesk$Typing" "boundType" "[I", Cond.fieldLink RX6 24 "MarkDesk$Typing" "pieceGives" "[I", Cond.methodLink RX6 56 yX5_makeSame, Cond.instanceMethod yX5_makeSame, Cond.selects RX5 yX5_makeSame yX5_makeSame, Cond.code yX5_makeSame cX5_makeSame 6 (some .boolean), Cond.fieldLink RX5 46 "MarkDesk$Types" "pending" "I", Cond.fieldLink RX5 23 "MarkDesk$Types" "pairs" "[I", Cond.methodLink RX5 49 yX5_addPair, Cond.instanceMethod yX5_addPair, Cond.selects RX5 yX5_addPair yX5_addPair, Cond.code yX5_addPair cX5_addPair 3 none, Cond.methodLink RX5 43 yX5_chosen, Cond.instanceMethod yX5_chosen]
def wsX6_callHolds_r3 : List Cond := [Cond.selects RX5 yX5_chosen yX5_chosen, Cond.code yX5_chosen cX5_chosen 4 (some .int), Cond.methodLink RX5 53 yX5_join, Cond.instanceMethod yX5_join, Cond.selects RX5 yX5_join yX5_join, Cond.code yX5_join cX5_join 4 (some .boolean), Cond.code yX6_holds cX6_holds 7 (some .boolean), Cond.methodLink RX6 60 yX6_typeOfVariable, Cond.instanceMethod yX6_typeOfVariable, Cond.selects RX6 yX6_typeOfVariable yX6_typeOfVariable, Cond.code yX6_typeOfVariable cX6_typeOfVariable 4 (some .int), Cond.methodLink RX6 64 yX6_functionHolds, Cond.instanceMethod yX6_functionHolds, Cond.selects RX6 yX6_functionHolds yX6_functionHolds, Cond.methodLink RX6 68 yX6_callHolds, Cond.instanceMethod yX6_callHolds, Cond.selects RX6 yX6_callHolds yX6_callHolds, Cond.methodLink RX6 71 yX6_numbersHold, Cond.instanceMethod yX6_numbersHold, Cond.selects RX6 yX6_numbersHold yX6_numbersHold, Cond.methodLink RX6 75 yX6_ifHolds, Cond.instanceMethod yX6_ifHolds, Cond.selects RX6 yX6_ifHolds yX6_ifHolds, Cond.methodLink RX6 78 yX6_letHolds]
def wsX6_callHolds_r4 : List Cond := [Cond.instanceMethod yX6_letHolds, Cond.selects RX6 yX6_letHolds yX6_letHolds, Cond.methodLink RX6 81 yX6_wholeHolds, Cond.instanceMethod yX6_wholeHolds, Cond.selects RX6 yX6_wholeHolds yX6_wholeHolds, Cond.methodLink RX6 84 yX6_takeHolds, Cond.instanceMethod yX6_takeHolds, Cond.selects RX6 yX6_takeHolds yX6_takeHolds, Cond.code yX6_ifHolds cX6_ifHolds 7 (some .boolean), Cond.fieldLink RX6 100 "MarkDesk$Terms" "third" "[I", Cond.code yX6_letHolds cX6_letHolds 9 (some .boolean), Cond.code yX6_numbersHold cX6_numbersHold 6 (some .boolean), Cond.code yX6_takeHolds cX6_takeHolds 7 (some .boolean), Cond.code yX6_wholeHolds cX6_wholeHolds 5 (some .boolean)]
def wsX6_callHolds : List Cond := .code yX6_callHolds cX6_callHolds 10 (some .boolean) :: ((wsX6_callHolds_r1 ++ (wsX6_callHolds_r2 ++ (wsX6_callHolds_r3 ++ wsX6_callHolds_r4))) ++ wsX60 ++ wsX40 ++ wsX50)
def wsX6_functionHolds_r1 : List Cond := [Cond.fieldLink RX6 14 "MarkDesk$Typing" "types" "LMarkDesk$Types;", Cond.fieldLink RX6 34 "MarkDesk$Typing" "bound" "I", Cond.fieldLink RX6 27 "MarkDesk$Typing" "terms" "LMarkDesk$Terms;", Cond.fieldLink RX6 53 "MarkDesk$Terms" "kind" "[I", Cond.fieldLink RX6 50 "MarkDesk$Terms" "first" "[I", Cond.methodLink RX6 38 yX5_letter, Cond.instanceMethod yX5_letter, Cond.selects RX5 yX5_letter yX5_letter, Cond.initialized RX5, Cond.code yX5_letter cX5_letter 1 (some .int), Cond.methodLink RX5 39 yX5_addNode, Cond.instanceMethod yX5_addNode, Cond.selects RX5 yX5_addNode yX5_addNode, Cond.code yX5_addNode cX5_addNode 2 (some .int), Cond.fieldLink RX5 13 "MarkDesk$Types" "form" "[I", Cond.fieldLink RX5 35 "MarkDesk$Types" "used" "I", Cond.fieldLink RX5 17 "MarkDesk$Types" "sameAs" "[I", Cond.fieldLink RX5 26 "MarkDesk$Types" "progress" "[I", Cond.fieldLink RX5 29 "MarkDesk$Types" "partsSeen" "[I", Cond.methodLink RX6 87 yX5_function, Cond.instanceMethod yX5_function, Cond.selects RX5 yX5_function yX5_function, Cond.code yX5_function cX5_function 6 (some .int), Cond.fieldLink RX5 20 "MarkDesk$Types" "parts" "[I"]
def wsX6_functionHolds_r2 : List Cond := [Cond.methodLink RX6 93 yX6_bind, Cond.instanceMethod yX6_bind, Cond.selects RX6 yX6_bind yX6_bind, Cond.initialized RX6, Cond.code yX6_bind cX6_bind 3 none, Cond.fieldLink RX6 20 "MarkDesk$Typing" "boundType" "[I", Cond.fieldLink RX6 24 "MarkDesk$Typing" "pieceGives" "[I", Cond.methodLink RX6 42 yX6_holds, Cond.instanceMethod yX6_holds, Cond.selects RX6 yX6_holds yX6_holds, Cond.methodLink RX6 56 yX5_makeSame, Cond.instanceMethod yX5_makeSame, Cond.selects RX5 yX5_makeSame yX5_makeSame, Cond.code yX5_makeSame cX5_makeSame 6 (some .boolean), Cond.fieldLink RX5 46 "MarkDesk$Types" "pending" "I", Cond.fieldLink RX5 23 "MarkDesk$Types" "pairs" "[I", Cond.methodLink RX5 49 yX5_addPair, Cond.instanceMethod yX5_addPair, Cond.selects RX5 yX5_addPair yX5_addPair, Cond.code yX5_addPair cX5_addPair 3 none, Cond.methodLink RX5 43 yX5_chosen, Cond.instanceMethod yX5_chosen, Cond.selects RX5 yX5_chosen yX5_chosen, Cond.code yX5_chosen cX5_chosen 4 (some .int)]
def wsX6_functionHolds_r3 : List Cond := [Cond.methodLink RX5 53 yX5_join, Cond.instanceMethod yX5_join, Cond.selects RX5 yX5_join yX5_join, Cond.code yX5_join cX5_join 4 (some .boolean), Cond.code yX6_callHolds cX6_callHolds 10 (some .boolean), Cond.fieldLink RX6 97 "MarkDesk$Terms" "second" "[I", Cond.code yX6_holds cX6_holds 7 (some .boolean), Cond.methodLink RX6 60 yX6_typeOfVariable, Cond.instanceMethod yX6_typeOfVariable, Cond.selects RX6 yX6_typeOfVariable yX6_typeOfVariable, Cond.code yX6_typeOfVariable cX6_typeOfVariable 4 (some .int), Cond.methodLink RX6 64 yX6_functionHolds, Cond.instanceMethod yX6_functionHolds, Cond.selects RX6 yX6_functionHolds yX6_functionHolds, Cond.methodLink RX6 68 yX6_callHolds, Cond.instanceMethod yX6_callHolds, Cond.selects RX6 yX6_callHolds yX6_callHolds, Cond.methodLink RX6 71 yX6_numbersHold, Cond.instanceMethod yX6_numbersHold, Cond.selects RX6 yX6_numbersHold yX6_numbersHold, Cond.methodLink RX6 75 yX6_ifHolds, Cond.instanceMethod yX6_ifHolds, Cond.selects RX6 yX6_ifHolds yX6_ifHolds, Cond.methodLink RX6 78 yX6_letHolds]
def wsX6_functionHolds_r4 : List Cond := [Cond.instanceMethod yX6_letHolds, Cond.selects RX6 yX6_letHolds yX6_letHolds, Cond.methodLink RX6 81 yX6_wholeHolds, Cond.instanceMethod yX6_wholeHolds, Cond.selects RX6 yX6_wholeHolds yX6_wholeHolds, Cond.methodLink RX6 84 yX6_takeHolds, Cond.instanceMethod yX6_takeHolds, Cond.selects RX6 yX6_takeHolds yX6_takeHolds, Cond.code yX6_ifHolds cX6_ifHolds 7 (some .boolean), Cond.fieldLink RX6 100 "MarkDesk$Terms" "third" "[I", Cond.code yX6_letHolds cX6_letHolds 9 (some .boolean), Cond.code yX6_numbersHold cX6_numbersHold 6 (some .boolean), Cond.code yX6_takeHolds cX6_takeHolds 7 (some .boolean), Cond.code yX6_wholeHolds cX6_wholeHolds 5 (some .boolean)]
def wsX6_functionHolds : List Cond := .code yX6_functionHolds cX6_functionHolds 11 (some .boolean) :: ((wsX6_functionHolds_r1 ++ (wsX6_functionHolds_r2 ++ (wsX6_functionHolds_r3 ++ wsX6_functionHolds_r4))) ++ wsX60 ++ wsX40 ++ wsX50)
def wsX6_holds_r1 : List Cond := [Cond.fieldLink RX6 27 "MarkDesk$Typing" "terms" "LMarkDesk$Terms;", Cond.fieldLink RX6 50 "MarkDesk$Terms" "first" "[I", Cond.fieldLink RX6 53 "MarkDesk$Terms" "kind" "[I", Cond.fieldLink RX6 14 "MarkDesk$Typing" "types" "LMarkDesk$Types;", Cond.methodLink RX6 56 yX5_makeSame, Cond.instanceMethod yX5_makeSame, Cond.selects RX5 yX5_makeSame yX5_makeSame, Cond.initialized RX5, Cond.code yX5_makeSame cX5_makeSame 6 (some .boolean), Cond.fieldLink RX5 46 "MarkDesk$Types" "pending" "I", Cond.fieldLink RX5 23 "MarkDesk$Types" "pairs" "[I", Cond.methodLink RX5 49 yX5_addPair, Cond.instanceMethod yX5_addPair, Cond.selects RX5 yX5_addPair yX5_addPair, Cond.code yX5_addPair cX5_addPair 3 none, Cond.methodLink RX5 43 yX5_chosen, Cond.instanceMethod yX5_chosen, Cond.selects RX5 yX5_chosen yX5_chosen, Cond.code yX5_chosen cX5_chosen 4 (some .int), Cond.fieldLink RX5 35 "MarkDesk$Types" "used" "I", Cond.fieldLink RX5 17 "MarkDesk$Types" "sameAs" "[I", Cond.methodLink RX5 53 yX5_join, Cond.instanceMethod yX5_join, Cond.selects RX5 yX5_join yX5_join]
def wsX6_holds_r2 : List Cond := [Cond.code yX5_join cX5_join 4 (some .boolean), Cond.fieldLink RX5 13 "MarkDesk$Types" "form" "[I", Cond.fieldLink RX5 20 "MarkDesk$Types" "parts" "[I", Cond.methodLink RX6 60 yX6_typeOfVariable, Cond.instanceMethod yX6_typeOfVariable, Cond.selects RX6 yX6_typeOfVariable yX6_typeOfVariable, Cond.initialized RX6, Cond.code yX6_typeOfVariable cX6_typeOfVariable 4 (some .int), Cond.fieldLink RX6 34 "MarkDesk$Typing" "bound" "I", Cond.fieldLink RX6 24 "MarkDesk$Typing" "pieceGives" "[I", Cond.fieldLink RX6 20 "MarkDesk$Typing" "boundType" "[I", Cond.methodLink RX6 38 yX5_letter, Cond.instanceMethod yX5_letter, Cond.selects RX5 yX5_letter yX5_letter, Cond.code yX5_letter cX5_letter 1 (some .int), Cond.methodLink RX5 39 yX5_addNode, Cond.instanceMethod yX5_addNode, Cond.selects RX5 yX5_addNode yX5_addNode, Cond.code yX5_addNode cX5_addNode 2 (some .int), Cond.fieldLink RX5 26 "MarkDesk$Types" "progress" "[I", Cond.fieldLink RX5 29 "MarkDesk$Types" "partsSeen" "[I", Cond.methodLink RX6 87 yX5_function, Cond.instanceMethod yX5_function, Cond.selects RX5 yX5_function yX5_function]
def wsX6_holds_r3 : List Cond := [Cond.code yX5_function cX5_function 6 (some .int), Cond.methodLink RX6 64 yX6_functionHolds, Cond.instanceMethod yX6_functionHolds, Cond.selects RX6 yX6_functionHolds yX6_functionHolds, Cond.methodLink RX6 68 yX6_callHolds, Cond.instanceMethod yX6_callHolds, Cond.selects RX6 yX6_callHolds yX6_callHolds, Cond.methodLink RX6 71 yX6_numbersHold, Cond.instanceMethod yX6_numbersHold, Cond.selects RX6 yX6_numbersHold yX6_numbersHold, Cond.methodLink RX6 75 yX6_ifHolds, Cond.instanceMethod yX6_ifHolds, Cond.selects RX6 yX6_ifHolds yX6_ifHolds, Cond.methodLink RX6 78 yX6_letHolds, Cond.instanceMethod yX6_letHolds, Cond.selects RX6 yX6_letHolds yX6_letHolds, Cond.methodLink RX6 81 yX6_wholeHolds, Cond.instanceMethod yX6_wholeHolds, Cond.selects RX6 yX6_wholeHolds yX6_wholeHolds, Cond.methodLink RX6 84 yX6_takeHolds, Cond.instanceMethod yX6_takeHolds, Cond.selects RX6 yX6_takeHolds yX6_takeHolds, Cond.code yX6_callHolds cX6_callHolds 10 (some .boolean), Cond.fieldLink RX6 97 "MarkDesk$Terms" "second" "[I"]
def wsX6_holds_r4 : List Cond := [Cond.methodLink RX6 42 yX6_holds, Cond.instanceMethod yX6_holds, Cond.selects RX6 yX6_holds yX6_holds, Cond.code yX6_functionHolds cX6_functionHolds 11 (some .boolean), Cond.methodLink RX6 93 yX6_bind, Cond.instanceMethod yX6_bind, Cond.selects RX6 yX6_bind yX6_bind, Cond.code yX6_bind cX6_bind 3 none, Cond.code yX6_ifHolds cX6_ifHolds 7 (some .boolean), Cond.fieldLink RX6 100 "MarkDesk$Terms" "third" "[I", Cond.code yX6_letHolds cX6_letHolds 9 (some .boolean), Cond.code yX6_numbersHold cX6_numbersHold 6 (some .boolean), Cond.code yX6_takeHolds cX6_takeHolds 7 (some .boolean), Cond.code yX6_wholeHolds cX6_wholeHolds 5 (some .boolean)]
def wsX6_holds : List Cond := .code yX6_holds cX6_holds 7 (some .boolean) :: ((wsX6_holds_r1 ++ (wsX6_holds_r2 ++ (wsX6_holds_r3 ++ wsX6_holds_r4))) ++ wsX60 ++ wsX40 ++ wsX50)
def wsX6_ifHolds_r1 : List Cond := [Cond.fieldLink RX6 14 "MarkDesk$Typing" "types" "LMarkDesk$Types;", Cond.fieldLink RX6 27 "MarkDesk$Typing" "terms" "LMarkDesk$Terms;", Cond.fieldLink RX6 50 "MarkDesk$Terms" "first" "[I", Cond.fieldLink RX6 97 "MarkDesk$Terms" "second" "[I", Cond.fieldLink RX6 100 "MarkDesk$Terms" "third" "[I", Cond.methodLink RX6 38 yX5_letter, Cond.instanceMethod yX5_letter, Cond.selects RX5 yX5_letter yX5_letter, Cond.initialized RX5, Cond.code yX5_letter cX5_letter 1 (some .int), Cond.methodLink RX5 39 yX5_addNode, Cond.instanceMethod yX5_addNode, Cond.selects RX5 yX5_addNode yX5_addNode, Cond.code yX5_addNode cX5_addNode 2 (some .int), Cond.fieldLink RX5 13 "MarkDesk$Types" "form" "[I", Cond.fieldLink RX5 35 "MarkDesk$Types" "used" "I", Cond.fieldLink RX5 17 "MarkDesk$Types" "sameAs" "[I", Cond.fieldLink RX5 26 "MarkDesk$Types" "progress" "[I", Cond.fieldLink RX5 29 "MarkDesk$Types" "partsSeen" "[I", Cond.methodLink RX6 42 yX6_holds, Cond.instanceMethod yX6_holds, Cond.selects RX6 yX6_holds yX6_holds, Cond.initialized RX6, Cond.code yX6_callHolds cX6_callHolds 10 (some .boolean)]
def wsX6_ifHolds_r2 : List Cond := [Cond.methodLink RX6 87 yX5_function, Cond.instanceMethod yX5_function, Cond.selects RX5 yX5_function yX5_function, Cond.code yX5_function cX5_function 6 (some .int), Cond.fieldLink RX5 20 "MarkDesk$Types" "parts" "[I", Cond.code yX6_functionHolds cX6_functionHolds 11 (some .boolean), Cond.fieldLink RX6 34 "MarkDesk$Typing" "bound" "I", Cond.fieldLink RX6 53 "MarkDesk$Terms" "kind" "[I", Cond.methodLink RX6 93 yX6_bind, Cond.instanceMethod yX6_bind, Cond.selects RX6 yX6_bind yX6_bind, Cond.code yX6_bind cX6_bind 3 none, Cond.fieldLink RX6 20 "MarkDesk$Typing" "boundType" "[I", Cond.fieldLink RX6 24 "MarkDesk$Typing" "pieceGives" "[I", Cond.methodLink RX6 56 yX5_makeSame, Cond.instanceMethod yX5_makeSame, Cond.selects RX5 yX5_makeSame yX5_makeSame, Cond.code yX5_makeSame cX5_makeSame 6 (some .boolean), Cond.fieldLink RX5 46 "MarkDesk$Types" "pending" "I", Cond.fieldLink RX5 23 "MarkDesk$Types" "pairs" "[I", Cond.methodLink RX5 49 yX5_addPair, Cond.instanceMethod yX5_addPair, Cond.selects RX5 yX5_addPair yX5_addPair, Cond.code yX5_addPair cX5_addPair 3 none]
def wsX6_ifHolds_r3 : List Cond := [Cond.methodLink RX5 43 yX5_chosen, Cond.instanceMethod yX5_chosen, Cond.selects RX5 yX5_chosen yX5_chosen, Cond.code yX5_chosen cX5_chosen 4 (some .int), Cond.methodLink RX5 53 yX5_join, Cond.instanceMethod yX5_join, Cond.selects RX5 yX5_join yX5_join, Cond.code yX5_join cX5_join 4 (some .boolean), Cond.code yX6_holds cX6_holds 7 (some .boolean), Cond.methodLink RX6 60 yX6_typeOfVariable, Cond.instanceMethod yX6_typeOfVariable, Cond.selects RX6 yX6_typeOfVariable yX6_typeOfVariable, Cond.code yX6_typeOfVariable cX6_typeOfVariable 4 (some .int), Cond.methodLink RX6 64 yX6_functionHolds, Cond.instanceMethod yX6_functionHolds, Cond.selects RX6 yX6_functionHolds yX6_functionHolds, Cond.methodLink RX6 68 yX6_callHolds, Cond.instanceMethod yX6_callHolds, Cond.selects RX6 yX6_callHolds yX6_callHolds, Cond.methodLink RX6 71 yX6_numbersHold, Cond.instanceMethod yX6_numbersHold, Cond.selects RX6 yX6_numbersHold yX6_numbersHold, Cond.methodLink RX6 75 yX6_ifHolds, Cond.instanceMethod yX6_ifHolds]
def wsX6_ifHolds_r4 : List Cond := [Cond.selects RX6 yX6_ifHolds yX6_ifHolds, Cond.methodLink RX6 78 yX6_letHolds, Cond.instanceMethod yX6_letHolds, Cond.selects RX6 yX6_letHolds yX6_letHolds, Cond.methodLink RX6 81 yX6_wholeHolds, Cond.instanceMethod yX6_wholeHolds, Cond.selects RX6 yX6_wholeHolds yX6_wholeHolds, Cond.methodLink RX6 84 yX6_takeHolds, Cond.instanceMethod yX6_takeHolds, Cond.selects RX6 yX6_takeHolds yX6_takeHolds, Cond.code yX6_letHolds cX6_letHolds 9 (some .boolean), Cond.code yX6_numbersHold cX6_numbersHold 6 (some .boolean), Cond.code yX6_takeHolds cX6_takeHolds 7 (some .boolean), Cond.code yX6_wholeHolds cX6_wholeHolds 5 (some .boolean)]
def wsX6_ifHolds : List Cond := .code yX6_ifHolds cX6_ifHolds 7 (some .boolean) :: ((wsX6_ifHolds_r1 ++ (wsX6_ifHolds_r2 ++ (wsX6_ifHolds_r3 ++ wsX6_ifHolds_r4))) ++ wsX60 ++ wsX40 ++ wsX50)
def wsX6_letHolds_r1 : List Cond := [Cond.fieldLink RX6 14 "MarkDesk$Typing" "types" "LMarkDesk$Types;", Cond.fieldLink RX6 27 "MarkDesk$Typing" "terms" "LMarkDesk$Terms;", Cond.fieldLink RX6 50 "MarkDesk$Terms" "first" "[I", Cond.fieldLink RX6 97 "MarkDesk$Terms" "second" "[I", Cond.fieldLink RX6 34 "MarkDesk$Typing" "bound" "I", Cond.methodLink RX6 38 yX5_letter, Cond.instanceMethod yX5_letter, Cond.selects RX5 yX5_letter yX5_letter, Cond.initialized RX5, Cond.code yX5_letter cX5_letter 1 (some .int), Cond.methodLink RX5 39 yX5_addNode, Cond.instanceMethod yX5_addNode, Cond.selects RX5 yX5_addNode yX5_addNode, Cond.code yX5_addNode cX5_addNode 2 (some .int), Cond.fieldLink RX5 13 "MarkDesk$Types" "form" "[I", Cond.fieldLink RX5 35 "MarkDesk$Types" "used" "I", Cond.fieldLink RX5 17 "MarkDesk$Types" "sameAs" "[I", Cond.fieldLink RX5 26 "MarkDesk$Types" "progress" "[I", Cond.fieldLink RX5 29 "MarkDesk$Types" "partsSeen" "[I", Cond.methodLink RX6 42 yX6_holds, Cond.instanceMethod yX6_holds, Cond.selects RX6 yX6_holds yX6_holds, Cond.initialized RX6, Cond.methodLink RX6 93 yX6_bind]
def wsX6_letHolds_r2 : List Cond := [Cond.instanceMethod yX6_bind, Cond.selects RX6 yX6_bind yX6_bind, Cond.code yX6_bind cX6_bind 3 none, Cond.fieldLink RX6 20 "MarkDesk$Typing" "boundType" "[I", Cond.fieldLink RX6 24 "MarkDesk$Typing" "pieceGives" "[I", Cond.code yX6_callHolds cX6_callHolds 10 (some .boolean), Cond.methodLink RX6 87 yX5_function, Cond.instanceMethod yX5_function, Cond.selects RX5 yX5_function yX5_function, Cond.code yX5_function cX5_function 6 (some .int), Cond.fieldLink RX5 20 "MarkDesk$Types" "parts" "[I", Cond.code yX6_functionHolds cX6_functionHolds 11 (some .boolean), Cond.fieldLink RX6 53 "MarkDesk$Terms" "kind" "[I", Cond.methodLink RX6 56 yX5_makeSame, Cond.instanceMethod yX5_makeSame, Cond.selects RX5 yX5_makeSame yX5_makeSame, Cond.code yX5_makeSame cX5_makeSame 6 (some .boolean), Cond.fieldLink RX5 46 "MarkDesk$Types" "pending" "I", Cond.fieldLink RX5 23 "MarkDesk$Types" "pairs" "[I", Cond.methodLink RX5 49 yX5_addPair, Cond.instanceMethod yX5_addPair, Cond.selects RX5 yX5_addPair yX5_addPair, Cond.code yX5_addPair cX5_addPair 3 none, Cond.methodLink RX5 43 yX5_chosen]
def wsX6_letHolds_r3 : List Cond := [Cond.instanceMethod yX5_chosen, Cond.selects RX5 yX5_chosen yX5_chosen, Cond.code yX5_chosen cX5_chosen 4 (some .int), Cond.methodLink RX5 53 yX5_join, Cond.instanceMethod yX5_join, Cond.selects RX5 yX5_join yX5_join, Cond.code yX5_join cX5_join 4 (some .boolean), Cond.code yX6_holds cX6_holds 7 (some .boolean), Cond.methodLink RX6 60 yX6_typeOfVariable, Cond.instanceMethod yX6_typeOfVariable, Cond.selects RX6 yX6_typeOfVariable yX6_typeOfVariable, Cond.code yX6_typeOfVariable cX6_typeOfVariable 4 (some .int), Cond.methodLink RX6 64 yX6_functionHolds, Cond.instanceMethod yX6_functionHolds, Cond.selects RX6 yX6_functionHolds yX6_functionHolds, Cond.methodLink RX6 68 yX6_callHolds, Cond.instanceMethod yX6_callHolds, Cond.selects RX6 yX6_callHolds yX6_callHolds, Cond.methodLink RX6 71 yX6_numbersHold, Cond.instanceMethod yX6_numbersHold, Cond.selects RX6 yX6_numbersHold yX6_numbersHold, Cond.methodLink RX6 75 yX6_ifHolds, Cond.instanceMethod yX6_ifHolds, Cond.selects RX6 yX6_ifHolds yX6_ifHolds]
def wsX6_letHolds_r4 : List Cond := [Cond.methodLink RX6 78 yX6_letHolds, Cond.instanceMethod yX6_letHolds, Cond.selects RX6 yX6_letHolds yX6_letHolds, Cond.methodLink RX6 81 yX6_wholeHolds, Cond.instanceMethod yX6_wholeHolds, Cond.selects RX6 yX6_wholeHolds yX6_wholeHolds, Cond.methodLink RX6 84 yX6_takeHolds, Cond.instanceMethod yX6_takeHolds, Cond.selects RX6 yX6_takeHolds yX6_takeHolds, Cond.code yX6_ifHolds cX6_ifHolds 7 (some .boolean), Cond.fieldLink RX6 100 "MarkDesk$Terms" "third" "[I", Cond.code yX6_numbersHold cX6_numbersHold 6 (some .boolean), Cond.code yX6_takeHolds cX6_takeHolds 7 (some .boolean), Cond.code yX6_wholeHolds cX6_wholeHolds 5 (some .boolean)]
def wsX6_letHolds : List Cond := .code yX6_letHolds cX6_letHolds 9 (some .boolean) :: ((wsX6_letHolds_r1 ++ (wsX6_letHolds_r2 ++ (wsX6_letHolds_r3 ++ wsX6_letHolds_r4))) ++ wsX60 ++ wsX40 ++ wsX50)
def wsX6_numbersHold_r1 : List Cond := [Cond.fieldLink RX6 14 "MarkDesk$Typing" "types" "LMarkDesk$Types;", Cond.fieldLink RX6 27 "MarkDesk$Typing" "terms" "LMarkDesk$Terms;", Cond.fieldLink RX6 50 "MarkDesk$Terms" "first" "[I", Cond.fieldLink RX6 97 "MarkDesk$Terms" "second" "[I", Cond.methodLink RX6 38 yX5_letter, Cond.instanceMethod yX5_letter, Cond.selects RX5 yX5_letter yX5_letter, Cond.initialized RX5, Cond.code yX5_letter cX5_letter 1 (some .int), Cond.methodLink RX5 39 yX5_addNode, Cond.instanceMethod yX5_addNode, Cond.selects RX5 yX5_addNode yX5_addNode, Cond.code yX5_addNode cX5_addNode 2 (some .int), Cond.fieldLink RX5 13 "MarkDesk$Types" "form" "[I", Cond.fieldLink RX5 35 "MarkDesk$Types" "used" "I", Cond.fieldLink RX5 17 "MarkDesk$Types" "sameAs" "[I", Cond.fieldLink RX5 26 "MarkDesk$Types" "progress" "[I", Cond.fieldLink RX5 29 "MarkDesk$Types" "partsSeen" "[I", Cond.methodLink RX6 42 yX6_holds, Cond.instanceMethod yX6_holds, Cond.selects RX6 yX6_holds yX6_holds, Cond.initialized RX6, Cond.code yX6_callHolds cX6_callHolds 10 (some .boolean), Cond.methodLink RX6 87 yX5_function]
def wsX6_numbersHold_r2 : List Cond := [Cond.instanceMethod yX5_function, Cond.selects RX5 yX5_function yX5_function, Cond.code yX5_function cX5_function 6 (some .int), Cond.fieldLink RX5 20 "MarkDesk$Types" "parts" "[I", Cond.code yX6_functionHolds cX6_functionHolds 11 (some .boolean), Cond.fieldLink RX6 34 "MarkDesk$Typing" "bound" "I", Cond.fieldLink RX6 53 "MarkDesk$Terms" "kind" "[I", Cond.methodLink RX6 93 yX6_bind, Cond.instanceMethod yX6_bind, Cond.selects RX6 yX6_bind yX6_bind, Cond.code yX6_bind cX6_bind 3 none, Cond.fieldLink RX6 20 "MarkDesk$Typing" "boundType" "[I", Cond.fieldLink RX6 24 "MarkDesk$Typing" "pieceGives" "[I", Cond.methodLink RX6 56 yX5_makeSame, Cond.instanceMethod yX5_makeSame, Cond.selects RX5 yX5_makeSame yX5_makeSame, Cond.code yX5_makeSame cX5_makeSame 6 (some .boolean), Cond.fieldLink RX5 46 "MarkDesk$Types" "pending" "I", Cond.fieldLink RX5 23 "MarkDesk$Types" "pairs" "[I", Cond.methodLink RX5 49 yX5_addPair, Cond.instanceMethod yX5_addPair, Cond.selects RX5 yX5_addPair yX5_addPair, Cond.code yX5_addPair cX5_addPair 3 none, Cond.methodLink RX5 43 yX5_chosen]
def wsX6_numbersHold_r3 : List Cond := [Cond.instanceMethod yX5_chosen, Cond.selects RX5 yX5_chosen yX5_chosen, Cond.code yX5_chosen cX5_chosen 4 (some .int), Cond.methodLink RX5 53 yX5_join, Cond.instanceMethod yX5_join, Cond.selects RX5 yX5_join yX5_join, Cond.code yX5_join cX5_join 4 (some .boolean), Cond.code yX6_holds cX6_holds 7 (some .boolean), Cond.methodLink RX6 60 yX6_typeOfVariable, Cond.instanceMethod yX6_typeOfVariable, Cond.selects RX6 yX6_typeOfVariable yX6_typeOfVariable, Cond.code yX6_typeOfVariable cX6_typeOfVariable 4 (some .int), Cond.methodLink RX6 64 yX6_functionHolds, Cond.instanceMethod yX6_functionHolds, Cond.selects RX6 yX6_functionHolds yX6_functionHolds, Cond.methodLink RX6 68 yX6_callHolds, Cond.instanceMethod yX6_callHolds, Cond.selects RX6 yX6_callHolds yX6_callHolds, Cond.methodLink RX6 71 yX6_numbersHold, Cond.instanceMethod yX6_numbersHold, Cond.selects RX6 yX6_numbersHold yX6_numbersHold, Cond.methodLink RX6 75 yX6_ifHolds, Cond.instanceMethod yX6_ifHolds, Cond.selects RX6 yX6_ifHolds yX6_ifHolds]
def wsX6_numbersHold_r4 : List Cond := [Cond.methodLink RX6 78 yX6_letHolds, Cond.instanceMethod yX6_letHolds, Cond.selects RX6 yX6_letHolds yX6_letHolds, Cond.methodLink RX6 81 yX6_wholeHolds, Cond.instanceMethod yX6_wholeHolds, Cond.selects RX6 yX6_wholeHolds yX6_wholeHolds, Cond.methodLink RX6 84 yX6_takeHolds, Cond.instanceMethod yX6_takeHolds, Cond.selects RX6 yX6_takeHolds yX6_takeHolds, Cond.code yX6_ifHolds cX6_ifHolds 7 (some .boolean), Cond.fieldLink RX6 100 "MarkDesk$Terms" "third" "[I", Cond.code yX6_letHolds cX6_letHolds 9 (some .boolean), Cond.code yX6_takeHolds cX6_takeHolds 7 (some .boolean), Cond.code yX6_wholeHolds cX6_wholeHolds 5 (some .boolean)]
def wsX6_numbersHold : List Cond := .code yX6_numbersHold cX6_numbersHold 6 (some .boolean) :: ((wsX6_numbersHold_r1 ++ (wsX6_numbersHold_r2 ++ (wsX6_numbersHold_r3 ++ wsX6_numbersHold_r4))) ++ wsX60 ++ wsX40 ++ wsX50)
def wsX6_takeHolds_r1 : List Cond := [Cond.fieldLink RX6 34 "MarkDesk$Typing" "bound" "I", Cond.methodLink RX6 93 yX6_bind, Cond.instanceMethod yX6_bind, Cond.selects RX6 yX6_bind yX6_bind, Cond.initialized RX6, Cond.code yX6_bind cX6_bind 3 none, Cond.fieldLink RX6 20 "MarkDesk$Typing" "boundType" "[I", Cond.fieldLink RX6 24 "MarkDesk$Typing" "pieceGives" "[I", Cond.methodLink RX6 81 yX6_wholeHolds, Cond.instanceMethod yX6_wholeHolds, Cond.selects RX6 yX6_wholeHolds yX6_wholeHolds, Cond.code yX6_callHolds cX6_callHolds 10 (some .boolean), Cond.fieldLink RX6 14 "MarkDesk$Typing" "types" "LMarkDesk$Types;", Cond.fieldLink RX6 27 "MarkDesk$Typing" "terms" "LMarkDesk$Terms;", Cond.fieldLink RX6 50 "MarkDesk$Terms" "first" "[I", Cond.fieldLink RX6 97 "MarkDesk$Terms" "second" "[I", Cond.methodLink RX6 38 yX5_letter, Cond.instanceMethod yX5_letter, Cond.selects RX5 yX5_letter yX5_letter, Cond.initialized RX5, Cond.code yX5_letter cX5_letter 1 (some .int), Cond.methodLink RX5 39 yX5_addNode, Cond.instanceMethod yX5_addNode, Cond.selects RX5 yX5_addNode yX5_addNode]
def wsX6_takeHolds_r2 : List Cond := [Cond.code yX5_addNode cX5_addNode 2 (some .int), Cond.fieldLink RX5 13 "MarkDesk$Types" "form" "[I", Cond.fieldLink RX5 35 "MarkDesk$Types" "used" "I", Cond.fieldLink RX5 17 "MarkDesk$Types" "sameAs" "[I", Cond.fieldLink RX5 26 "MarkDesk$Types" "progress" "[I", Cond.fieldLink RX5 29 "MarkDesk$Types" "partsSeen" "[I", Cond.methodLink RX6 87 yX5_function, Cond.instanceMethod yX5_function, Cond.selects RX5 yX5_function yX5_function, Cond.code yX5_function cX5_function 6 (some .int), Cond.fieldLink RX5 20 "MarkDesk$Types" "parts" "[I", Cond.methodLink RX6 42 yX6_holds, Cond.instanceMethod yX6_holds, Cond.selects RX6 yX6_holds yX6_holds, Cond.code yX6_functionHolds cX6_functionHolds 11 (some .boolean), Cond.fieldLink RX6 53 "MarkDesk$Terms" "kind" "[I", Cond.methodLink RX6 56 yX5_makeSame, Cond.instanceMethod yX5_makeSame, Cond.selects RX5 yX5_makeSame yX5_makeSame, Cond.code yX5_makeSame cX5_makeSame 6 (some .boolean), Cond.fieldLink RX5 46 "MarkDesk$Types" "pending" "I", Cond.fieldLink RX5 23 "MarkDesk$Types" "pairs" "[I", Cond.methodLink RX5 49 yX5_addPair, Cond.instanceMethod yX5_addPair]
def wsX6_takeHolds_r3 : List Cond := [Cond.selects RX5 yX5_addPair yX5_addPair, Cond.code yX5_addPair cX5_addPair 3 none, Cond.methodLink RX5 43 yX5_chosen, Cond.instanceMethod yX5_chosen, Cond.selects RX5 yX5_chosen yX5_chosen, Cond.code yX5_chosen cX5_chosen 4 (some .int), Cond.methodLink RX5 53 yX5_join, Cond.instanceMethod yX5_join, Cond.selects RX5 yX5_join yX5_join, Cond.code yX5_join cX5_join 4 (some .boolean), Cond.code yX6_holds cX6_holds 7 (some .boolean), Cond.methodLink RX6 60 yX6_typeOfVariable, Cond.instanceMethod yX6_typeOfVariable, Cond.selects RX6 yX6_typeOfVariable yX6_typeOfVariable, Cond.code yX6_typeOfVariable cX6_typeOfVariable 4 (some .int), Cond.methodLink RX6 64 yX6_functionHolds, Cond.instanceMethod yX6_functionHolds, Cond.selects RX6 yX6_functionHolds yX6_functionHolds, Cond.methodLink RX6 68 yX6_callHolds, Cond.instanceMethod yX6_callHolds, Cond.selects RX6 yX6_callHolds yX6_callHolds, Cond.methodLink RX6 71 yX6_numbersHold, Cond.instanceMethod yX6_numbersHold, Cond.selects RX6 yX6_numbersHold yX6_numbersHold]
def wsX6_takeHolds_r4 : List Cond := [Cond.methodLink RX6 75 yX6_ifHolds, Cond.instanceMethod yX6_ifHolds, Cond.selects RX6 yX6_ifHolds yX6_ifHolds, Cond.methodLink RX6 78 yX6_letHolds, Cond.instanceMethod yX6_letHolds, Cond.selects RX6 yX6_letHolds yX6_letHolds, Cond.methodLink RX6 84 yX6_takeHolds, Cond.instanceMethod yX6_takeHolds, Cond.selects RX6 yX6_takeHolds yX6_takeHolds, Cond.code yX6_ifHolds cX6_ifHolds 7 (some .boolean), Cond.fieldLink RX6 100 "MarkDesk$Terms" "third" "[I", Cond.code yX6_letHolds cX6_letHolds 9 (some .boolean), Cond.code yX6_numbersHold cX6_numbersHold 6 (some .boolean), Cond.code yX6_wholeHolds cX6_wholeHolds 5 (some .boolean)]
def wsX6_takeHolds : List Cond := .code yX6_takeHolds cX6_takeHolds 7 (some .boolean) :: ((wsX6_takeHolds_r1 ++ (wsX6_takeHolds_r2 ++ (wsX6_takeHolds_r3 ++ wsX6_takeHolds_r4))) ++ wsX60 ++ wsX40 ++ wsX50)
def wsX6_wholeHolds_r1 : List Cond := [Cond.fieldLink RX6 14 "MarkDesk$Typing" "types" "LMarkDesk$Types;", Cond.methodLink RX6 38 yX5_letter, Cond.instanceMethod yX5_letter, Cond.selects RX5 yX5_letter yX5_letter, Cond.initialized RX5, Cond.code yX5_letter cX5_letter 1 (some .int), Cond.methodLink RX5 39 yX5_addNode, Cond.instanceMethod yX5_addNode, Cond.selects RX5 yX5_addNode yX5_addNode, Cond.code yX5_addNode cX5_addNode 2 (some .int), Cond.fieldLink RX5 13 "MarkDesk$Types" "form" "[I", Cond.fieldLink RX5 35 "MarkDesk$Types" "used" "I", Cond.fieldLink RX5 17 "MarkDesk$Types" "sameAs" "[I", Cond.fieldLink RX5 26 "MarkDesk$Types" "progress" "[I", Cond.fieldLink RX5 29 "MarkDesk$Types" "partsSeen" "[I", Cond.methodLink RX6 42 yX6_holds, Cond.instanceMethod yX6_holds, Cond.selects RX6 yX6_holds yX6_holds, Cond.initialized RX6, Cond.code yX6_callHolds cX6_callHolds 10 (some .boolean), Cond.fieldLink RX6 27 "MarkDesk$Typing" "terms" "LMarkDesk$Terms;", Cond.fieldLink RX6 50 "MarkDesk$Terms" "first" "[I", Cond.fieldLink RX6 97 "MarkDesk$Terms" "second" "[I", Cond.methodLink RX6 87 yX5_function]
def wsX6_wholeHolds_r2 : List Cond := [Cond.instanceMethod yX5_function, Cond.selects RX5 yX5_function yX5_function, Cond.code yX5_function cX5_function 6 (some .int), Cond.fieldLink RX5 20 "MarkDesk$Types" "parts" "[I", Cond.code yX6_functionHolds cX6_functionHolds 11 (some .boolean), Cond.fieldLink RX6 34 "MarkDesk$Typing" "bound" "I", Cond.fieldLink RX6 53 "MarkDesk$Terms" "kind" "[I", Cond.methodLink RX6 93 yX6_bind, Cond.instanceMethod yX6_bind, Cond.selects RX6 yX6_bind yX6_bind, Cond.code yX6_bind cX6_bind 3 none, Cond.fieldLink RX6 20 "MarkDesk$Typing" "boundType" "[I", Cond.fieldLink RX6 24 "MarkDesk$Typing" "pieceGives" "[I", Cond.methodLink RX6 56 yX5_makeSame, Cond.instanceMethod yX5_makeSame, Cond.selects RX5 yX5_makeSame yX5_makeSame, Cond.code yX5_makeSame cX5_makeSame 6 (some .boolean), Cond.fieldLink RX5 46 "MarkDesk$Types" "pending" "I", Cond.fieldLink RX5 23 "MarkDesk$Types" "pairs" "[I", Cond.methodLink RX5 49 yX5_addPair, Cond.instanceMethod yX5_addPair, Cond.selects RX5 yX5_addPair yX5_addPair, Cond.code yX5_addPair cX5_addPair 3 none, Cond.methodLink RX5 43 yX5_chosen]
def wsX6_wholeHolds_r3 : List Cond := [Cond.instanceMethod yX5_chosen, Cond.selects RX5 yX5_chosen yX5_chosen, Cond.code yX5_chosen cX5_chosen 4 (some .int), Cond.methodLink RX5 53 yX5_join, Cond.instanceMethod yX5_join, Cond.selects RX5 yX5_join yX5_join, Cond.code yX5_join cX5_join 4 (some .boolean), Cond.code yX6_holds cX6_holds 7 (some .boolean), Cond.methodLink RX6 60 yX6_typeOfVariable, Cond.instanceMethod yX6_typeOfVariable, Cond.selects RX6 yX6_typeOfVariable yX6_typeOfVariable, Cond.code yX6_typeOfVariable cX6_typeOfVariable 4 (some .int), Cond.methodLink RX6 64 yX6_functionHolds, Cond.instanceMethod yX6_functionHolds, Cond.selects RX6 yX6_functionHolds yX6_functionHolds, Cond.methodLink RX6 68 yX6_callHolds, Cond.instanceMethod yX6_callHolds, Cond.selects RX6 yX6_callHolds yX6_callHolds, Cond.methodLink RX6 71 yX6_numbersHold, Cond.instanceMethod yX6_numbersHold, Cond.selects RX6 yX6_numbersHold yX6_numbersHold, Cond.methodLink RX6 75 yX6_ifHolds, Cond.instanceMethod yX6_ifHolds, Cond.selects RX6 yX6_ifHolds yX6_ifHolds]
def wsX6_wholeHolds_r4 : List Cond := [Cond.methodLink RX6 78 yX6_letHolds, Cond.instanceMethod yX6_letHolds, Cond.selects RX6 yX6_letHolds yX6_letHolds, Cond.methodLink RX6 81 yX6_wholeHolds, Cond.instanceMethod yX6_wholeHolds, Cond.selects RX6 yX6_wholeHolds yX6_wholeHolds, Cond.methodLink RX6 84 yX6_takeHolds, Cond.instanceMethod yX6_takeHolds, Cond.selects RX6 yX6_takeHolds yX6_takeHolds, Cond.code yX6_ifHolds cX6_ifHolds 7 (some .boolean), Cond.fieldLink RX6 100 "MarkDesk$Terms" "third" "[I", Cond.code yX6_letHolds cX6_letHolds 9 (some .boolean), Cond.code yX6_numbersHold cX6_numbersHold 6 (some .boolean), Cond.code yX6_takeHolds cX6_takeHolds 7 (some .boolean)]
def wsX6_wholeHolds : List Cond := .code yX6_wholeHolds cX6_wholeHolds 5 (some .boolean) :: ((wsX6_wholeHolds_r1 ++ (wsX6_wholeHolds_r2 ++ (wsX6_wholeHolds_r3 ++ wsX6_wholeHolds_r4))) ++ wsX60 ++ wsX40 ++ wsX50)
def wsX6_typeOfWhole_r1 : List Cond := [Cond.fieldLink RX6 14 "MarkDesk$Typing" "types" "LMarkDesk$Types;", Cond.fieldLink RX6 34 "MarkDesk$Typing" "bound" "I", Cond.methodLink RX6 31 yX5_clear, Cond.instanceMethod yX5_clear, Cond.selects RX5 yX5_clear yX5_clear, Cond.initialized RX5, Cond.code yX5_clear cX5_clear 1 none, Cond.fieldLink RX5 35 "MarkDesk$Types" "used" "I", Cond.methodLink RX5 39 yX5_addNode, Cond.instanceMethod yX5_addNode, Cond.selects RX5 yX5_addNode yX5_addNode, Cond.code yX5_addNode cX5_addNode 2 (some .int), Cond.fieldLink RX5 13 "MarkDesk$Types" "form" "[I", Cond.fieldLink RX5 17 "MarkDesk$Types" "sameAs" "[I", Cond.fieldLink RX5 26 "MarkDesk$Types" "progress" "[I", Cond.fieldLink RX5 29 "MarkDesk$Types" "partsSeen" "[I", Cond.methodLink RX6 38 yX5_letter, Cond.instanceMethod yX5_letter, Cond.selects RX5 yX5_letter yX5_letter, Cond.code yX5_letter cX5_letter 1 (some .int), Cond.methodLink RX6 42 yX6_holds, Cond.instanceMethod yX6_holds, Cond.selects RX6 yX6_holds yX6_holds, Cond.initialized RX6]
def wsX6_typeOfWhole_r2 : List Cond := [Cond.code yX6_holds cX6_holds 7 (some .boolean), Cond.fieldLink RX6 27 "MarkDesk$Typing" "terms" "LMarkDesk$Terms;", Cond.fieldLink RX6 50 "MarkDesk$Terms" "first" "[I", Cond.fieldLink RX6 53 "MarkDesk$Terms" "kind" "[I", Cond.methodLink RX6 56 yX5_makeSame, Cond.instanceMethod yX5_makeSame, Cond.selects RX5 yX5_makeSame yX5_makeSame, Cond.code yX5_makeSame cX5_makeSame 6 (some .boolean), Cond.fieldLink RX5 46 "MarkDesk$Types" "pending" "I", Cond.fieldLink RX5 23 "MarkDesk$Types" "pairs" "[I", Cond.methodLink RX5 49 yX5_addPair, Cond.instanceMethod yX5_addPair, Cond.selects RX5 yX5_addPair yX5_addPair, Cond.code yX5_addPair cX5_addPair 3 none, Cond.methodLink RX5 43 yX5_chosen, Cond.instanceMethod yX5_chosen, Cond.selects RX5 yX5_chosen yX5_chosen, Cond.code yX5_chosen cX5_chosen 4 (some .int), Cond.methodLink RX5 53 yX5_join, Cond.instanceMethod yX5_join, Cond.selects RX5 yX5_join yX5_join, Cond.code yX5_join cX5_join 4 (some .boolean), Cond.fieldLink RX5 20 "MarkDesk$Types" "parts" "[I", Cond.methodLink RX6 60 yX6_typeOfVariable]
def wsX6_typeOfWhole_r3 : List Cond := [Cond.instanceMethod yX6_typeOfVariable, Cond.selects RX6 yX6_typeOfVariable yX6_typeOfVariable, Cond.code yX6_typeOfVariable cX6_typeOfVariable 4 (some .int), Cond.fieldLink RX6 24 "MarkDesk$Typing" "pieceGives" "[I", Cond.fieldLink RX6 20 "MarkDesk$Typing" "boundType" "[I", Cond.methodLink RX6 87 yX5_function, Cond.instanceMethod yX5_function, Cond.selects RX5 yX5_function yX5_function, Cond.code yX5_function cX5_function 6 (some .int), Cond.methodLink RX6 64 yX6_functionHolds, Cond.instanceMethod yX6_functionHolds, Cond.selects RX6 yX6_functionHolds yX6_functionHolds, Cond.methodLink RX6 68 yX6_callHolds, Cond.instanceMethod yX6_callHolds, Cond.selects RX6 yX6_callHolds yX6_callHolds, Cond.methodLink RX6 71 yX6_numbersHold, Cond.instanceMethod yX6_numbersHold, Cond.selects RX6 yX6_numbersHold yX6_numbersHold, Cond.methodLink RX6 75 yX6_ifHolds, Cond.instanceMethod yX6_ifHolds, Cond.selects RX6 yX6_ifHolds yX6_ifHolds, Cond.methodLink RX6 78 yX6_letHolds, Cond.instanceMethod yX6_letHolds, Cond.selects RX6 yX6_letHolds yX6_letHolds]
def wsX6_typeOfWhole_r4 : List Cond := [Cond.methodLink RX6 81 yX6_wholeHolds, Cond.instanceMethod yX6_wholeHolds, Cond.selects RX6 yX6_wholeHolds yX6_wholeHolds, Cond.methodLink RX6 84 yX6_takeHolds, Cond.instanceMethod yX6_takeHolds, Cond.selects RX6 yX6_takeHolds yX6_takeHolds, Cond.code yX6_callHolds cX6_callHolds 10 (some .boolean), Cond.fieldLink RX6 97 "MarkDesk$Terms" "second" "[I", Cond.code yX6_functionHolds cX6_functionHolds 11 (some .boolean), Cond.methodLink RX6 93 yX6_bind, Cond.instanceMethod yX6_bind, Cond.selects RX6 yX6_bind yX6_bind, Cond.code yX6_bind cX6_bind 3 none, Cond.code yX6_ifHolds cX6_ifHolds 7 (some .boolean), Cond.fieldLink RX6 100 "MarkDesk$Terms" "third" "[I", Cond.code yX6_letHolds cX6_letHolds 9 (some .boolean), Cond.code yX6_numbersHold cX6_numbersHold 6 (some .boolean), Cond.code yX6_takeHolds cX6_takeHolds 7 (some .boolean), Cond.code yX6_wholeHolds cX6_wholeHolds 5 (some .boolean), Cond.methodLink RX6 46 yX5_noneContainsItself, Cond.instanceMethod yX5_noneContainsItself, Cond.selects RX5 yX5_noneContainsItself yX5_noneContainsItself, Cond.code yX5_noneContainsItself cX5_noneContainsItself 3 (some .boolean), Cond.methodLink RX5 57 yX5_endsEverywhere]
def wsX6_typeOfWhole_r5 : List Cond := [Cond.instanceMethod yX5_endsEverywhere, Cond.selects RX5 yX5_endsEverywhere yX5_endsEverywhere, Cond.code yX5_endsEverywhere cX5_endsEverywhere 6 (some .boolean), Cond.fieldLink RX5 32 "MarkDesk$Types" "path" "[I", Cond.methodLink RX5 61 yX5_chosenPart, Cond.instanceMethod yX5_chosenPart, Cond.selects RX5 yX5_chosenPart yX5_chosenPart, Cond.code yX5_chosenPart cX5_chosenPart 3 (some .int)]
def wsX6_typeOfWhole : List Cond := .code yX6_typeOfWhole cX6_typeOfWhole 4 (some .int) :: ((wsX6_typeOfWhole_r1 ++ (wsX6_typeOfWhole_r2 ++ (wsX6_typeOfWhole_r3 ++ (wsX6_typeOfWhole_r4 ++ wsX6_typeOfWhole_r5)))) ++ wsX60 ++ wsX50 ++ wsX40)
def wsX9_init_r1 : List Cond := [Cond.methodLink RX9 1 objectInit, Cond.instanceMethod objectInit, Cond.code objectInit ⟨#[0xb1]⟩ 1 none, Cond.classLink RX9 7 RX4, Cond.instantiable RX4 8, Cond.initialized RX4, Cond.fieldLink RX9 10 "MarkDesk" "terms" "LMarkDesk$Terms;", Cond.classLink RX9 16 RX2, Cond.instantiable RX2 13, Cond.initialized RX2, Cond.fieldLink RX9 21 "MarkDesk" "machine" "LMarkDesk$Machine;", Cond.classLink RX9 25 RX6, Cond.instantiable RX6 5, Cond.initialized RX6, Cond.fieldLink RX9 28 "MarkDesk" "typing" "LMarkDesk$Typing;", Cond.classLink RX9 32 RX1, Cond.instantiable RX1 5, Cond.initialized RX1, Cond.fieldLink RX9 35 "MarkDesk" "latestType" "LMarkDesk$KnownType;", Cond.instanceMethod yX4_init, Cond.code yX4_init cX4_init 1 none, Cond.methodLink RX4 1 objectInit, Cond.arrayClass .int, Cond.fieldLink RX4 9 "MarkDesk$Terms" "kind" "[I"]
def wsX9_init_r2 : List Cond := [Cond.fieldLink RX4 13 "MarkDesk$Terms" "first" "[I", Cond.fieldLink RX4 16 "MarkDesk$Terms" "second" "[I", Cond.fieldLink RX4 19 "MarkDesk$Terms" "third" "[I", Cond.fieldLink RX4 22 "MarkDesk$Terms" "needed" "[I", Cond.fieldLink RX4 25 "MarkDesk$Terms" "height" "[I", Cond.fieldLink RX4 28 "MarkDesk$Terms" "size" "[I", Cond.methodLink RX9 18 yX2_init, Cond.instanceMethod yX2_init, Cond.code yX2_init cX2_init 2 none, Cond.methodLink RX2 5 objectInit, Cond.classLink RX2 11 RX7, Cond.instantiable RX7 4, Cond.initialized RX7, Cond.fieldLink RX2 14 "MarkDesk$Machine" "values" "LMarkDesk$Values;", Cond.classLink RX2 18 RX3, Cond.instantiable RX3 3, Cond.initialized RX3, Cond.fieldLink RX2 21 "MarkDesk$Machine" "scopes" "LMarkDesk$Scopes;", Cond.classLink RX2 25 RX8, Cond.instantiable RX8 5, Cond.initialized RX8, Cond.fieldLink RX2 28 "MarkDesk$Machine" "waitings" "LMarkDesk$Waitings;", Cond.fieldLink RX2 32 "MarkDesk$Machine" "behindMarks" "[I", Cond.fieldLink RX2 36 "MarkDesk$Machine" "terms" "LMarkDesk$Terms;"]
def wsX9_init_r3 : List Cond := [Cond.instanceMethod yX7_init, Cond.code yX7_init cX7_init 1 none, Cond.methodLink RX7 1 objectInit, Cond.fieldLink RX7 9 "MarkDesk$Values" "form" "[I", Cond.fieldLink RX7 15 "MarkDesk$Values" "content" "[I", Cond.fieldLink RX7 18 "MarkDesk$Values" "scope" "[I", Cond.instanceMethod yX3_init, Cond.code yX3_init cX3_init 1 none, Cond.methodLink RX3 3 objectInit, Cond.fieldLink RX3 11 "MarkDesk$Scopes" "bound" "[I", Cond.fieldLink RX3 17 "MarkDesk$Scopes" "outer" "[I", Cond.instanceMethod yX8_init, Cond.code yX8_init cX8_init 1 none, Cond.methodLink RX8 1 objectInit, Cond.fieldLink RX8 9 "MarkDesk$Waitings" "term" "[I", Cond.fieldLink RX8 15 "MarkDesk$Waitings" "scope" "[I", Cond.fieldLink RX8 18 "MarkDesk$Waitings" "held" "[I", Cond.fieldLink RX8 21 "MarkDesk$Waitings" "next" "[I", Cond.methodLink RX9 27 yX6_init, Cond.instanceMethod yX6_init, Cond.code yX6_init cX6_init 2 none, Cond.methodLink RX6 5 objectInit, Cond.classLink RX6 11 RX5, Cond.instantiable RX5 9]
def wsX9_init_r4 : List Cond := [Cond.initialized RX5, Cond.fieldLink RX6 14 "MarkDesk$Typing" "types" "LMarkDesk$Types;", Cond.fieldLink RX6 20 "MarkDesk$Typing" "boundType" "[I", Cond.fieldLink RX6 24 "MarkDesk$Typing" "pieceGives" "[I", Cond.fieldLink RX6 27 "MarkDesk$Typing" "terms" "LMarkDesk$Terms;", Cond.instanceMethod yX5_init, Cond.code yX5_init cX5_init 1 none, Cond.methodLink RX5 7 objectInit, Cond.fieldLink RX5 13 "MarkDesk$Types" "form" "[I", Cond.fieldLink RX5 17 "MarkDesk$Types" "sameAs" "[I", Cond.fieldLink RX5 20 "MarkDesk$Types" "parts" "[I", Cond.fieldLink RX5 23 "MarkDesk$Types" "pairs" "[I", Cond.fieldLink RX5 26 "MarkDesk$Types" "progress" "[I", Cond.fieldLink RX5 29 "MarkDesk$Types" "partsSeen" "[I", Cond.fieldLink RX5 32 "MarkDesk$Types" "path" "[I", Cond.instanceMethod yX1_init, Cond.code yX1_init cX1_init 1 none, Cond.methodLink RX1 3 objectInit, Cond.fieldLink RX1 11 "MarkDesk$KnownType" "answer" "[I", Cond.fieldLink RX1 17 "MarkDesk$KnownType" "parts" "[I", Cond.fieldLink RX1 22 "MarkDesk$KnownType" "waiting" "[I", Cond.fieldLink RX1 25 "MarkDesk$KnownType" "root" "I"]
def wsX9_init : List Cond := .code yX9_init cX9_init 2 none :: ((wsX9_init_r1 ++ (wsX9_init_r2 ++ (wsX9_init_r3 ++ wsX9_init_r4))) ++ wsX40 ++ wsX90 ++ wsX20 ++ wsX60 ++ wsX10 ++ wsX70 ++ wsX30 ++ wsX80 ++ wsX50)
def wsX9_make_r1 : List Cond := [Cond.classLink RX9 43 "java/lang/IllegalArgumentException", Cond.initialized "java/lang/IllegalArgumentException", Cond.classLink RX9 49 "java/lang/IllegalStateException", Cond.initialized "java/lang/IllegalStateException", Cond.fieldLink RX9 10 "MarkDesk" "terms" "LMarkDesk$Terms;", Cond.methodLink RX9 39 yX4_wordsFit, Cond.instanceMethod yX4_wordsFit, Cond.selects RX4 yX4_wordsFit yX4_wordsFit, Cond.initialized RX4, Cond.code yX4_wordsFit cX4_wordsFit 6 (some .boolean), Cond.fieldLink RX4 39 "MarkDesk$Kind" "TERM_WORDS" "[I", Cond.methodLink RX4 35 yX4_has, Cond.instanceMethod yX4_has, Cond.selects RX4 yX4_has yX4_has, Cond.code yX4_has cX4_has 2 (some .boolean), Cond.fieldLink RX4 31 "MarkDesk$Terms" "used" "I", Cond.methodLink RX9 46 yX4_hasRoomFor, Cond.instanceMethod yX4_hasRoomFor, Cond.selects RX4 yX4_hasRoomFor yX4_hasRoomFor, Cond.code yX4_hasRoomFor cX4_hasRoomFor 6 (some .boolean), Cond.methodLink RX4 44 yX4_heightOver, Cond.instanceMethod yX4_heightOver, Cond.selects RX4 yX4_heightOver yX4_heightOver, Cond.code yX4_heightOver cX4_heightOver 6 (some .int)]
def wsX9_make_r2 : List Cond := [Cond.fieldLink RX4 25 "MarkDesk$Terms" "height" "[I", Cond.methodLink RX4 54 Lib.Math.max.name, Cond.static Lib.Math.max.name, Cond.initialized "java/lang/Math", Cond.code Lib.Math.max.name Lib.Math.max.code 2 (some .int), Cond.methodLink RX4 48 yX4_sizeOver, Cond.instanceMethod yX4_sizeOver, Cond.selects RX4 yX4_sizeOver yX4_sizeOver, Cond.code yX4_sizeOver cX4_sizeOver 6 (some .int), Cond.fieldLink RX4 28 "MarkDesk$Terms" "size" "[I", Cond.methodLink RX9 52 yX4_add, Cond.instanceMethod yX4_add, Cond.selects RX4 yX4_add yX4_add, Cond.code yX4_add cX4_add 7 (some .int), Cond.fieldLink RX4 9 "MarkDesk$Terms" "kind" "[I", Cond.fieldLink RX4 13 "MarkDesk$Terms" "first" "[I", Cond.fieldLink RX4 16 "MarkDesk$Terms" "second" "[I", Cond.fieldLink RX4 19 "MarkDesk$Terms" "third" "[I", Cond.fieldLink RX4 22 "MarkDesk$Terms" "needed" "[I", Cond.methodLink RX4 51 yX4_neededOver, Cond.instanceMethod yX4_neededOver, Cond.selects RX4 yX4_neededOver yX4_neededOver, Cond.code yX4_neededOver cX4_neededOver 6 (some .int), Cond.fieldLink RX4 60 "MarkDesk$Kind" "BINDS" "[I"]
def wsX9_make : List Cond := .code yX9_make cX9_make 5 (some .int) :: ((wsX9_make_r1 ++ wsX9_make_r2) ++ wsX90 ++ wsX40 ++ (vx_at0 RX9 45 "java/lang/IllegalArgumentException" ["java/lang/RuntimeException", "java/lang/Exception"]).filter goodWord ++ (vx_at0 RX9 51 "java/lang/IllegalStateException" ["java/lang/RuntimeException", "java/lang/Exception"]).filter goodWord)
def wsX9_open : List Cond := .code yX9_open cX9_open 2 (some .int) :: ([.classLink RX9 60 "java/util/NoSuchElementException", .initialized "java/util/NoSuchElementException", .fieldLink RX9 10 "MarkDesk" "terms" "LMarkDesk$Terms;", .fieldLink RX9 63 "MarkDesk$Terms" "needed" "[I", .methodLink RX9 56 yX4_has, .instanceMethod yX4_has, .selects RX4 yX4_has yX4_has, .initialized RX4, .code yX4_has cX4_has 2 (some .boolean), .fieldLink RX4 31 "MarkDesk$Terms" "used" "I"] ++ wsX90 ++ wsX40 ++ (vx_at0 RX9 62 "java/util/NoSuchElementException" ["java/lang/RuntimeException", "java/lang/Exception"]).filter goodWord)
def wsX9_keepValue : List Cond := .code yX9_keepValue cX9_keepValue 1 (some .int) :: ([.fieldLink RX9 21 "MarkDesk" "machine" "LMarkDesk$Machine;", .fieldLink RX9 88 "MarkDesk" "latestValue" "I", .fieldLink RX9 128 "MarkDesk$Machine" "stepsDone" "I", .fieldLink RX9 91 "MarkDesk" "latestSteps" "I", .fieldLink RX9 121 "MarkDesk" "allSteps" "J", .fieldLink RX9 118 "MarkDesk" "valuesFound" "I", .methodLink RX9 125 yX2_plainResult, .instanceMethod yX2_plainResult, .selects RX2 yX2_plainResult yX2_plainResult, .initialized RX2, .code yX2_plainResult cX2_plainResult 1 (some .int), .fieldLink RX2 14 "MarkDesk$Machine" "values" "LMarkDesk$Values;", .fieldLink RX2 84 "MarkDesk$Values" "content" "[I", .fieldLink RX2 71 "MarkDesk$Machine" "given" "I", .methodLink RX2 80 yX2_resultForm, .instanceMethod yX2_resultForm, .selects RX2 yX2_resultForm yX2_resultForm, .code yX2_resultForm cX2_resultForm 1 (some .int), .fieldLink RX2 68 "MarkDesk$Values" "form" "[I", .methodLink RX2 74 Lib.Math.min.name, .static Lib.Math.min.name, .initialized "java/lang/Math", .code Lib.Math.min.name Lib.Math.min.code 2 (some .int), .methodLink RX9 131 yX2_resultForm] ++ wsX90 ++ wsX20 ++ wsX70)
def wsX9_work_r1 : List Cond := [Cond.classLink RX9 60 "java/util/NoSuchElementException", Cond.initialized "java/util/NoSuchElementException", Cond.classLink RX9 70 "java/lang/IndexOutOfBoundsException", Cond.initialized "java/lang/IndexOutOfBoundsException", Cond.classLink RX9 43 "java/lang/IllegalArgumentException", Cond.initialized "java/lang/IllegalArgumentException", Cond.classLink RX9 49 "java/lang/IllegalStateException", Cond.initialized "java/lang/IllegalStateException", Cond.fieldLink RX9 10 "MarkDesk" "terms" "LMarkDesk$Terms;", Cond.fieldLink RX9 21 "MarkDesk" "machine" "LMarkDesk$Machine;", Cond.fieldLink RX9 77 "MarkDesk" "stuckTerms" "I", Cond.fieldLink RX9 81 "MarkDesk" "neededMore" "I", Cond.methodLink RX9 67 yX4_hasClosed, Cond.instanceMethod yX4_hasClosed, Cond.selects RX4 yX4_hasClosed yX4_hasClosed, Cond.initialized RX4, Cond.code yX4_hasClosed cX4_hasClosed 2 (some .boolean), Cond.fieldLink RX4 22 "MarkDesk$Terms" "needed" "[I", Cond.methodLink RX4 35 yX4_has, Cond.instanceMethod yX4_has, Cond.selects RX4 yX4_has yX4_has, Cond.code yX4_has cX4_has 2 (some .boolean), Cond.fieldLink RX4 31 "MarkDesk$Terms" "used" "I", Cond.methodLink RX9 73 yX2_workOut]
def wsX9_work_r2 : List Cond := [Cond.instanceMethod yX2_workOut, Cond.selects RX2 yX2_workOut yX2_workOut, Cond.initialized RX2, Cond.code yX2_workOut cX2_workOut 4 (some .int), Cond.fieldLink RX2 14 "MarkDesk$Machine" "values" "LMarkDesk$Values;", Cond.fieldLink RX2 21 "MarkDesk$Machine" "scopes" "LMarkDesk$Scopes;", Cond.fieldLink RX2 28 "MarkDesk$Machine" "waitings" "LMarkDesk$Waitings;", Cond.fieldLink RX2 45 "MarkDesk$Machine" "marks" "I", Cond.fieldLink RX2 49 "MarkDesk$Machine" "toDo" "I", Cond.fieldLink RX2 52 "MarkDesk$Machine" "fuelLeft" "I", Cond.fieldLink RX2 55 "MarkDesk$Machine" "stepsDone" "I", Cond.fieldLink RX2 58 "MarkDesk$Machine" "end" "I", Cond.methodLink RX2 40 yX7_clear, Cond.instanceMethod yX7_clear, Cond.selects RX7 yX7_clear yX7_clear, Cond.initialized RX7, Cond.code yX7_clear cX7_clear 1 none, Cond.fieldLink RX7 21 "MarkDesk$Values" "used" "I", Cond.methodLink RX2 43 yX3_clear, Cond.instanceMethod yX3_clear, Cond.selects RX3 yX3_clear yX3_clear, Cond.initialized RX3, Cond.code yX3_clear cX3_clear 1 none, Cond.fieldLink RX3 20 "MarkDesk$Scopes" "used" "I"]
def wsX9_work_r3 : List Cond := [Cond.methodLink RX2 44 yX8_clear, Cond.instanceMethod yX8_clear, Cond.selects RX8 yX8_clear yX8_clear, Cond.initialized RX8, Cond.code yX8_clear cX8_clear 1 none, Cond.fieldLink RX8 24 "MarkDesk$Waitings" "used" "I", Cond.methodLink RX2 61 yX2_goTo, Cond.instanceMethod yX2_goTo, Cond.selects RX2 yX2_goTo yX2_goTo, Cond.code yX2_goTo cX2_goTo 3 none, Cond.fieldLink RX2 96 "MarkDesk$Machine" "term" "I", Cond.fieldLink RX2 99 "MarkDesk$Machine" "scope" "I", Cond.fieldLink RX2 71 "MarkDesk$Machine" "given" "I", Cond.methodLink RX2 65 yX2_doRound, Cond.instanceMethod yX2_doRound, Cond.selects RX2 yX2_doRound yX2_doRound, Cond.code yX2_doRound cX2_doRound 1 none, Cond.methodLink RX2 87 yX2_leaveMark, Cond.instanceMethod yX2_leaveMark, Cond.selects RX2 yX2_leaveMark yX2_leaveMark, Cond.code yX2_leaveMark cX2_leaveMark 1 none, Cond.fieldLink RX2 32 "MarkDesk$Machine" "behindMarks" "[I", Cond.methodLink RX2 90 yX2_beginTerm, Cond.instanceMethod yX2_beginTerm]
def wsX9_work_r4 : List Cond := [Cond.selects RX2 yX2_beginTerm yX2_beginTerm, Cond.code yX2_beginTerm cX2_beginTerm 2 none, Cond.fieldLink RX2 36 "MarkDesk$Machine" "terms" "LMarkDesk$Terms;", Cond.fieldLink RX2 102 "MarkDesk$Terms" "first" "[I", Cond.fieldLink RX2 107 "MarkDesk$Terms" "kind" "[I", Cond.methodLink RX2 110 yX7_add, Cond.instanceMethod yX7_add, Cond.selects RX7 yX7_add yX7_add, Cond.code yX7_add cX7_add 4 (some .int), Cond.fieldLink RX7 9 "MarkDesk$Values" "form" "[I", Cond.fieldLink RX7 15 "MarkDesk$Values" "content" "[I", Cond.fieldLink RX7 18 "MarkDesk$Values" "scope" "[I", Cond.methodLink RX2 114 yX3_look, Cond.instanceMethod yX3_look, Cond.selects RX3 yX3_look yX3_look, Cond.code yX3_look cX3_look 5 (some .int), Cond.fieldLink RX3 17 "MarkDesk$Scopes" "outer" "[I", Cond.fieldLink RX3 11 "MarkDesk$Scopes" "bound" "[I", Cond.methodLink RX2 117 yX2_enterMark, Cond.instanceMethod yX2_enterMark, Cond.selects RX2 yX2_enterMark yX2_enterMark, Cond.code yX2_enterMark cX2_enterMark 2 none, Cond.methodLink RX2 121 yX3_bind, Cond.instanceMethod yX3_bind]
def wsX9_work_r5 : List Cond := [Cond.selects RX3 yX3_bind yX3_bind, Cond.code yX3_bind cX3_bind 3 (some .int), Cond.methodLink RX2 124 yX8_add, Cond.instanceMethod yX8_add, Cond.selects RX8 yX8_add yX8_add, Cond.code yX8_add cX8_add 5 (some .int), Cond.fieldLink RX8 9 "MarkDesk$Waitings" "term" "[I", Cond.fieldLink RX8 15 "MarkDesk$Waitings" "scope" "[I", Cond.fieldLink RX8 18 "MarkDesk$Waitings" "held" "[I", Cond.fieldLink RX8 21 "MarkDesk$Waitings" "next" "[I", Cond.methodLink RX2 93 yX2_bringValue, Cond.instanceMethod yX2_bringValue, Cond.selects RX2 yX2_bringValue yX2_bringValue, Cond.code yX2_bringValue cX2_bringValue 4 none, Cond.fieldLink RX2 127 "MarkDesk$Waitings" "term" "[I", Cond.fieldLink RX2 129 "MarkDesk$Waitings" "next" "[I", Cond.fieldLink RX2 134 "MarkDesk$Waitings" "scope" "[I", Cond.fieldLink RX2 139 "MarkDesk$Terms" "second" "[I", Cond.fieldLink RX2 142 "MarkDesk$Waitings" "held" "[I", Cond.methodLink RX2 136 yX2_choose, Cond.instanceMethod yX2_choose, Cond.selects RX2 yX2_choose yX2_choose, Cond.code yX2_choose cX2_choose 3 none, Cond.fieldLink RX2 68 "MarkDesk$Values" "form" "[I"]
def wsX9_work_r6 : List Cond := [Cond.fieldLink RX2 84 "MarkDesk$Values" "content" "[I", Cond.fieldLink RX2 152 "MarkDesk$Terms" "third" "[I", Cond.methodLink RX2 145 yX2_callWith, Cond.instanceMethod yX2_callWith, Cond.selects RX2 yX2_callWith yX2_callWith, Cond.code yX2_callWith cX2_callWith 6 none, Cond.fieldLink RX2 155 "MarkDesk$Values" "scope" "[I", Cond.methodLink RX2 148 yX2_joinNumbers, Cond.instanceMethod yX2_joinNumbers, Cond.selects RX2 yX2_joinNumbers yX2_joinNumbers, Cond.code yX2_joinNumbers cX2_joinNumbers 4 none, Cond.methodLink RX9 84 yX9_keepValue, Cond.instanceMethod yX9_keepValue, Cond.selects RX9 yX9_keepValue yX9_keepValue, Cond.initialized RX9, Cond.code yX9_keepValue cX9_keepValue 1 (some .int), Cond.fieldLink RX9 88 "MarkDesk" "latestValue" "I", Cond.fieldLink RX9 128 "MarkDesk$Machine" "stepsDone" "I", Cond.fieldLink RX9 91 "MarkDesk" "latestSteps" "I", Cond.fieldLink RX9 121 "MarkDesk" "allSteps" "J", Cond.fieldLink RX9 118 "MarkDesk" "valuesFound" "I", Cond.methodLink RX9 125 yX2_plainResult, Cond.instanceMethod yX2_plainResult, Cond.selects RX2 yX2_plainResult yX2_plainResult]
def wsX9_work_r7 : List Cond := [Cond.code yX2_plainResult cX2_plainResult 1 (some .int), Cond.methodLink RX2 80 yX2_resultForm, Cond.instanceMethod yX2_resultForm, Cond.selects RX2 yX2_resultForm yX2_resultForm, Cond.code yX2_resultForm cX2_resultForm 1 (some .int), Cond.methodLink RX2 74 Lib.Math.min.name, Cond.static Lib.Math.min.name, Cond.initialized "java/lang/Math", Cond.code Lib.Math.min.name Lib.Math.min.code 2 (some .int), Cond.methodLink RX9 131 yX2_resultForm]
def wsX9_work : List Cond := .code yX9_work cX9_work 4 (some .int) :: ((wsX9_work_r1 ++ (wsX9_work_r2 ++ (wsX9_work_r3 ++ (wsX9_work_r4 ++ (wsX9_work_r5 ++ (wsX9_work_r6 ++ wsX9_work_r7)))))) ++ wsX90 ++ wsX40 ++ wsX20 ++ wsX70 ++ wsX30 ++ wsX80 ++ (vx_at0 RX9 62 "java/util/NoSuchElementException" ["java/lang/RuntimeException", "java/lang/Exception"]).filter goodWord ++ (vx_at0 RX9 72 "java/lang/IndexOutOfBoundsException" ["java/lang/RuntimeException", "java/lang/Exception"]).filter goodWord ++ (vx_at0 RX9 45 "java/lang/IllegalArgumentException" ["java/lang/RuntimeException", "java/lang/Exception"]).filter goodWord ++ (vx_at0 RX9 51 "java/lang/IllegalStateException" ["java/lang/RuntimeException", "java/lang/Exception"]).filter goodWord)
def wsX9_value : List Cond := .code yX9_value cX9_value 1 (some .int) :: ([.fieldLink RX9 88 "MarkDesk" "latestValue" "I"] ++ wsX90)
def wsX9_steps : List Cond := .code yX9_steps cX9_steps 1 (some .int) :: ([.fieldLink RX9 91 "MarkDesk" "latestSteps" "I"] ++ wsX90)
def wsX9_type_r1 : List Cond := [Cond.classLink RX9 60 "java/util/NoSuchElementException", Cond.initialized "java/util/NoSuchElementException", Cond.classLink RX9 43 "java/lang/IllegalArgumentException", Cond.initialized "java/lang/IllegalArgumentException", Cond.fieldLink RX9 10 "MarkDesk" "terms" "LMarkDesk$Terms;", Cond.fieldLink RX9 28 "MarkDesk" "typing" "LMarkDesk$Typing;", Cond.fieldLink RX9 98 "MarkDesk" "typesMissing" "I", Cond.fieldLink RX9 101 "MarkDesk" "typesFound" "I", Cond.fieldLink RX9 35 "MarkDesk" "latestType" "LMarkDesk$KnownType;", Cond.fieldLink RX9 104 "MarkDesk$Typing" "types" "LMarkDesk$Types;", Cond.methodLink RX9 67 yX4_hasClosed, Cond.instanceMethod yX4_hasClosed, Cond.selects RX4 yX4_hasClosed yX4_hasClosed, Cond.initialized RX4, Cond.code yX4_hasClosed cX4_hasClosed 2 (some .boolean), Cond.fieldLink RX4 22 "MarkDesk$Terms" "needed" "[I", Cond.methodLink RX4 35 yX4_has, Cond.instanceMethod yX4_has, Cond.selects RX4 yX4_has yX4_has, Cond.code yX4_has cX4_has 2 (some .boolean), Cond.fieldLink RX4 31 "MarkDesk$Terms" "used" "I", Cond.methodLink RX9 94 yX6_typeOfWhole, Cond.instanceMethod yX6_typeOfWhole, Cond.selects RX6 yX6_typeOfWhole yX6_typeOfWhole]
def wsX9_type_r2 : List Cond := [Cond.initialized RX6, Cond.code yX6_typeOfWhole cX6_typeOfWhole 4 (some .int), Cond.fieldLink RX6 14 "MarkDesk$Typing" "types" "LMarkDesk$Types;", Cond.fieldLink RX6 34 "MarkDesk$Typing" "bound" "I", Cond.methodLink RX6 31 yX5_clear, Cond.instanceMethod yX5_clear, Cond.selects RX5 yX5_clear yX5_clear, Cond.initialized RX5, Cond.code yX5_clear cX5_clear 1 none, Cond.fieldLink RX5 35 "MarkDesk$Types" "used" "I", Cond.methodLink RX5 39 yX5_addNode, Cond.instanceMethod yX5_addNode, Cond.selects RX5 yX5_addNode yX5_addNode, Cond.code yX5_addNode cX5_addNode 2 (some .int), Cond.fieldLink RX5 13 "MarkDesk$Types" "form" "[I", Cond.fieldLink RX5 17 "MarkDesk$Types" "sameAs" "[I", Cond.fieldLink RX5 26 "MarkDesk$Types" "progress" "[I", Cond.fieldLink RX5 29 "MarkDesk$Types" "partsSeen" "[I", Cond.methodLink RX6 38 yX5_letter, Cond.instanceMethod yX5_letter, Cond.selects RX5 yX5_letter yX5_letter, Cond.code yX5_letter cX5_letter 1 (some .int), Cond.methodLink RX6 42 yX6_holds, Cond.instanceMethod yX6_holds]
def wsX9_type_r3 : List Cond := [Cond.selects RX6 yX6_holds yX6_holds, Cond.code yX6_holds cX6_holds 7 (some .boolean), Cond.fieldLink RX6 27 "MarkDesk$Typing" "terms" "LMarkDesk$Terms;", Cond.fieldLink RX6 50 "MarkDesk$Terms" "first" "[I", Cond.fieldLink RX6 53 "MarkDesk$Terms" "kind" "[I", Cond.methodLink RX6 56 yX5_makeSame, Cond.instanceMethod yX5_makeSame, Cond.selects RX5 yX5_makeSame yX5_makeSame, Cond.code yX5_makeSame cX5_makeSame 6 (some .boolean), Cond.fieldLink RX5 46 "MarkDesk$Types" "pending" "I", Cond.fieldLink RX5 23 "MarkDesk$Types" "pairs" "[I", Cond.methodLink RX5 49 yX5_addPair, Cond.instanceMethod yX5_addPair, Cond.selects RX5 yX5_addPair yX5_addPair, Cond.code yX5_addPair cX5_addPair 3 none, Cond.methodLink RX5 43 yX5_chosen, Cond.instanceMethod yX5_chosen, Cond.selects RX5 yX5_chosen yX5_chosen, Cond.code yX5_chosen cX5_chosen 4 (some .int), Cond.methodLink RX5 53 yX5_join, Cond.instanceMethod yX5_join, Cond.selects RX5 yX5_join yX5_join, Cond.code yX5_join cX5_join 4 (some .boolean), Cond.fieldLink RX5 20 "MarkDesk$Types" "parts" "[I"]
def wsX9_type_r4 : List Cond := [Cond.methodLink RX6 60 yX6_typeOfVariable, Cond.instanceMethod yX6_typeOfVariable, Cond.selects RX6 yX6_typeOfVariable yX6_typeOfVariable, Cond.code yX6_typeOfVariable cX6_typeOfVariable 4 (some .int), Cond.fieldLink RX6 24 "MarkDesk$Typing" "pieceGives" "[I", Cond.fieldLink RX6 20 "MarkDesk$Typing" "boundType" "[I", Cond.methodLink RX6 87 yX5_function, Cond.instanceMethod yX5_function, Cond.selects RX5 yX5_function yX5_function, Cond.code yX5_function cX5_function 6 (some .int), Cond.methodLink RX6 64 yX6_functionHolds, Cond.instanceMethod yX6_functionHolds, Cond.selects RX6 yX6_functionHolds yX6_functionHolds, Cond.methodLink RX6 68 yX6_callHolds, Cond.instanceMethod yX6_callHolds, Cond.selects RX6 yX6_callHolds yX6_callHolds, Cond.methodLink RX6 71 yX6_numbersHold, Cond.instanceMethod yX6_numbersHold, Cond.selects RX6 yX6_numbersHold yX6_numbersHold, Cond.methodLink RX6 75 yX6_ifHolds, Cond.instanceMethod yX6_ifHolds, Cond.selects RX6 yX6_ifHolds yX6_ifHolds, Cond.methodLink RX6 78 yX6_letHolds, Cond.instanceMethod yX6_letHolds]
def wsX9_type_r5 : List Cond := [Cond.selects RX6 yX6_letHolds yX6_letHolds, Cond.methodLink RX6 81 yX6_wholeHolds, Cond.instanceMethod yX6_wholeHolds, Cond.selects RX6 yX6_wholeHolds yX6_wholeHolds, Cond.methodLink RX6 84 yX6_takeHolds, Cond.instanceMethod yX6_takeHolds, Cond.selects RX6 yX6_takeHolds yX6_takeHolds, Cond.code yX6_callHolds cX6_callHolds 10 (some .boolean), Cond.fieldLink RX6 97 "MarkDesk$Terms" "second" "[I", Cond.code yX6_functionHolds cX6_functionHolds 11 (some .boolean), Cond.methodLink RX6 93 yX6_bind, Cond.instanceMethod yX6_bind, Cond.selects RX6 yX6_bind yX6_bind, Cond.code yX6_bind cX6_bind 3 none, Cond.code yX6_ifHolds cX6_ifHolds 7 (some .boolean), Cond.fieldLink RX6 100 "MarkDesk$Terms" "third" "[I", Cond.code yX6_letHolds cX6_letHolds 9 (some .boolean), Cond.code yX6_numbersHold cX6_numbersHold 6 (some .boolean), Cond.code yX6_takeHolds cX6_takeHolds 7 (some .boolean), Cond.code yX6_wholeHolds cX6_wholeHolds 5 (some .boolean), Cond.methodLink RX6 46 yX5_noneContainsItself, Cond.instanceMethod yX5_noneContainsItself, Cond.selects RX5 yX5_noneContainsItself yX5_noneContainsItself, Cond.code yX5_noneContainsItself cX5_noneContainsItself 3 (some .boolean)]
def wsX9_type_r6 : List Cond := [Cond.methodLink RX5 57 yX5_endsEverywhere, Cond.instanceMethod yX5_endsEverywhere, Cond.selects RX5 yX5_endsEverywhere yX5_endsEverywhere, Cond.code yX5_endsEverywhere cX5_endsEverywhere 6 (some .boolean), Cond.fieldLink RX5 32 "MarkDesk$Types" "path" "[I", Cond.methodLink RX5 61 yX5_chosenPart, Cond.instanceMethod yX5_chosenPart, Cond.selects RX5 yX5_chosenPart yX5_chosenPart, Cond.code yX5_chosenPart cX5_chosenPart 3 (some .int), Cond.methodLink RX9 108 yX1_keep, Cond.instanceMethod yX1_keep, Cond.selects RX1 yX1_keep yX1_keep, Cond.initialized RX1, Cond.code yX1_keep cX1_keep 6 none, Cond.fieldLink RX1 25 "MarkDesk$KnownType" "root" "I", Cond.fieldLink RX1 33 "MarkDesk$KnownType" "letters" "I", Cond.fieldLink RX1 11 "MarkDesk$KnownType" "answer" "[I", Cond.fieldLink RX1 22 "MarkDesk$KnownType" "waiting" "[I", Cond.methodLink RX1 29 yX5_chosen, Cond.methodLink RX1 36 yJ7_fill_53178, Cond.static yJ7_fill_53178, Cond.initialized RJ7, Cond.code yJ7_fill_53178 cJ7_fill_53178 4 none, Cond.methodLink RX1 42 yX1_keepNode]
def wsX9_type_r7 : List Cond := [Cond.instanceMethod yX1_keepNode, Cond.selects RX1 yX1_keepNode yX1_keepNode, Cond.code yX1_keepNode cX1_keepNode 7 (some .int), Cond.fieldLink RX1 46 "MarkDesk$Types" "form" "[I", Cond.fieldLink RX1 17 "MarkDesk$KnownType" "parts" "[I", Cond.methodLink RX1 49 yX5_chosenPart, Cond.methodLink RX9 112 yX1_at, Cond.instanceMethod yX1_at, Cond.selects RX1 yX1_at yX1_at, Cond.code yX1_at cX1_at 5 (some .int)]
def wsX9_type : List Cond := .code yX9_type cX9_type 3 (some .int) :: ((wsX9_type_r1 ++ (wsX9_type_r2 ++ (wsX9_type_r3 ++ (wsX9_type_r4 ++ (wsX9_type_r5 ++ (wsX9_type_r6 ++ wsX9_type_r7)))))) ++ wsX90 ++ wsX60 ++ wsX40 ++ wsX50 ++ wsX10 ++ (vx_at0 RX9 62 "java/util/NoSuchElementException" ["java/lang/RuntimeException", "java/lang/Exception"]).filter goodWord ++ (vx_at0 RX9 45 "java/lang/IllegalArgumentException" ["java/lang/RuntimeException", "java/lang/Exception"]).filter goodWord)
def wsX9_part : List Cond := .code yX9_part cX9_part 2 (some .int) :: ([.fieldLink RX9 35 "MarkDesk" "latestType" "LMarkDesk$KnownType;", .methodLink RX9 112 yX1_at, .instanceMethod yX1_at, .selects RX1 yX1_at yX1_at, .initialized RX1, .code yX1_at cX1_at 5 (some .int), .fieldLink RX1 25 "MarkDesk$KnownType" "root" "I", .fieldLink RX1 11 "MarkDesk$KnownType" "answer" "[I", .fieldLink RX1 17 "MarkDesk$KnownType" "parts" "[I"] ++ wsX90 ++ wsX10)
def wsX9_count : List Cond := .code yX9_count cX9_count 2 (some .int) :: ([.fieldLink RX9 10 "MarkDesk" "terms" "LMarkDesk$Terms;", .fieldLink RX9 115 "MarkDesk$Terms" "used" "I", .fieldLink RX9 118 "MarkDesk" "valuesFound" "I", .fieldLink RX9 77 "MarkDesk" "stuckTerms" "I", .fieldLink RX9 81 "MarkDesk" "neededMore" "I", .fieldLink RX9 101 "MarkDesk" "typesFound" "I", .fieldLink RX9 98 "MarkDesk" "typesMissing" "I"] ++ wsX90 ++ wsX40)
def wsX9_mean : List Cond := .code yX9_mean cX9_mean 1 (some .float) :: ([.fieldLink RX9 118 "MarkDesk" "valuesFound" "I", .fieldLink RX9 121 "MarkDesk" "allSteps" "J"] ++ wsX90)
def wsX10_init_r1 : List Cond := [Cond.methodLink RX10 1 objectInit, Cond.instanceMethod objectInit, Cond.code objectInit ⟨#[0xb1]⟩ 1 none, Cond.arrayClass .int, Cond.fieldLink RX10 7 "MarkDeskModel" "kind" "[I", Cond.fieldLink RX10 13 "MarkDeskModel" "wordA" "[I", Cond.fieldLink RX10 16 "MarkDeskModel" "wordB" "[I", Cond.fieldLink RX10 19 "MarkDeskModel" "wordC" "[I", Cond.fieldLink RX10 22 "MarkDeskModel" "height" "[I", Cond.fieldLink RX10 25 "MarkDeskModel" "size" "[I", Cond.fieldLink RX10 28 "MarkDeskModel" "need" "[I", Cond.fieldLink RX10 31 "MarkDeskModel" "boundKind" "[I", Cond.fieldLink RX10 34 "MarkDeskModel" "boundWord" "[I", Cond.fieldLink RX10 37 "MarkDeskModel" "boundNext" "[I", Cond.fieldLink RX10 40 "MarkDeskModel" "functionTerm" "[I", Cond.fieldLink RX10 43 "MarkDeskModel" "functionBound" "[I", Cond.fieldLink RX10 46 "MarkDeskModel" "taskKind" "[I", Cond.fieldLink RX10 49 "MarkDeskModel" "taskTerm" "[I", Cond.fieldLink RX10 52 "MarkDeskModel" "taskBound" "[I", Cond.fieldLink RX10 55 "MarkDeskModel" "taskValue" "[I", Cond.fieldLink RX10 58 "MarkDeskModel" "taskWord" "[I", Cond.fieldLink RX10 61 "MarkDeskModel" "taskNext" "[I", Cond.fieldLink RX10 64 "MarkDeskModel" "mark" "[I", Cond.fieldLink RX10 67 "MarkDeskModel" "sort" "[I"]
def wsX10_init_r2 : List Cond := [Cond.fieldLink RX10 70 "MarkDeskModel" "standsFor" "[I", Cond.fieldLink RX10 73 "MarkDeskModel" "parts" "[I", Cond.fieldLink RX10 76 "MarkDeskModel" "letter" "[I", Cond.fieldLink RX10 79 "MarkDeskModel" "result" "I", Cond.fieldLink RX10 83 "MarkDeskModel" "pile" "[I", Cond.fieldLink RX10 86 "MarkDeskModel" "pairs" "[I", Cond.arrayClass .boolean, Cond.fieldLink RX10 89 "MarkDeskModel" "seen" "[Z", Cond.fieldLink RX10 93 "MarkDeskModel" "goalTerm" "[I", Cond.fieldLink RX10 96 "MarkDeskModel" "goalBound" "[I", Cond.fieldLink RX10 99 "MarkDeskModel" "goalType" "[I", Cond.fieldLink RX10 102 "MarkDeskModel" "goalFrom" "[I", Cond.fieldLink RX10 105 "MarkDeskModel" "goalTo" "[I", Cond.fieldLink RX10 108 "MarkDeskModel" "placeType" "[I", Cond.fieldLink RX10 111 "MarkDeskModel" "placeFrom" "[I", Cond.fieldLink RX10 114 "MarkDeskModel" "placeNext" "[I"]
def wsX10_init : List Cond := .code yX10_init cX10_init 1 none :: ((wsX10_init_r1 ++ wsX10_init_r2) ++ wsX100)
def wsX10_thrown : List Cond := .code yX10_thrown cX10_thrown 1 (some .int) :: ([.fieldLink RX10 117 "MarkDeskModel" "thrown" "I"] ++ wsX100)
def wsX10_fail : List Cond := .code yX10_fail cX10_fail 2 (some .int) :: ([.fieldLink RX10 117 "MarkDeskModel" "thrown" "I"] ++ wsX100)
def wsX10_in : List Cond := .code yX10_in cX10_in 3 (some .boolean) :: ([])
def wsX10_greater : List Cond := .code yX10_greater cX10_greater 2 (some .int) :: ([])
def wsX10_isTerm : List Cond := .code yX10_isTerm cX10_isTerm 2 (some .boolean) :: ([.fieldLink RX10 120 "MarkDeskModel" "terms" "I", .methodLink RX10 123 yX10_in, .static yX10_in, .initialized RX10, .code yX10_in cX10_in 3 (some .boolean)] ++ wsX100)
def wsX10_hasB : List Cond := .code yX10_hasB cX10_hasB 1 (some .boolean) :: ([.methodLink RX10 123 yX10_in, .static yX10_in, .initialized RX10, .code yX10_in cX10_in 3 (some .boolean)])
def wsX10_hasA : List Cond := .code yX10_hasA cX10_hasA 1 (some .boolean) :: ([.methodLink RX10 123 yX10_in, .static yX10_in, .initialized RX10, .code yX10_in cX10_in 3 (some .boolean)])
def wsX10_fits : List Cond := .code yX10_fits cX10_fits 5 (some .boolean) :: ([.methodLink RX10 123 yX10_in, .static yX10_in, .initialized RX10, .code yX10_in cX10_in 3 (some .boolean), .methodLink RX10 127 yX10_isTerm, .instanceMethod yX10_isTerm, .selects RX10 yX10_isTerm yX10_isTerm, .code yX10_isTerm cX10_isTerm 2 (some .boolean), .fieldLink RX10 120 "MarkDeskModel" "terms" "I", .methodLink RX10 131 yX10_hasB, .static yX10_hasB, .code yX10_hasB cX10_hasB 1 (some .boolean)] ++ wsX100)
def wsX10_needs : List Cond := .code yX10_needs cX10_needs 5 (some .int) :: ([.fieldLink RX10 28 "MarkDeskModel" "need" "[I", .methodLink RX10 145 yX10_greater, .static yX10_greater, .initialized RX10, .code yX10_greater cX10_greater 2 (some .int)] ++ wsX100)
def wsX10_make_r1 : List Cond := [Cond.fieldLink RX10 117 "MarkDeskModel" "thrown" "I", Cond.fieldLink RX10 22 "MarkDeskModel" "height" "[I", Cond.fieldLink RX10 25 "MarkDeskModel" "size" "[I", Cond.fieldLink RX10 120 "MarkDeskModel" "terms" "I", Cond.fieldLink RX10 7 "MarkDeskModel" "kind" "[I", Cond.fieldLink RX10 13 "MarkDeskModel" "wordA" "[I", Cond.fieldLink RX10 16 "MarkDeskModel" "wordB" "[I", Cond.fieldLink RX10 19 "MarkDeskModel" "wordC" "[I", Cond.fieldLink RX10 28 "MarkDeskModel" "need" "[I", Cond.methodLink RX10 123 yX10_in, Cond.static yX10_in, Cond.initialized RX10, Cond.code yX10_in cX10_in 3 (some .boolean), Cond.methodLink RX10 134 yX10_fits, Cond.instanceMethod yX10_fits, Cond.selects RX10 yX10_fits yX10_fits, Cond.code yX10_fits cX10_fits 5 (some .boolean), Cond.methodLink RX10 127 yX10_isTerm, Cond.instanceMethod yX10_isTerm, Cond.selects RX10 yX10_isTerm yX10_isTerm, Cond.code yX10_isTerm cX10_isTerm 2 (some .boolean), Cond.methodLink RX10 131 yX10_hasB, Cond.static yX10_hasB, Cond.code yX10_hasB cX10_hasB 1 (some .boolean)]
def wsX10_make_r2 : List Cond := [Cond.methodLink RX10 138 yX10_fail, Cond.instanceMethod yX10_fail, Cond.selects RX10 yX10_fail yX10_fail, Cond.code yX10_fail cX10_fail 2 (some .int), Cond.methodLink RX10 142 yX10_hasA, Cond.static yX10_hasA, Cond.code yX10_hasA cX10_hasA 1 (some .boolean), Cond.methodLink RX10 145 yX10_greater, Cond.static yX10_greater, Cond.code yX10_greater cX10_greater 2 (some .int), Cond.methodLink RX10 149 yX10_needs, Cond.instanceMethod yX10_needs, Cond.selects RX10 yX10_needs yX10_needs, Cond.code yX10_needs cX10_needs 5 (some .int)]
def wsX10_make : List Cond := .code yX10_make cX10_make 7 (some .int) :: ((wsX10_make_r1 ++ wsX10_make_r2) ++ wsX100)
def wsX10_open : List Cond := .code yX10_open cX10_open 2 (some .int) :: ([.fieldLink RX10 117 "MarkDeskModel" "thrown" "I", .fieldLink RX10 28 "MarkDeskModel" "need" "[I", .methodLink RX10 127 yX10_isTerm, .instanceMethod yX10_isTerm, .selects RX10 yX10_isTerm yX10_isTerm, .initialized RX10, .code yX10_isTerm cX10_isTerm 2 (some .boolean), .fieldLink RX10 120 "MarkDeskModel" "terms" "I", .methodLink RX10 123 yX10_in, .static yX10_in, .code yX10_in cX10_in 3 (some .boolean)] ++ wsX100)
def wsX10_bind : List Cond := .code yX10_bind cX10_bind 4 (some .int) :: ([.fieldLink RX10 153 "MarkDeskModel" "bounds" "I", .fieldLink RX10 31 "MarkDeskModel" "boundKind" "[I", .fieldLink RX10 34 "MarkDeskModel" "boundWord" "[I", .fieldLink RX10 37 "MarkDeskModel" "boundNext" "[I"] ++ wsX100)
def wsX10_then : List Cond := .code yX10_then cX10_then 6 none :: ([.fieldLink RX10 156 "MarkDeskModel" "tasks" "I", .fieldLink RX10 46 "MarkDeskModel" "taskKind" "[I", .fieldLink RX10 49 "MarkDeskModel" "taskTerm" "[I", .fieldLink RX10 52 "MarkDeskModel" "taskBound" "[I", .fieldLink RX10 55 "MarkDeskModel" "taskValue" "[I", .fieldLink RX10 58 "MarkDeskModel" "taskWord" "[I", .fieldLink RX10 61 "MarkDeskModel" "taskNext" "[I", .fieldLink RX10 159 "MarkDeskModel" "now" "I"] ++ wsX100)
def wsX10_give : List Cond := .code yX10_give cX10_give 3 none :: ([.fieldLink RX10 162 "MarkDeskModel" "given" "I", .fieldLink RX10 165 "MarkDeskModel" "word" "I"] ++ wsX100)
def wsX10_closure : List Cond := .code yX10_closure cX10_closure 3 (some .int) :: ([.fieldLink RX10 168 "MarkDeskModel" "functions" "I", .fieldLink RX10 40 "MarkDeskModel" "functionTerm" "[I", .fieldLink RX10 43 "MarkDeskModel" "functionBound" "[I"] ++ wsX100)
def wsX10_begin_r1 : List Cond := [Cond.fieldLink RX10 7 "MarkDeskModel" "kind" "[I", Cond.fieldLink RX10 171 "MarkDeskModel" "taken" "I", Cond.fieldLink RX10 13 "MarkDeskModel" "wordA" "[I", Cond.fieldLink RX10 37 "MarkDeskModel" "boundNext" "[I", Cond.fieldLink RX10 31 "MarkDeskModel" "boundKind" "[I", Cond.fieldLink RX10 34 "MarkDeskModel" "boundWord" "[I", Cond.fieldLink RX10 64 "MarkDeskModel" "mark" "[I", Cond.fieldLink RX10 181 "MarkDeskModel" "marks" "I", Cond.fieldLink RX10 159 "MarkDeskModel" "now" "I", Cond.methodLink RX10 174 yX10_give, Cond.instanceMethod yX10_give, Cond.selects RX10 yX10_give yX10_give, Cond.initialized RX10, Cond.code yX10_give cX10_give 3 none, Cond.fieldLink RX10 162 "MarkDeskModel" "given" "I", Cond.fieldLink RX10 165 "MarkDeskModel" "word" "I", Cond.methodLink RX10 178 yX10_closure, Cond.instanceMethod yX10_closure, Cond.selects RX10 yX10_closure yX10_closure, Cond.code yX10_closure cX10_closure 3 (some .int), Cond.fieldLink RX10 168 "MarkDeskModel" "functions" "I", Cond.fieldLink RX10 40 "MarkDeskModel" "functionTerm" "[I", Cond.fieldLink RX10 43 "MarkDeskModel" "functionBound" "[I", Cond.methodLink RX10 184 yX10_bind]
def wsX10_begin_r2 : List Cond := [Cond.instanceMethod yX10_bind, Cond.selects RX10 yX10_bind yX10_bind, Cond.code yX10_bind cX10_bind 4 (some .int), Cond.fieldLink RX10 153 "MarkDeskModel" "bounds" "I", Cond.methodLink RX10 188 yX10_then, Cond.instanceMethod yX10_then, Cond.selects RX10 yX10_then yX10_then, Cond.code yX10_then cX10_then 6 none, Cond.fieldLink RX10 156 "MarkDeskModel" "tasks" "I", Cond.fieldLink RX10 46 "MarkDeskModel" "taskKind" "[I", Cond.fieldLink RX10 49 "MarkDeskModel" "taskTerm" "[I", Cond.fieldLink RX10 52 "MarkDeskModel" "taskBound" "[I", Cond.fieldLink RX10 55 "MarkDeskModel" "taskValue" "[I", Cond.fieldLink RX10 58 "MarkDeskModel" "taskWord" "[I", Cond.fieldLink RX10 61 "MarkDeskModel" "taskNext" "[I"]
def wsX10_begin : List Cond := .code yX10_begin cX10_begin 6 (some .int) :: ((wsX10_begin_r1 ++ wsX10_begin_r2) ++ wsX100)
def wsX10_call : List Cond := .code yX10_call cX10_call 5 (some .int) :: ([.fieldLink RX10 64 "MarkDeskModel" "mark" "[I", .fieldLink RX10 181 "MarkDeskModel" "marks" "I", .fieldLink RX10 159 "MarkDeskModel" "now" "I", .fieldLink RX10 192 "MarkDeskModel" "stuck" "Z", .fieldLink RX10 40 "MarkDeskModel" "functionTerm" "[I", .fieldLink RX10 7 "MarkDeskModel" "kind" "[I", .fieldLink RX10 43 "MarkDeskModel" "functionBound" "[I", .fieldLink RX10 162 "MarkDeskModel" "given" "I", .fieldLink RX10 165 "MarkDeskModel" "word" "I", .fieldLink RX10 171 "MarkDeskModel" "taken" "I", .fieldLink RX10 13 "MarkDeskModel" "wordA" "[I", .methodLink RX10 184 yX10_bind, .instanceMethod yX10_bind, .selects RX10 yX10_bind yX10_bind, .initialized RX10, .code yX10_bind cX10_bind 4 (some .int), .fieldLink RX10 153 "MarkDeskModel" "bounds" "I", .fieldLink RX10 31 "MarkDeskModel" "boundKind" "[I", .fieldLink RX10 34 "MarkDeskModel" "boundWord" "[I", .fieldLink RX10 37 "MarkDeskModel" "boundNext" "[I"] ++ wsX100)
def wsX10_goOn_r1 : List Cond := [Cond.fieldLink RX10 159 "MarkDeskModel" "now" "I", Cond.fieldLink RX10 49 "MarkDeskModel" "taskTerm" "[I", Cond.fieldLink RX10 46 "MarkDeskModel" "taskKind" "[I", Cond.fieldLink RX10 55 "MarkDeskModel" "taskValue" "[I", Cond.fieldLink RX10 61 "MarkDeskModel" "taskNext" "[I", Cond.fieldLink RX10 52 "MarkDeskModel" "taskBound" "[I", Cond.fieldLink RX10 171 "MarkDeskModel" "taken" "I", Cond.fieldLink RX10 162 "MarkDeskModel" "given" "I", Cond.fieldLink RX10 192 "MarkDeskModel" "stuck" "Z", Cond.fieldLink RX10 165 "MarkDeskModel" "word" "I", Cond.fieldLink RX10 16 "MarkDeskModel" "wordB" "[I", Cond.fieldLink RX10 19 "MarkDeskModel" "wordC" "[I", Cond.fieldLink RX10 58 "MarkDeskModel" "taskWord" "[I", Cond.methodLink RX10 184 yX10_bind, Cond.instanceMethod yX10_bind, Cond.selects RX10 yX10_bind yX10_bind, Cond.initialized RX10, Cond.code yX10_bind cX10_bind 4 (some .int), Cond.fieldLink RX10 153 "MarkDeskModel" "bounds" "I", Cond.fieldLink RX10 31 "MarkDeskModel" "boundKind" "[I", Cond.fieldLink RX10 34 "MarkDeskModel" "boundWord" "[I", Cond.fieldLink RX10 37 "MarkDeskModel" "boundNext" "[I", Cond.methodLink RX10 188 yX10_then, Cond.instanceMethod yX10_then]
def wsX10_goOn_r2 : List Cond := [Cond.selects RX10 yX10_then yX10_then, Cond.code yX10_then cX10_then 6 none, Cond.fieldLink RX10 156 "MarkDeskModel" "tasks" "I", Cond.methodLink RX10 196 yX10_call, Cond.instanceMethod yX10_call, Cond.selects RX10 yX10_call yX10_call, Cond.code yX10_call cX10_call 5 (some .int), Cond.fieldLink RX10 64 "MarkDeskModel" "mark" "[I", Cond.fieldLink RX10 181 "MarkDeskModel" "marks" "I", Cond.fieldLink RX10 40 "MarkDeskModel" "functionTerm" "[I", Cond.fieldLink RX10 7 "MarkDeskModel" "kind" "[I", Cond.fieldLink RX10 43 "MarkDeskModel" "functionBound" "[I", Cond.fieldLink RX10 13 "MarkDeskModel" "wordA" "[I", Cond.methodLink RX10 174 yX10_give, Cond.instanceMethod yX10_give, Cond.selects RX10 yX10_give yX10_give, Cond.code yX10_give cX10_give 3 none]
def wsX10_goOn : List Cond := .code yX10_goOn cX10_goOn 5 (some .int) :: ((wsX10_goOn_r1 ++ wsX10_goOn_r2) ++ wsX100)
def wsX10_run_r1 : List Cond := [Cond.fieldLink RX10 153 "MarkDeskModel" "bounds" "I", Cond.fieldLink RX10 168 "MarkDeskModel" "functions" "I", Cond.fieldLink RX10 156 "MarkDeskModel" "tasks" "I", Cond.fieldLink RX10 181 "MarkDeskModel" "marks" "I", Cond.fieldLink RX10 159 "MarkDeskModel" "now" "I", Cond.fieldLink RX10 192 "MarkDeskModel" "stuck" "Z", Cond.fieldLink RX10 171 "MarkDeskModel" "taken" "I", Cond.fieldLink RX10 64 "MarkDeskModel" "mark" "[I", Cond.methodLink RX10 199 yX10_begin, Cond.instanceMethod yX10_begin, Cond.selects RX10 yX10_begin yX10_begin, Cond.initialized RX10, Cond.code yX10_begin cX10_begin 6 (some .int), Cond.fieldLink RX10 7 "MarkDeskModel" "kind" "[I", Cond.fieldLink RX10 13 "MarkDeskModel" "wordA" "[I", Cond.fieldLink RX10 37 "MarkDeskModel" "boundNext" "[I", Cond.fieldLink RX10 31 "MarkDeskModel" "boundKind" "[I", Cond.fieldLink RX10 34 "MarkDeskModel" "boundWord" "[I", Cond.methodLink RX10 174 yX10_give, Cond.instanceMethod yX10_give, Cond.selects RX10 yX10_give yX10_give, Cond.code yX10_give cX10_give 3 none, Cond.fieldLink RX10 162 "MarkDeskModel" "given" "I", Cond.fieldLink RX10 165 "MarkDeskModel" "word" "I"]
def wsX10_run_r2 : List Cond := [Cond.methodLink RX10 178 yX10_closure, Cond.instanceMethod yX10_closure, Cond.selects RX10 yX10_closure yX10_closure, Cond.code yX10_closure cX10_closure 3 (some .int), Cond.fieldLink RX10 40 "MarkDeskModel" "functionTerm" "[I", Cond.fieldLink RX10 43 "MarkDeskModel" "functionBound" "[I", Cond.methodLink RX10 184 yX10_bind, Cond.instanceMethod yX10_bind, Cond.selects RX10 yX10_bind yX10_bind, Cond.code yX10_bind cX10_bind 4 (some .int), Cond.methodLink RX10 188 yX10_then, Cond.instanceMethod yX10_then, Cond.selects RX10 yX10_then yX10_then, Cond.code yX10_then cX10_then 6 none, Cond.fieldLink RX10 46 "MarkDeskModel" "taskKind" "[I", Cond.fieldLink RX10 49 "MarkDeskModel" "taskTerm" "[I", Cond.fieldLink RX10 52 "MarkDeskModel" "taskBound" "[I", Cond.fieldLink RX10 55 "MarkDeskModel" "taskValue" "[I", Cond.fieldLink RX10 58 "MarkDeskModel" "taskWord" "[I", Cond.fieldLink RX10 61 "MarkDeskModel" "taskNext" "[I", Cond.methodLink RX10 202 yX10_goOn, Cond.instanceMethod yX10_goOn, Cond.selects RX10 yX10_goOn yX10_goOn, Cond.code yX10_goOn cX10_goOn 5 (some .int)]
def wsX10_run_r3 : List Cond := [Cond.fieldLink RX10 16 "MarkDeskModel" "wordB" "[I", Cond.fieldLink RX10 19 "MarkDeskModel" "wordC" "[I", Cond.methodLink RX10 196 yX10_call, Cond.instanceMethod yX10_call, Cond.selects RX10 yX10_call yX10_call, Cond.code yX10_call cX10_call 5 (some .int)]
def wsX10_run : List Cond := .code yX10_run cX10_run 6 (some .int) :: ((wsX10_run_r1 ++ (wsX10_run_r2 ++ wsX10_run_r3)) ++ wsX100)
def wsX10_work_r1 : List Cond := [Cond.fieldLink RX10 117 "MarkDeskModel" "thrown" "I", Cond.fieldLink RX10 28 "MarkDeskModel" "need" "[I", Cond.fieldLink RX10 209 "MarkDeskModel" "stucks" "I", Cond.fieldLink RX10 212 "MarkDeskModel" "mores" "I", Cond.fieldLink RX10 162 "MarkDeskModel" "given" "I", Cond.fieldLink RX10 215 "MarkDeskModel" "latestKind" "I", Cond.fieldLink RX10 165 "MarkDeskModel" "word" "I", Cond.fieldLink RX10 218 "MarkDeskModel" "latestWord" "I", Cond.fieldLink RX10 221 "MarkDeskModel" "latestSteps" "I", Cond.fieldLink RX10 224 "MarkDeskModel" "found" "I", Cond.fieldLink RX10 227 "MarkDeskModel" "allSteps" "I", Cond.methodLink RX10 127 yX10_isTerm, Cond.instanceMethod yX10_isTerm, Cond.selects RX10 yX10_isTerm yX10_isTerm, Cond.initialized RX10, Cond.code yX10_isTerm cX10_isTerm 2 (some .boolean), Cond.fieldLink RX10 120 "MarkDeskModel" "terms" "I", Cond.methodLink RX10 123 yX10_in, Cond.static yX10_in, Cond.code yX10_in cX10_in 3 (some .boolean), Cond.methodLink RX10 138 yX10_fail, Cond.instanceMethod yX10_fail, Cond.selects RX10 yX10_fail yX10_fail, Cond.code yX10_fail cX10_fail 2 (some .int)]
def wsX10_work_r2 : List Cond := [Cond.methodLink RX10 206 yX10_run, Cond.instanceMethod yX10_run, Cond.selects RX10 yX10_run yX10_run, Cond.code yX10_run cX10_run 6 (some .int), Cond.fieldLink RX10 153 "MarkDeskModel" "bounds" "I", Cond.fieldLink RX10 168 "MarkDeskModel" "functions" "I", Cond.fieldLink RX10 156 "MarkDeskModel" "tasks" "I", Cond.fieldLink RX10 181 "MarkDeskModel" "marks" "I", Cond.fieldLink RX10 159 "MarkDeskModel" "now" "I", Cond.fieldLink RX10 192 "MarkDeskModel" "stuck" "Z", Cond.fieldLink RX10 171 "MarkDeskModel" "taken" "I", Cond.fieldLink RX10 64 "MarkDeskModel" "mark" "[I", Cond.methodLink RX10 199 yX10_begin, Cond.instanceMethod yX10_begin, Cond.selects RX10 yX10_begin yX10_begin, Cond.code yX10_begin cX10_begin 6 (some .int), Cond.fieldLink RX10 7 "MarkDeskModel" "kind" "[I", Cond.fieldLink RX10 13 "MarkDeskModel" "wordA" "[I", Cond.fieldLink RX10 37 "MarkDeskModel" "boundNext" "[I", Cond.fieldLink RX10 31 "MarkDeskModel" "boundKind" "[I", Cond.fieldLink RX10 34 "MarkDeskModel" "boundWord" "[I", Cond.methodLink RX10 174 yX10_give, Cond.instanceMethod yX10_give, Cond.selects RX10 yX10_give yX10_give]
def wsX10_work_r3 : List Cond := [Cond.code yX10_give cX10_give 3 none, Cond.methodLink RX10 178 yX10_closure, Cond.instanceMethod yX10_closure, Cond.selects RX10 yX10_closure yX10_closure, Cond.code yX10_closure cX10_closure 3 (some .int), Cond.fieldLink RX10 40 "MarkDeskModel" "functionTerm" "[I", Cond.fieldLink RX10 43 "MarkDeskModel" "functionBound" "[I", Cond.methodLink RX10 184 yX10_bind, Cond.instanceMethod yX10_bind, Cond.selects RX10 yX10_bind yX10_bind, Cond.code yX10_bind cX10_bind 4 (some .int), Cond.methodLink RX10 188 yX10_then, Cond.instanceMethod yX10_then, Cond.selects RX10 yX10_then yX10_then, Cond.code yX10_then cX10_then 6 none, Cond.fieldLink RX10 46 "MarkDeskModel" "taskKind" "[I", Cond.fieldLink RX10 49 "MarkDeskModel" "taskTerm" "[I", Cond.fieldLink RX10 52 "MarkDeskModel" "taskBound" "[I", Cond.fieldLink RX10 55 "MarkDeskModel" "taskValue" "[I", Cond.fieldLink RX10 58 "MarkDeskModel" "taskWord" "[I", Cond.fieldLink RX10 61 "MarkDeskModel" "taskNext" "[I", Cond.methodLink RX10 202 yX10_goOn, Cond.instanceMethod yX10_goOn, Cond.selects RX10 yX10_goOn yX10_goOn]
def wsX10_work_r4 : List Cond := [Cond.code yX10_goOn cX10_goOn 5 (some .int), Cond.fieldLink RX10 16 "MarkDeskModel" "wordB" "[I", Cond.fieldLink RX10 19 "MarkDeskModel" "wordC" "[I", Cond.methodLink RX10 196 yX10_call, Cond.instanceMethod yX10_call, Cond.selects RX10 yX10_call yX10_call, Cond.code yX10_call cX10_call 5 (some .int)]
def wsX10_work : List Cond := .code yX10_work cX10_work 4 (some .int) :: ((wsX10_work_r1 ++ (wsX10_work_r2 ++ (wsX10_work_r3 ++ wsX10_work_r4))) ++ wsX100)
def wsX10_value : List Cond := .code yX10_value cX10_value 1 (some .int) :: ([.fieldLink RX10 117 "MarkDeskModel" "thrown" "I", .fieldLink RX10 224 "MarkDeskModel" "found" "I", .fieldLink RX10 215 "MarkDeskModel" "latestKind" "I", .fieldLink RX10 218 "MarkDeskModel" "latestWord" "I"] ++ wsX100)
def wsX10_steps : List Cond := .code yX10_steps cX10_steps 1 (some .int) :: ([.fieldLink RX10 117 "MarkDeskModel" "thrown" "I", .fieldLink RX10 221 "MarkDeskModel" "latestSteps" "I"] ++ wsX100)
def wsX10_cell : List Cond := .code yX10_cell cX10_cell 3 (some .int) :: ([.fieldLink RX10 230 "MarkDeskModel" "bank" "I", .fieldLink RX10 233 "MarkDeskModel" "cells" "I", .fieldLink RX10 67 "MarkDeskModel" "sort" "[I", .fieldLink RX10 70 "MarkDeskModel" "standsFor" "[I"] ++ wsX100)
def wsX10_letterCell : List Cond := .code yX10_letterCell cX10_letterCell 1 (some .int) :: ([.methodLink RX10 236 yX10_cell, .instanceMethod yX10_cell, .selects RX10 yX10_cell yX10_cell, .initialized RX10, .code yX10_cell cX10_cell 3 (some .int), .fieldLink RX10 230 "MarkDeskModel" "bank" "I", .fieldLink RX10 233 "MarkDeskModel" "cells" "I", .fieldLink RX10 67 "MarkDeskModel" "sort" "[I", .fieldLink RX10 70 "MarkDeskModel" "standsFor" "[I"] ++ wsX100)
def wsX10_functionCell : List Cond := .code yX10_functionCell cX10_functionCell 6 (some .int) :: ([.fieldLink RX10 73 "MarkDeskModel" "parts" "[I", .methodLink RX10 236 yX10_cell, .instanceMethod yX10_cell, .selects RX10 yX10_cell yX10_cell, .initialized RX10, .code yX10_cell cX10_cell 3 (some .int), .fieldLink RX10 230 "MarkDeskModel" "bank" "I", .fieldLink RX10 233 "MarkDeskModel" "cells" "I", .fieldLink RX10 67 "MarkDeskModel" "sort" "[I", .fieldLink RX10 70 "MarkDeskModel" "standsFor" "[I"] ++ wsX100)
def wsX10_end : List Cond := .code yX10_end cX10_end 3 (some .int) :: ([.fieldLink RX10 70 "MarkDeskModel" "standsFor" "[I"] ++ wsX100)
def wsX10_contains : List Cond := .code yX10_contains cX10_contains 7 (some .boolean) :: ([.fieldLink RX10 230 "MarkDeskModel" "bank" "I", .fieldLink RX10 233 "MarkDeskModel" "cells" "I", .fieldLink RX10 89 "MarkDeskModel" "seen" "[Z", .fieldLink RX10 83 "MarkDeskModel" "pile" "[I", .fieldLink RX10 67 "MarkDeskModel" "sort" "[I", .fieldLink RX10 73 "MarkDeskModel" "parts" "[I", .methodLink RX10 239 yX10_end, .instanceMethod yX10_end, .selects RX10 yX10_end yX10_end, .initialized RX10, .code yX10_end cX10_end 3 (some .int), .fieldLink RX10 70 "MarkDeskModel" "standsFor" "[I"] ++ wsX100)
def wsX10_equal : List Cond := .code yX10_equal cX10_equal 8 none :: ([.fieldLink RX10 86 "MarkDeskModel" "pairs" "[I", .fieldLink RX10 242 "MarkDeskModel" "bad" "Z", .fieldLink RX10 67 "MarkDeskModel" "sort" "[I", .fieldLink RX10 70 "MarkDeskModel" "standsFor" "[I", .fieldLink RX10 73 "MarkDeskModel" "parts" "[I", .methodLink RX10 239 yX10_end, .instanceMethod yX10_end, .selects RX10 yX10_end yX10_end, .initialized RX10, .code yX10_end cX10_end 3 (some .int), .methodLink RX10 245 yX10_contains, .instanceMethod yX10_contains, .selects RX10 yX10_contains yX10_contains, .code yX10_contains cX10_contains 7 (some .boolean), .fieldLink RX10 230 "MarkDeskModel" "bank" "I", .fieldLink RX10 233 "MarkDeskModel" "cells" "I", .fieldLink RX10 89 "MarkDeskModel" "seen" "[Z", .fieldLink RX10 83 "MarkDeskModel" "pile" "[I"] ++ wsX100)
def wsX10_endless : List Cond := .code yX10_endless cX10_endless 6 (some .boolean) :: ([.fieldLink RX10 230 "MarkDeskModel" "bank" "I", .fieldLink RX10 233 "MarkDeskModel" "cells" "I", .fieldLink RX10 89 "MarkDeskModel" "seen" "[Z", .fieldLink RX10 67 "MarkDeskModel" "sort" "[I", .fieldLink RX10 70 "MarkDeskModel" "standsFor" "[I", .fieldLink RX10 73 "MarkDeskModel" "parts" "[I", .methodLink RX10 239 yX10_end, .instanceMethod yX10_end, .selects RX10 yX10_end yX10_end, .initialized RX10, .code yX10_end cX10_end 3 (some .int)] ++ wsX100)
def wsX10_goal : List Cond := .code yX10_goal cX10_goal 6 none :: ([.fieldLink RX10 93 "MarkDeskModel" "goalTerm" "[I", .fieldLink RX10 249 "MarkDeskModel" "goals" "I", .fieldLink RX10 96 "MarkDeskModel" "goalBound" "[I", .fieldLink RX10 99 "MarkDeskModel" "goalType" "[I", .fieldLink RX10 102 "MarkDeskModel" "goalFrom" "[I", .fieldLink RX10 105 "MarkDeskModel" "goalTo" "[I"] ++ wsX100)
def wsX10_place : List Cond := .code yX10_place cX10_place 4 (some .int) :: ([.fieldLink RX10 252 "MarkDeskModel" "places" "I", .fieldLink RX10 108 "MarkDeskModel" "placeType" "[I", .fieldLink RX10 111 "MarkDeskModel" "placeFrom" "[I", .fieldLink RX10 114 "MarkDeskModel" "placeNext" "[I"] ++ wsX100)
def wsX10_variable_r1 : List Cond := [Cond.fieldLink RX10 114 "MarkDeskModel" "placeNext" "[I", Cond.fieldLink RX10 111 "MarkDeskModel" "placeFrom" "[I", Cond.fieldLink RX10 108 "MarkDeskModel" "placeType" "[I", Cond.methodLink RX10 255 yX10_equal, Cond.instanceMethod yX10_equal, Cond.selects RX10 yX10_equal yX10_equal, Cond.initialized RX10, Cond.code yX10_equal cX10_equal 8 none, Cond.fieldLink RX10 86 "MarkDeskModel" "pairs" "[I", Cond.fieldLink RX10 242 "MarkDeskModel" "bad" "Z", Cond.fieldLink RX10 67 "MarkDeskModel" "sort" "[I", Cond.fieldLink RX10 70 "MarkDeskModel" "standsFor" "[I", Cond.fieldLink RX10 73 "MarkDeskModel" "parts" "[I", Cond.methodLink RX10 239 yX10_end, Cond.instanceMethod yX10_end, Cond.selects RX10 yX10_end yX10_end, Cond.code yX10_end cX10_end 3 (some .int), Cond.methodLink RX10 245 yX10_contains, Cond.instanceMethod yX10_contains, Cond.selects RX10 yX10_contains yX10_contains, Cond.code yX10_contains cX10_contains 7 (some .boolean), Cond.fieldLink RX10 230 "MarkDeskModel" "bank" "I", Cond.fieldLink RX10 233 "MarkDeskModel" "cells" "I", Cond.fieldLink RX10 89 "MarkDeskModel" "seen" "[Z"]
def wsX10_variable_r2 : List Cond := [Cond.fieldLink RX10 83 "MarkDeskModel" "pile" "[I", Cond.methodLink RX10 258 yX10_letterCell, Cond.instanceMethod yX10_letterCell, Cond.selects RX10 yX10_letterCell yX10_letterCell, Cond.code yX10_letterCell cX10_letterCell 1 (some .int), Cond.methodLink RX10 236 yX10_cell, Cond.instanceMethod yX10_cell, Cond.selects RX10 yX10_cell yX10_cell, Cond.code yX10_cell cX10_cell 3 (some .int), Cond.methodLink RX10 261 yX10_functionCell, Cond.instanceMethod yX10_functionCell, Cond.selects RX10 yX10_functionCell yX10_functionCell, Cond.code yX10_functionCell cX10_functionCell 6 (some .int)]
def wsX10_variable : List Cond := .code yX10_variable cX10_variable 6 none :: ((wsX10_variable_r1 ++ wsX10_variable_r2) ++ wsX100)
def wsX10_function_r1 : List Cond := [Cond.fieldLink RX10 13 "MarkDeskModel" "wordA" "[I", Cond.methodLink RX10 258 yX10_letterCell, Cond.instanceMethod yX10_letterCell, Cond.selects RX10 yX10_letterCell yX10_letterCell, Cond.initialized RX10, Cond.code yX10_letterCell cX10_letterCell 1 (some .int), Cond.methodLink RX10 236 yX10_cell, Cond.instanceMethod yX10_cell, Cond.selects RX10 yX10_cell yX10_cell, Cond.code yX10_cell cX10_cell 3 (some .int), Cond.fieldLink RX10 230 "MarkDeskModel" "bank" "I", Cond.fieldLink RX10 233 "MarkDeskModel" "cells" "I", Cond.fieldLink RX10 67 "MarkDeskModel" "sort" "[I", Cond.fieldLink RX10 70 "MarkDeskModel" "standsFor" "[I", Cond.methodLink RX10 261 yX10_functionCell, Cond.instanceMethod yX10_functionCell, Cond.selects RX10 yX10_functionCell yX10_functionCell, Cond.code yX10_functionCell cX10_functionCell 6 (some .int), Cond.fieldLink RX10 73 "MarkDeskModel" "parts" "[I", Cond.methodLink RX10 255 yX10_equal, Cond.instanceMethod yX10_equal, Cond.selects RX10 yX10_equal yX10_equal, Cond.code yX10_equal cX10_equal 8 none, Cond.fieldLink RX10 86 "MarkDeskModel" "pairs" "[I"]
def wsX10_function_r2 : List Cond := [Cond.fieldLink RX10 242 "MarkDeskModel" "bad" "Z", Cond.methodLink RX10 239 yX10_end, Cond.instanceMethod yX10_end, Cond.selects RX10 yX10_end yX10_end, Cond.code yX10_end cX10_end 3 (some .int), Cond.methodLink RX10 245 yX10_contains, Cond.instanceMethod yX10_contains, Cond.selects RX10 yX10_contains yX10_contains, Cond.code yX10_contains cX10_contains 7 (some .boolean), Cond.fieldLink RX10 89 "MarkDeskModel" "seen" "[Z", Cond.fieldLink RX10 83 "MarkDeskModel" "pile" "[I", Cond.methodLink RX10 264 yX10_place, Cond.instanceMethod yX10_place, Cond.selects RX10 yX10_place yX10_place, Cond.code yX10_place cX10_place 4 (some .int), Cond.fieldLink RX10 252 "MarkDeskModel" "places" "I", Cond.fieldLink RX10 108 "MarkDeskModel" "placeType" "[I", Cond.fieldLink RX10 111 "MarkDeskModel" "placeFrom" "[I", Cond.fieldLink RX10 114 "MarkDeskModel" "placeNext" "[I", Cond.methodLink RX10 267 yX10_goal, Cond.instanceMethod yX10_goal, Cond.selects RX10 yX10_goal yX10_goal, Cond.code yX10_goal cX10_goal 6 none, Cond.fieldLink RX10 93 "MarkDeskModel" "goalTerm" "[I"]
def wsX10_function_r3 : List Cond := [Cond.fieldLink RX10 249 "MarkDeskModel" "goals" "I", Cond.fieldLink RX10 96 "MarkDeskModel" "goalBound" "[I", Cond.fieldLink RX10 99 "MarkDeskModel" "goalType" "[I", Cond.fieldLink RX10 102 "MarkDeskModel" "goalFrom" "[I", Cond.fieldLink RX10 105 "MarkDeskModel" "goalTo" "[I"]
def wsX10_function : List Cond := .code yX10_function cX10_function 11 none :: ((wsX10_function_r1 ++ (wsX10_function_r2 ++ wsX10_function_r3)) ++ wsX100)
def wsX10_solveTwo_r1 : List Cond := [Cond.fieldLink RX10 99 "MarkDeskModel" "goalType" "[I", Cond.fieldLink RX10 249 "MarkDeskModel" "goals" "I", Cond.fieldLink RX10 102 "MarkDeskModel" "goalFrom" "[I", Cond.fieldLink RX10 105 "MarkDeskModel" "goalTo" "[I", Cond.fieldLink RX10 13 "MarkDeskModel" "wordA" "[I", Cond.fieldLink RX10 16 "MarkDeskModel" "wordB" "[I", Cond.fieldLink RX10 19 "MarkDeskModel" "wordC" "[I", Cond.methodLink RX10 258 yX10_letterCell, Cond.instanceMethod yX10_letterCell, Cond.selects RX10 yX10_letterCell yX10_letterCell, Cond.initialized RX10, Cond.code yX10_letterCell cX10_letterCell 1 (some .int), Cond.methodLink RX10 236 yX10_cell, Cond.instanceMethod yX10_cell, Cond.selects RX10 yX10_cell yX10_cell, Cond.code yX10_cell cX10_cell 3 (some .int), Cond.fieldLink RX10 230 "MarkDeskModel" "bank" "I", Cond.fieldLink RX10 233 "MarkDeskModel" "cells" "I", Cond.fieldLink RX10 67 "MarkDeskModel" "sort" "[I", Cond.fieldLink RX10 70 "MarkDeskModel" "standsFor" "[I", Cond.methodLink RX10 261 yX10_functionCell, Cond.instanceMethod yX10_functionCell, Cond.selects RX10 yX10_functionCell yX10_functionCell, Cond.code yX10_functionCell cX10_functionCell 6 (some .int)]
def wsX10_solveTwo_r2 : List Cond := [Cond.fieldLink RX10 73 "MarkDeskModel" "parts" "[I", Cond.methodLink RX10 267 yX10_goal, Cond.instanceMethod yX10_goal, Cond.selects RX10 yX10_goal yX10_goal, Cond.code yX10_goal cX10_goal 6 none, Cond.fieldLink RX10 93 "MarkDeskModel" "goalTerm" "[I", Cond.fieldLink RX10 96 "MarkDeskModel" "goalBound" "[I", Cond.methodLink RX10 264 yX10_place, Cond.instanceMethod yX10_place, Cond.selects RX10 yX10_place yX10_place, Cond.code yX10_place cX10_place 4 (some .int), Cond.fieldLink RX10 252 "MarkDeskModel" "places" "I", Cond.fieldLink RX10 108 "MarkDeskModel" "placeType" "[I", Cond.fieldLink RX10 111 "MarkDeskModel" "placeFrom" "[I", Cond.fieldLink RX10 114 "MarkDeskModel" "placeNext" "[I", Cond.methodLink RX10 255 yX10_equal, Cond.instanceMethod yX10_equal, Cond.selects RX10 yX10_equal yX10_equal, Cond.code yX10_equal cX10_equal 8 none, Cond.fieldLink RX10 86 "MarkDeskModel" "pairs" "[I", Cond.fieldLink RX10 242 "MarkDeskModel" "bad" "Z", Cond.methodLink RX10 239 yX10_end, Cond.instanceMethod yX10_end, Cond.selects RX10 yX10_end yX10_end]
def wsX10_solveTwo_r3 : List Cond := [Cond.code yX10_end cX10_end 3 (some .int), Cond.methodLink RX10 245 yX10_contains, Cond.instanceMethod yX10_contains, Cond.selects RX10 yX10_contains yX10_contains, Cond.code yX10_contains cX10_contains 7 (some .boolean), Cond.fieldLink RX10 89 "MarkDeskModel" "seen" "[Z", Cond.fieldLink RX10 83 "MarkDeskModel" "pile" "[I"]
def wsX10_solveTwo : List Cond := .code yX10_solveTwo cX10_solveTwo 10 none :: ((wsX10_solveTwo_r1 ++ (wsX10_solveTwo_r2 ++ wsX10_solveTwo_r3)) ++ wsX100)
def wsX10_solve_r1 : List Cond := [Cond.fieldLink RX10 249 "MarkDeskModel" "goals" "I", Cond.fieldLink RX10 93 "MarkDeskModel" "goalTerm" "[I", Cond.fieldLink RX10 96 "MarkDeskModel" "goalBound" "[I", Cond.fieldLink RX10 99 "MarkDeskModel" "goalType" "[I", Cond.fieldLink RX10 102 "MarkDeskModel" "goalFrom" "[I", Cond.fieldLink RX10 105 "MarkDeskModel" "goalTo" "[I", Cond.fieldLink RX10 7 "MarkDeskModel" "kind" "[I", Cond.fieldLink RX10 13 "MarkDeskModel" "wordA" "[I", Cond.methodLink RX10 123 yX10_in, Cond.static yX10_in, Cond.initialized RX10, Cond.code yX10_in cX10_in 3 (some .boolean), Cond.methodLink RX10 255 yX10_equal, Cond.instanceMethod yX10_equal, Cond.selects RX10 yX10_equal yX10_equal, Cond.code yX10_equal cX10_equal 8 none, Cond.fieldLink RX10 86 "MarkDeskModel" "pairs" "[I", Cond.fieldLink RX10 242 "MarkDeskModel" "bad" "Z", Cond.fieldLink RX10 67 "MarkDeskModel" "sort" "[I", Cond.fieldLink RX10 70 "MarkDeskModel" "standsFor" "[I", Cond.fieldLink RX10 73 "MarkDeskModel" "parts" "[I", Cond.methodLink RX10 239 yX10_end, Cond.instanceMethod yX10_end, Cond.selects RX10 yX10_end yX10_end]
def wsX10_solve_r2 : List Cond := [Cond.code yX10_end cX10_end 3 (some .int), Cond.methodLink RX10 245 yX10_contains, Cond.instanceMethod yX10_contains, Cond.selects RX10 yX10_contains yX10_contains, Cond.code yX10_contains cX10_contains 7 (some .boolean), Cond.fieldLink RX10 230 "MarkDeskModel" "bank" "I", Cond.fieldLink RX10 233 "MarkDeskModel" "cells" "I", Cond.fieldLink RX10 89 "MarkDeskModel" "seen" "[Z", Cond.fieldLink RX10 83 "MarkDeskModel" "pile" "[I", Cond.methodLink RX10 236 yX10_cell, Cond.instanceMethod yX10_cell, Cond.selects RX10 yX10_cell yX10_cell, Cond.code yX10_cell cX10_cell 3 (some .int), Cond.methodLink RX10 270 yX10_variable, Cond.instanceMethod yX10_variable, Cond.selects RX10 yX10_variable yX10_variable, Cond.code yX10_variable cX10_variable 6 none, Cond.fieldLink RX10 114 "MarkDeskModel" "placeNext" "[I", Cond.fieldLink RX10 111 "MarkDeskModel" "placeFrom" "[I", Cond.fieldLink RX10 108 "MarkDeskModel" "placeType" "[I", Cond.methodLink RX10 258 yX10_letterCell, Cond.instanceMethod yX10_letterCell, Cond.selects RX10 yX10_letterCell yX10_letterCell, Cond.code yX10_letterCell cX10_letterCell 1 (some .int)]
def wsX10_solve_r3 : List Cond := [Cond.methodLink RX10 261 yX10_functionCell, Cond.instanceMethod yX10_functionCell, Cond.selects RX10 yX10_functionCell yX10_functionCell, Cond.code yX10_functionCell cX10_functionCell 6 (some .int), Cond.methodLink RX10 274 yX10_function, Cond.instanceMethod yX10_function, Cond.selects RX10 yX10_function yX10_function, Cond.code yX10_function cX10_function 11 none, Cond.methodLink RX10 264 yX10_place, Cond.instanceMethod yX10_place, Cond.selects RX10 yX10_place yX10_place, Cond.code yX10_place cX10_place 4 (some .int), Cond.fieldLink RX10 252 "MarkDeskModel" "places" "I", Cond.methodLink RX10 267 yX10_goal, Cond.instanceMethod yX10_goal, Cond.selects RX10 yX10_goal yX10_goal, Cond.code yX10_goal cX10_goal 6 none, Cond.methodLink RX10 278 yX10_solveTwo, Cond.instanceMethod yX10_solveTwo, Cond.selects RX10 yX10_solveTwo yX10_solveTwo, Cond.code yX10_solveTwo cX10_solveTwo 10 none, Cond.fieldLink RX10 16 "MarkDeskModel" "wordB" "[I", Cond.fieldLink RX10 19 "MarkDeskModel" "wordC" "[I"]
def wsX10_solve : List Cond := .code yX10_solve cX10_solve 9 none :: ((wsX10_solve_r1 ++ (wsX10_solve_r2 ++ wsX10_solve_r3)) ++ wsX100)
def wsX10_numberLetters : List Cond := .code yX10_numberLetters cX10_numberLetters 7 none :: ([.fieldLink RX10 230 "MarkDeskModel" "bank" "I", .fieldLink RX10 233 "MarkDeskModel" "cells" "I", .fieldLink RX10 89 "MarkDeskModel" "seen" "[Z", .fieldLink RX10 83 "MarkDeskModel" "pile" "[I", .fieldLink RX10 67 "MarkDeskModel" "sort" "[I", .fieldLink RX10 76 "MarkDeskModel" "letter" "[I", .fieldLink RX10 73 "MarkDeskModel" "parts" "[I", .methodLink RX10 239 yX10_end, .instanceMethod yX10_end, .selects RX10 yX10_end yX10_end, .initialized RX10, .code yX10_end cX10_end 3 (some .int), .fieldLink RX10 70 "MarkDeskModel" "standsFor" "[I"] ++ wsX100)
def wsX10_told : List Cond := .code yX10_told cX10_told 2 (some .int) :: ([])
def wsX10_type_r1 : List Cond := [Cond.fieldLink RX10 117 "MarkDeskModel" "thrown" "I", Cond.fieldLink RX10 28 "MarkDeskModel" "need" "[I", Cond.fieldLink RX10 233 "MarkDeskModel" "cells" "I", Cond.fieldLink RX10 249 "MarkDeskModel" "goals" "I", Cond.fieldLink RX10 252 "MarkDeskModel" "places" "I", Cond.fieldLink RX10 242 "MarkDeskModel" "bad" "Z", Cond.fieldLink RX10 288 "MarkDeskModel" "untyped" "I", Cond.fieldLink RX10 230 "MarkDeskModel" "bank" "I", Cond.fieldLink RX10 79 "MarkDeskModel" "result" "I", Cond.fieldLink RX10 295 "MarkDeskModel" "typed" "I", Cond.fieldLink RX10 67 "MarkDeskModel" "sort" "[I", Cond.methodLink RX10 127 yX10_isTerm, Cond.instanceMethod yX10_isTerm, Cond.selects RX10 yX10_isTerm yX10_isTerm, Cond.initialized RX10, Cond.code yX10_isTerm cX10_isTerm 2 (some .boolean), Cond.fieldLink RX10 120 "MarkDeskModel" "terms" "I", Cond.methodLink RX10 123 yX10_in, Cond.static yX10_in, Cond.code yX10_in cX10_in 3 (some .boolean), Cond.methodLink RX10 138 yX10_fail, Cond.instanceMethod yX10_fail, Cond.selects RX10 yX10_fail yX10_fail, Cond.code yX10_fail cX10_fail 2 (some .int)]
def wsX10_type_r2 : List Cond := [Cond.methodLink RX10 258 yX10_letterCell, Cond.instanceMethod yX10_letterCell, Cond.selects RX10 yX10_letterCell yX10_letterCell, Cond.code yX10_letterCell cX10_letterCell 1 (some .int), Cond.methodLink RX10 236 yX10_cell, Cond.instanceMethod yX10_cell, Cond.selects RX10 yX10_cell yX10_cell, Cond.code yX10_cell cX10_cell 3 (some .int), Cond.fieldLink RX10 70 "MarkDeskModel" "standsFor" "[I", Cond.methodLink RX10 267 yX10_goal, Cond.instanceMethod yX10_goal, Cond.selects RX10 yX10_goal yX10_goal, Cond.code yX10_goal cX10_goal 6 none, Cond.fieldLink RX10 93 "MarkDeskModel" "goalTerm" "[I", Cond.fieldLink RX10 96 "MarkDeskModel" "goalBound" "[I", Cond.fieldLink RX10 99 "MarkDeskModel" "goalType" "[I", Cond.fieldLink RX10 102 "MarkDeskModel" "goalFrom" "[I", Cond.fieldLink RX10 105 "MarkDeskModel" "goalTo" "[I", Cond.methodLink RX10 281 yX10_solve, Cond.instanceMethod yX10_solve, Cond.selects RX10 yX10_solve yX10_solve, Cond.code yX10_solve cX10_solve 9 none, Cond.fieldLink RX10 7 "MarkDeskModel" "kind" "[I", Cond.fieldLink RX10 13 "MarkDeskModel" "wordA" "[I"]
def wsX10_type_r3 : List Cond := [Cond.methodLink RX10 255 yX10_equal, Cond.instanceMethod yX10_equal, Cond.selects RX10 yX10_equal yX10_equal, Cond.code yX10_equal cX10_equal 8 none, Cond.fieldLink RX10 86 "MarkDeskModel" "pairs" "[I", Cond.fieldLink RX10 73 "MarkDeskModel" "parts" "[I", Cond.methodLink RX10 239 yX10_end, Cond.instanceMethod yX10_end, Cond.selects RX10 yX10_end yX10_end, Cond.code yX10_end cX10_end 3 (some .int), Cond.methodLink RX10 245 yX10_contains, Cond.instanceMethod yX10_contains, Cond.selects RX10 yX10_contains yX10_contains, Cond.code yX10_contains cX10_contains 7 (some .boolean), Cond.fieldLink RX10 89 "MarkDeskModel" "seen" "[Z", Cond.fieldLink RX10 83 "MarkDeskModel" "pile" "[I", Cond.methodLink RX10 270 yX10_variable, Cond.instanceMethod yX10_variable, Cond.selects RX10 yX10_variable yX10_variable, Cond.code yX10_variable cX10_variable 6 none, Cond.fieldLink RX10 114 "MarkDeskModel" "placeNext" "[I", Cond.fieldLink RX10 111 "MarkDeskModel" "placeFrom" "[I", Cond.fieldLink RX10 108 "MarkDeskModel" "placeType" "[I", Cond.methodLink RX10 261 yX10_functionCell]
def wsX10_type_r4 : List Cond := [Cond.instanceMethod yX10_functionCell, Cond.selects RX10 yX10_functionCell yX10_functionCell, Cond.code yX10_functionCell cX10_functionCell 6 (some .int), Cond.methodLink RX10 274 yX10_function, Cond.instanceMethod yX10_function, Cond.selects RX10 yX10_function yX10_function, Cond.code yX10_function cX10_function 11 none, Cond.methodLink RX10 264 yX10_place, Cond.instanceMethod yX10_place, Cond.selects RX10 yX10_place yX10_place, Cond.code yX10_place cX10_place 4 (some .int), Cond.methodLink RX10 278 yX10_solveTwo, Cond.instanceMethod yX10_solveTwo, Cond.selects RX10 yX10_solveTwo yX10_solveTwo, Cond.code yX10_solveTwo cX10_solveTwo 10 none, Cond.fieldLink RX10 16 "MarkDeskModel" "wordB" "[I", Cond.fieldLink RX10 19 "MarkDeskModel" "wordC" "[I", Cond.methodLink RX10 284 yX10_endless, Cond.instanceMethod yX10_endless, Cond.selects RX10 yX10_endless yX10_endless, Cond.code yX10_endless cX10_endless 6 (some .boolean), Cond.methodLink RX10 291 yX10_numberLetters, Cond.instanceMethod yX10_numberLetters, Cond.selects RX10 yX10_numberLetters yX10_numberLetters]
def wsX10_type_r5 : List Cond := [Cond.code yX10_numberLetters cX10_numberLetters 7 none, Cond.fieldLink RX10 76 "MarkDeskModel" "letter" "[I"]
def wsX10_type : List Cond := .code yX10_type cX10_type 4 (some .int) :: ((wsX10_type_r1 ++ (wsX10_type_r2 ++ (wsX10_type_r3 ++ (wsX10_type_r4 ++ wsX10_type_r5)))) ++ wsX100)
def wsX10_part : List Cond := .code yX10_part cX10_part 5 (some .int) :: ([.fieldLink RX10 117 "MarkDeskModel" "thrown" "I", .fieldLink RX10 79 "MarkDeskModel" "result" "I", .fieldLink RX10 67 "MarkDeskModel" "sort" "[I", .fieldLink RX10 73 "MarkDeskModel" "parts" "[I", .fieldLink RX10 76 "MarkDeskModel" "letter" "[I", .methodLink RX10 123 yX10_in, .static yX10_in, .initialized RX10, .code yX10_in cX10_in 3 (some .boolean), .methodLink RX10 239 yX10_end, .instanceMethod yX10_end, .selects RX10 yX10_end yX10_end, .code yX10_end cX10_end 3 (some .int), .fieldLink RX10 70 "MarkDeskModel" "standsFor" "[I", .methodLink RX10 298 yX10_told, .static yX10_told, .code yX10_told cX10_told 2 (some .int)] ++ wsX100)
def wsX10_count : List Cond := .code yX10_count cX10_count 2 (some .int) :: ([.fieldLink RX10 117 "MarkDeskModel" "thrown" "I", .fieldLink RX10 120 "MarkDeskModel" "terms" "I", .fieldLink RX10 224 "MarkDeskModel" "found" "I", .fieldLink RX10 209 "MarkDeskModel" "stucks" "I", .fieldLink RX10 212 "MarkDeskModel" "mores" "I", .fieldLink RX10 295 "MarkDeskModel" "typed" "I", .fieldLink RX10 288 "MarkDeskModel" "untyped" "I"] ++ wsX100)
def wsX10_mean : List Cond := .code yX10_mean cX10_mean 3 (some .float) :: ([.fieldLink RX10 117 "MarkDeskModel" "thrown" "I", .fieldLink RX10 224 "MarkDeskModel" "found" "I", .fieldLink RX10 227 "MarkDeskModel" "allSteps" "I"] ++ wsX100)
def wsJ9_max_7cf53 : List Cond := .code yJ9_max_7cf53 cJ9_max_7cf53 2 (some .int) :: ([])
def wsJ9_min_7cf53 : List Cond := .code yJ9_min_7cf53 cJ9_min_7cf53 2 (some .int) :: ([])
def wsL_make_r1 : List Cond := [Cond.classLink RL 13 "java/lang/IllegalArgumentException", Cond.classLink RL 15 "java/lang/IllegalStateException", Cond.methodLink RL 7 yX9_make, Cond.instanceMethod yX9_make, Cond.selects RX9 yX9_make yX9_make, Cond.initialized RX9, Cond.code yX9_make cX9_make 5 (some .int), Cond.classLink RX9 43 "java/lang/IllegalArgumentException", Cond.initialized "java/lang/IllegalArgumentException", Cond.classLink RX9 49 "java/lang/IllegalStateException", Cond.initialized "java/lang/IllegalStateException", Cond.fieldLink RX9 10 "MarkDesk" "terms" "LMarkDesk$Terms;", Cond.methodLink RX9 39 yX4_wordsFit, Cond.instanceMethod yX4_wordsFit, Cond.selects RX4 yX4_wordsFit yX4_wordsFit, Cond.initialized RX4, Cond.code yX4_wordsFit cX4_wordsFit 6 (some .boolean), Cond.fieldLink RX4 39 "MarkDesk$Kind" "TERM_WORDS" "[I", Cond.methodLink RX4 35 yX4_has, Cond.instanceMethod yX4_has, Cond.selects RX4 yX4_has yX4_has, Cond.code yX4_has cX4_has 2 (some .boolean), Cond.fieldLink RX4 31 "MarkDesk$Terms" "used" "I", Cond.methodLink RX9 46 yX4_hasRoomFor]
def wsL_make_r2 : List Cond := [Cond.instanceMethod yX4_hasRoomFor, Cond.selects RX4 yX4_hasRoomFor yX4_hasRoomFor, Cond.code yX4_hasRoomFor cX4_hasRoomFor 6 (some .boolean), Cond.methodLink RX4 44 yX4_heightOver, Cond.instanceMethod yX4_heightOver, Cond.selects RX4 yX4_heightOver yX4_heightOver, Cond.code yX4_heightOver cX4_heightOver 6 (some .int), Cond.fieldLink RX4 25 "MarkDesk$Terms" "height" "[I", Cond.methodLink RX4 54 Lib.Math.max.name, Cond.static Lib.Math.max.name, Cond.initialized "java/lang/Math", Cond.code Lib.Math.max.name Lib.Math.max.code 2 (some .int), Cond.methodLink RX4 48 yX4_sizeOver, Cond.instanceMethod yX4_sizeOver, Cond.selects RX4 yX4_sizeOver yX4_sizeOver, Cond.code yX4_sizeOver cX4_sizeOver 6 (some .int), Cond.fieldLink RX4 28 "MarkDesk$Terms" "size" "[I", Cond.methodLink RX9 52 yX4_add, Cond.instanceMethod yX4_add, Cond.selects RX4 yX4_add yX4_add, Cond.code yX4_add cX4_add 7 (some .int), Cond.fieldLink RX4 9 "MarkDesk$Terms" "kind" "[I", Cond.fieldLink RX4 13 "MarkDesk$Terms" "first" "[I", Cond.fieldLink RX4 16 "MarkDesk$Terms" "second" "[I"]
def wsL_make_r3 : List Cond := [Cond.fieldLink RX4 19 "MarkDesk$Terms" "third" "[I", Cond.fieldLink RX4 22 "MarkDesk$Terms" "needed" "[I", Cond.methodLink RX4 51 yX4_neededOver, Cond.instanceMethod yX4_neededOver, Cond.selects RX4 yX4_neededOver yX4_neededOver, Cond.code yX4_neededOver cX4_neededOver 6 (some .int), Cond.fieldLink RX4 60 "MarkDesk$Kind" "BINDS" "[I"]
def wsL_make : List Cond := .codeWith yL_make cL_make 7 (some .int) [(0, 14, 17, 13), (0, 14, 21, 15)] :: ((wsL_make_r1 ++ (wsL_make_r2 ++ wsL_make_r3)) ++ wsX90 ++ wsX40 ++ (vx_at0 RX9 45 "java/lang/IllegalArgumentException" ["java/lang/RuntimeException", "java/lang/Exception"]).filter goodWord ++ (vx_at0 RX9 51 "java/lang/IllegalStateException" ["java/lang/RuntimeException", "java/lang/Exception"]).filter goodWord)
def wsL_open : List Cond := .codeWith yL_open cL_open 4 (some .int) [(0, 9, 12, 21)] :: ([.classLink RL 21 "java/util/NoSuchElementException", .methodLink RL 17 yX9_open, .instanceMethod yX9_open, .selects RX9 yX9_open yX9_open, .initialized RX9, .code yX9_open cX9_open 2 (some .int), .classLink RX9 60 "java/util/NoSuchElementException", .initialized "java/util/NoSuchElementException", .fieldLink RX9 10 "MarkDesk" "terms" "LMarkDesk$Terms;", .fieldLink RX9 63 "MarkDesk$Terms" "needed" "[I", .methodLink RX9 56 yX4_has, .instanceMethod yX4_has, .selects RX4 yX4_has yX4_has, .initialized RX4, .code yX4_has cX4_has 2 (some .boolean), .fieldLink RX4 31 "MarkDesk$Terms" "used" "I"] ++ wsX90 ++ wsX40 ++ (vx_at0 RX9 62 "java/util/NoSuchElementException" ["java/lang/RuntimeException", "java/lang/Exception"]).filter goodWord)
def wsL_work_r1 : List Cond := [Cond.classLink RL 21 "java/util/NoSuchElementException", Cond.classLink RL 27 "java/lang/IndexOutOfBoundsException", Cond.classLink RL 13 "java/lang/IllegalArgumentException", Cond.classLink RL 15 "java/lang/IllegalStateException", Cond.methodLink RL 23 yX9_work, Cond.instanceMethod yX9_work, Cond.selects RX9 yX9_work yX9_work, Cond.initialized RX9, Cond.code yX9_work cX9_work 4 (some .int), Cond.classLink RX9 60 "java/util/NoSuchElementException", Cond.initialized "java/util/NoSuchElementException", Cond.classLink RX9 70 "java/lang/IndexOutOfBoundsException", Cond.initialized "java/lang/IndexOutOfBoundsException", Cond.classLink RX9 43 "java/lang/IllegalArgumentException", Cond.initialized "java/lang/IllegalArgumentException", Cond.classLink RX9 49 "java/lang/IllegalStateException", Cond.initialized "java/lang/IllegalStateException", Cond.fieldLink RX9 10 "MarkDesk" "terms" "LMarkDesk$Terms;", Cond.fieldLink RX9 21 "MarkDesk" "machine" "LMarkDesk$Machine;", Cond.fieldLink RX9 77 "MarkDesk" "stuckTerms" "I", Cond.fieldLink RX9 81 "MarkDesk" "neededMore" "I", Cond.methodLink RX9 67 yX4_hasClosed, Cond.instanceMethod yX4_hasClosed, Cond.selects RX4 yX4_hasClosed yX4_hasClosed]
def wsL_work_r2 : List Cond := [Cond.initialized RX4, Cond.code yX4_hasClosed cX4_hasClosed 2 (some .boolean), Cond.fieldLink RX4 22 "MarkDesk$Terms" "needed" "[I", Cond.methodLink RX4 35 yX4_has, Cond.instanceMethod yX4_has, Cond.selects RX4 yX4_has yX4_has, Cond.code yX4_has cX4_has 2 (some .boolean), Cond.fieldLink RX4 31 "MarkDesk$Terms" "used" "I", Cond.methodLink RX9 73 yX2_workOut, Cond.instanceMethod yX2_workOut, Cond.selects RX2 yX2_workOut yX2_workOut, Cond.initialized RX2, Cond.code yX2_workOut cX2_workOut 4 (some .int), Cond.fieldLink RX2 14 "MarkDesk$Machine" "values" "LMarkDesk$Values;", Cond.fieldLink RX2 21 "MarkDesk$Machine" "scopes" "LMarkDesk$Scopes;", Cond.fieldLink RX2 28 "MarkDesk$Machine" "waitings" "LMarkDesk$Waitings;", Cond.fieldLink RX2 45 "MarkDesk$Machine" "marks" "I", Cond.fieldLink RX2 49 "MarkDesk$Machine" "toDo" "I", Cond.fieldLink RX2 52 "MarkDesk$Machine" "fuelLeft" "I", Cond.fieldLink RX2 55 "MarkDesk$Machine" "stepsDone" "I", Cond.fieldLink RX2 58 "MarkDesk$Machine" "end" "I", Cond.methodLink RX2 40 yX7_clear, Cond.instanceMethod yX7_clear, Cond.selects RX7 yX7_clear yX7_clear]
def wsL_work_r3 : List Cond := [Cond.initialized RX7, Cond.code yX7_clear cX7_clear 1 none, Cond.fieldLink RX7 21 "MarkDesk$Values" "used" "I", Cond.methodLink RX2 43 yX3_clear, Cond.instanceMethod yX3_clear, Cond.selects RX3 yX3_clear yX3_clear, Cond.initialized RX3, Cond.code yX3_clear cX3_clear 1 none, Cond.fieldLink RX3 20 "MarkDesk$Scopes" "used" "I", Cond.methodLink RX2 44 yX8_clear, Cond.instanceMethod yX8_clear, Cond.selects RX8 yX8_clear yX8_clear, Cond.initialized RX8, Cond.code yX8_clear cX8_clear 1 none, Cond.fieldLink RX8 24 "MarkDesk$Waitings" "used" "I", Cond.methodLink RX2 61 yX2_goTo, Cond.instanceMethod yX2_goTo, Cond.selects RX2 yX2_goTo yX2_goTo, Cond.code yX2_goTo cX2_goTo 3 none, Cond.fieldLink RX2 96 "MarkDesk$Machine" "term" "I", Cond.fieldLink RX2 99 "MarkDesk$Machine" "scope" "I", Cond.fieldLink RX2 71 "MarkDesk$Machine" "given" "I", Cond.methodLink RX2 65 yX2_doRound, Cond.instanceMethod yX2_doRound]
def wsL_work_r4 : List Cond := [Cond.selects RX2 yX2_doRound yX2_doRound, Cond.code yX2_doRound cX2_doRound 1 none, Cond.methodLink RX2 87 yX2_leaveMark, Cond.instanceMethod yX2_leaveMark, Cond.selects RX2 yX2_leaveMark yX2_leaveMark, Cond.code yX2_leaveMark cX2_leaveMark 1 none, Cond.fieldLink RX2 32 "MarkDesk$Machine" "behindMarks" "[I", Cond.methodLink RX2 90 yX2_beginTerm, Cond.instanceMethod yX2_beginTerm, Cond.selects RX2 yX2_beginTerm yX2_beginTerm, Cond.code yX2_beginTerm cX2_beginTerm 2 none, Cond.fieldLink RX2 36 "MarkDesk$Machine" "terms" "LMarkDesk$Terms;", Cond.fieldLink RX2 102 "MarkDesk$Terms" "first" "[I", Cond.fieldLink RX2 107 "MarkDesk$Terms" "kind" "[I", Cond.methodLink RX2 110 yX7_add, Cond.instanceMethod yX7_add, Cond.selects RX7 yX7_add yX7_add, Cond.code yX7_add cX7_add 4 (some .int), Cond.fieldLink RX7 9 "MarkDesk$Values" "form" "[I", Cond.fieldLink RX7 15 "MarkDesk$Values" "content" "[I", Cond.fieldLink RX7 18 "MarkDesk$Values" "scope" "[I", Cond.methodLink RX2 114 yX3_look, Cond.instanceMethod yX3_look, Cond.selects RX3 yX3_look yX3_look]
def wsL_work_r5 : List Cond := [Cond.code yX3_look cX3_look 5 (some .int), Cond.fieldLink RX3 17 "MarkDesk$Scopes" "outer" "[I", Cond.fieldLink RX3 11 "MarkDesk$Scopes" "bound" "[I", Cond.methodLink RX2 117 yX2_enterMark, Cond.instanceMethod yX2_enterMark, Cond.selects RX2 yX2_enterMark yX2_enterMark, Cond.code yX2_enterMark cX2_enterMark 2 none, Cond.methodLink RX2 121 yX3_bind, Cond.instanceMethod yX3_bind, Cond.selects RX3 yX3_bind yX3_bind, Cond.code yX3_bind cX3_bind 3 (some .int), Cond.methodLink RX2 124 yX8_add, Cond.instanceMethod yX8_add, Cond.selects RX8 yX8_add yX8_add, Cond.code yX8_add cX8_add 5 (some .int), Cond.fieldLink RX8 9 "MarkDesk$Waitings" "term" "[I", Cond.fieldLink RX8 15 "MarkDesk$Waitings" "scope" "[I", Cond.fieldLink RX8 18 "MarkDesk$Waitings" "held" "[I", Cond.fieldLink RX8 21 "MarkDesk$Waitings" "next" "[I", Cond.methodLink RX2 93 yX2_bringValue, Cond.instanceMethod yX2_bringValue, Cond.selects RX2 yX2_bringValue yX2_bringValue, Cond.code yX2_bringValue cX2_bringValue 4 none, Cond.fieldLink RX2 127 "MarkDesk$Waitings" "term" "[I"]
def wsL_work_r6 : List Cond := [Cond.fieldLink RX2 129 "MarkDesk$Waitings" "next" "[I", Cond.fieldLink RX2 134 "MarkDesk$Waitings" "scope" "[I", Cond.fieldLink RX2 139 "MarkDesk$Terms" "second" "[I", Cond.fieldLink RX2 142 "MarkDesk$Waitings" "held" "[I", Cond.methodLink RX2 136 yX2_choose, Cond.instanceMethod yX2_choose, Cond.selects RX2 yX2_choose yX2_choose, Cond.code yX2_choose cX2_choose 3 none, Cond.fieldLink RX2 68 "MarkDesk$Values" "form" "[I", Cond.fieldLink RX2 84 "MarkDesk$Values" "content" "[I", Cond.fieldLink RX2 152 "MarkDesk$Terms" "third" "[I", Cond.methodLink RX2 145 yX2_callWith, Cond.instanceMethod yX2_callWith, Cond.selects RX2 yX2_callWith yX2_callWith, Cond.code yX2_callWith cX2_callWith 6 none, Cond.fieldLink RX2 155 "MarkDesk$Values" "scope" "[I", Cond.methodLink RX2 148 yX2_joinNumbers, Cond.instanceMethod yX2_joinNumbers, Cond.selects RX2 yX2_joinNumbers yX2_joinNumbers, Cond.code yX2_joinNumbers cX2_joinNumbers 4 none, Cond.methodLink RX9 84 yX9_keepValue, Cond.instanceMethod yX9_keepValue, Cond.selects RX9 yX9_keepValue yX9_keepValue, Cond.code yX9_keepValue cX9_keepValue 1 (some .int)]
def wsL_work_r7 : List Cond := [Cond.fieldLink RX9 88 "MarkDesk" "latestValue" "I", Cond.fieldLink RX9 128 "MarkDesk$Machine" "stepsDone" "I", Cond.fieldLink RX9 91 "MarkDesk" "latestSteps" "I", Cond.fieldLink RX9 121 "MarkDesk" "allSteps" "J", Cond.fieldLink RX9 118 "MarkDesk" "valuesFound" "I", Cond.methodLink RX9 125 yX2_plainResult, Cond.instanceMethod yX2_plainResult, Cond.selects RX2 yX2_plainResult yX2_plainResult, Cond.code yX2_plainResult cX2_plainResult 1 (some .int), Cond.methodLink RX2 80 yX2_resultForm, Cond.instanceMethod yX2_resultForm, Cond.selects RX2 yX2_resultForm yX2_resultForm, Cond.code yX2_resultForm cX2_resultForm 1 (some .int), Cond.methodLink RX2 74 Lib.Math.min.name, Cond.static Lib.Math.min.name, Cond.initialized "java/lang/Math", Cond.code Lib.Math.min.name Lib.Math.min.code 2 (some .int), Cond.methodLink RX9 131 yX2_resultForm]
def wsL_work : List Cond := .codeWith yL_work cL_work 5 (some .int) [(0, 10, 13, 21), (0, 10, 17, 27), (0, 10, 21, 13), (0, 10, 25, 15)] :: ((wsL_work_r1 ++ (wsL_work_r2 ++ (wsL_work_r3 ++ (wsL_work_r4 ++ (wsL_work_r5 ++ (wsL_work_r6 ++ wsL_work_r7)))))) ++ wsX90 ++ wsX40 ++ wsX20 ++ wsX70 ++ wsX30 ++ wsX80 ++ (vx_at0 RX9 62 "java/util/NoSuchElementException" ["java/lang/RuntimeException", "java/lang/Exception"]).filter goodWord ++ (vx_at0 RX9 72 "java/lang/IndexOutOfBoundsException" ["java/lang/RuntimeException", "java/lang/Exception"]).filter goodWord ++ (vx_at0 RX9 45 "java/lang/IllegalArgumentException" ["java/lang/RuntimeException", "java/lang/Exception"]).filter goodWord ++ (vx_at0 RX9 51 "java/lang/IllegalStateException" ["java/lang/RuntimeException", "java/lang/Exception"]).filter goodWord)
def wsL_type_r1 : List Cond := [Cond.classLink RL 21 "java/util/NoSuchElementException", Cond.classLink RL 13 "java/lang/IllegalArgumentException", Cond.methodLink RL 29 yX9_type, Cond.instanceMethod yX9_type, Cond.selects RX9 yX9_type yX9_type, Cond.initialized RX9, Cond.code yX9_type cX9_type 3 (some .int), Cond.classLink RX9 60 "java/util/NoSuchElementException", Cond.initialized "java/util/NoSuchElementException", Cond.classLink RX9 43 "java/lang/IllegalArgumentException", Cond.initialized "java/lang/IllegalArgumentException", Cond.fieldLink RX9 10 "MarkDesk" "terms" "LMarkDesk$Terms;", Cond.fieldLink RX9 28 "MarkDesk" "typing" "LMarkDesk$Typing;", Cond.fieldLink RX9 98 "MarkDesk" "typesMissing" "I", Cond.fieldLink RX9 101 "MarkDesk" "typesFound" "I", Cond.fieldLink RX9 35 "MarkDesk" "latestType" "LMarkDesk$KnownType;", Cond.fieldLink RX9 104 "MarkDesk$Typing" "types" "LMarkDesk$Types;", Cond.methodLink RX9 67 yX4_hasClosed, Cond.instanceMethod yX4_hasClosed, Cond.selects RX4 yX4_hasClosed yX4_hasClosed, Cond.initialized RX4, Cond.code yX4_hasClosed cX4_hasClosed 2 (some .boolean), Cond.fieldLink RX4 22 "MarkDesk$Terms" "needed" "[I", Cond.methodLink RX4 35 yX4_has]
def wsL_type_r2 : List Cond := [Cond.instanceMethod yX4_has, Cond.selects RX4 yX4_has yX4_has, Cond.code yX4_has cX4_has 2 (some .boolean), Cond.fieldLink RX4 31 "MarkDesk$Terms" "used" "I", Cond.methodLink RX9 94 yX6_typeOfWhole, Cond.instanceMethod yX6_typeOfWhole, Cond.selects RX6 yX6_typeOfWhole yX6_typeOfWhole, Cond.initialized RX6, Cond.code yX6_typeOfWhole cX6_typeOfWhole 4 (some .int), Cond.fieldLink RX6 14 "MarkDesk$Typing" "types" "LMarkDesk$Types;", Cond.fieldLink RX6 34 "MarkDesk$Typing" "bound" "I", Cond.methodLink RX6 31 yX5_clear, Cond.instanceMethod yX5_clear, Cond.selects RX5 yX5_clear yX5_clear, Cond.initialized RX5, Cond.code yX5_clear cX5_clear 1 none, Cond.fieldLink RX5 35 "MarkDesk$Types" "used" "I", Cond.methodLink RX5 39 yX5_addNode, Cond.instanceMethod yX5_addNode, Cond.selects RX5 yX5_addNode yX5_addNode, Cond.code yX5_addNode cX5_addNode 2 (some .int), Cond.fieldLink RX5 13 "MarkDesk$Types" "form" "[I", Cond.fieldLink RX5 17 "MarkDesk$Types" "sameAs" "[I", Cond.fieldLink RX5 26 "MarkDesk$Types" "progress" "[I"]
def wsL_type_r3 : List Cond := [Cond.fieldLink RX5 29 "MarkDesk$Types" "partsSeen" "[I", Cond.methodLink RX6 38 yX5_letter, Cond.instanceMethod yX5_letter, Cond.selects RX5 yX5_letter yX5_letter, Cond.code yX5_letter cX5_letter 1 (some .int), Cond.methodLink RX6 42 yX6_holds, Cond.instanceMethod yX6_holds, Cond.selects RX6 yX6_holds yX6_holds, Cond.code yX6_holds cX6_holds 7 (some .boolean), Cond.fieldLink RX6 27 "MarkDesk$Typing" "terms" "LMarkDesk$Terms;", Cond.fieldLink RX6 50 "MarkDesk$Terms" "first" "[I", Cond.fieldLink RX6 53 "MarkDesk$Terms" "kind" "[I", Cond.methodLink RX6 56 yX5_makeSame, Cond.instanceMethod yX5_makeSame, Cond.selects RX5 yX5_makeSame yX5_makeSame, Cond.code yX5_makeSame cX5_makeSame 6 (some .boolean), Cond.fieldLink RX5 46 "MarkDesk$Types" "pending" "I", Cond.fieldLink RX5 23 "MarkDesk$Types" "pairs" "[I", Cond.methodLink RX5 49 yX5_addPair, Cond.instanceMethod yX5_addPair, Cond.selects RX5 yX5_addPair yX5_addPair, Cond.code yX5_addPair cX5_addPair 3 none, Cond.methodLink RX5 43 yX5_chosen, Cond.instanceMethod yX5_chosen]
def wsL_type_r4 : List Cond := [Cond.selects RX5 yX5_chosen yX5_chosen, Cond.code yX5_chosen cX5_chosen 4 (some .int), Cond.methodLink RX5 53 yX5_join, Cond.instanceMethod yX5_join, Cond.selects RX5 yX5_join yX5_join, Cond.code yX5_join cX5_join 4 (some .boolean), Cond.fieldLink RX5 20 "MarkDesk$Types" "parts" "[I", Cond.methodLink RX6 60 yX6_typeOfVariable, Cond.instanceMethod yX6_typeOfVariable, Cond.selects RX6 yX6_typeOfVariable yX6_typeOfVariable, Cond.code yX6_typeOfVariable cX6_typeOfVariable 4 (some .int), Cond.fieldLink RX6 24 "MarkDesk$Typing" "pieceGives" "[I", Cond.fieldLink RX6 20 "MarkDesk$Typing" "boundType" "[I", Cond.methodLink RX6 87 yX5_function, Cond.instanceMethod yX5_function, Cond.selects RX5 yX5_function yX5_function, Cond.code yX5_function cX5_function 6 (some .int), Cond.methodLink RX6 64 yX6_functionHolds, Cond.instanceMethod yX6_functionHolds, Cond.selects RX6 yX6_functionHolds yX6_functionHolds, Cond.methodLink RX6 68 yX6_callHolds, Cond.instanceMethod yX6_callHolds, Cond.selects RX6 yX6_callHolds yX6_callHolds, Cond.methodLink RX6 71 yX6_numbersHold]
def wsL_type_r5 : List Cond := [Cond.instanceMethod yX6_numbersHold, Cond.selects RX6 yX6_numbersHold yX6_numbersHold, Cond.methodLink RX6 75 yX6_ifHolds, Cond.instanceMethod yX6_ifHolds, Cond.selects RX6 yX6_ifHolds yX6_ifHolds, Cond.methodLink RX6 78 yX6_letHolds, Cond.instanceMethod yX6_letHolds, Cond.selects RX6 yX6_letHolds yX6_letHolds, Cond.methodLink RX6 81 yX6_wholeHolds, Cond.instanceMethod yX6_wholeHolds, Cond.selects RX6 yX6_wholeHolds yX6_wholeHolds, Cond.methodLink RX6 84 yX6_takeHolds, Cond.instanceMethod yX6_takeHolds, Cond.selects RX6 yX6_takeHolds yX6_takeHolds, Cond.code yX6_callHolds cX6_callHolds 10 (some .boolean), Cond.fieldLink RX6 97 "MarkDesk$Terms" "second" "[I", Cond.code yX6_functionHolds cX6_functionHolds 11 (some .boolean), Cond.methodLink RX6 93 yX6_bind, Cond.instanceMethod yX6_bind, Cond.selects RX6 yX6_bind yX6_bind, Cond.code yX6_bind cX6_bind 3 none, Cond.code yX6_ifHolds cX6_ifHolds 7 (some .boolean), Cond.fieldLink RX6 100 "MarkDesk$Terms" "third" "[I", Cond.code yX6_letHolds cX6_letHolds 9 (some .boolean)]
def wsL_type_r6 : List Cond := [Cond.code yX6_numbersHold cX6_numbersHold 6 (some .boolean), Cond.code yX6_takeHolds cX6_takeHolds 7 (some .boolean), Cond.code yX6_wholeHolds cX6_wholeHolds 5 (some .boolean), Cond.methodLink RX6 46 yX5_noneContainsItself, Cond.instanceMethod yX5_noneContainsItself, Cond.selects RX5 yX5_noneContainsItself yX5_noneContainsItself, Cond.code yX5_noneContainsItself cX5_noneContainsItself 3 (some .boolean), Cond.methodLink RX5 57 yX5_endsEverywhere, Cond.instanceMethod yX5_endsEverywhere, Cond.selects RX5 yX5_endsEverywhere yX5_endsEverywhere, Cond.code yX5_endsEverywhere cX5_endsEverywhere 6 (some .boolean), Cond.fieldLink RX5 32 "MarkDesk$Types" "path" "[I", Cond.methodLink RX5 61 yX5_chosenPart, Cond.instanceMethod yX5_chosenPart, Cond.selects RX5 yX5_chosenPart yX5_chosenPart, Cond.code yX5_chosenPart cX5_chosenPart 3 (some .int), Cond.methodLink RX9 108 yX1_keep, Cond.instanceMethod yX1_keep, Cond.selects RX1 yX1_keep yX1_keep, Cond.initialized RX1, Cond.code yX1_keep cX1_keep 6 none, Cond.fieldLink RX1 25 "MarkDesk$KnownType" "root" "I", Cond.fieldLink RX1 33 "MarkDesk$KnownType" "letters" "I", Cond.fieldLink RX1 11 "MarkDesk$KnownType" "answer" "[I"]
def wsL_type_r7 : List Cond := [Cond.fieldLink RX1 22 "MarkDesk$KnownType" "waiting" "[I", Cond.methodLink RX1 29 yX5_chosen, Cond.methodLink RX1 36 yJ7_fill_53178, Cond.static yJ7_fill_53178, Cond.initialized RJ7, Cond.code yJ7_fill_53178 cJ7_fill_53178 4 none, Cond.methodLink RX1 42 yX1_keepNode, Cond.instanceMethod yX1_keepNode, Cond.selects RX1 yX1_keepNode yX1_keepNode, Cond.code yX1_keepNode cX1_keepNode 7 (some .int), Cond.fieldLink RX1 46 "MarkDesk$Types" "form" "[I", Cond.fieldLink RX1 17 "MarkDesk$KnownType" "parts" "[I", Cond.methodLink RX1 49 yX5_chosenPart, Cond.methodLink RX9 112 yX1_at, Cond.instanceMethod yX1_at, Cond.selects RX1 yX1_at yX1_at, Cond.code yX1_at cX1_at 5 (some .int)]
def wsL_type : List Cond := .codeWith yL_type cL_type 4 (some .int) [(0, 9, 12, 21), (0, 9, 15, 13)] :: ((wsL_type_r1 ++ (wsL_type_r2 ++ (wsL_type_r3 ++ (wsL_type_r4 ++ (wsL_type_r5 ++ (wsL_type_r6 ++ wsL_type_r7)))))) ++ wsX90 ++ wsX60 ++ wsX40 ++ wsX50 ++ wsX10 ++ (vx_at0 RX9 62 "java/util/NoSuchElementException" ["java/lang/RuntimeException", "java/lang/Exception"]).filter goodWord ++ (vx_at0 RX9 45 "java/lang/IllegalArgumentException" ["java/lang/RuntimeException", "java/lang/Exception"]).filter goodWord)
def wsL_law0_r1 : List Cond := [Cond.classLink RL 8 RX9, Cond.instantiable RX9 12, Cond.initialized RX9, Cond.classLink RL 33 RX10, Cond.instantiable RX10 60, Cond.initialized RX10, Cond.arrayClass .long, Cond.methodLink RL 32 yX9_init, Cond.instanceMethod yX9_init, Cond.code yX9_init cX9_init 2 none, Cond.methodLink RX9 1 objectInit, Cond.instanceMethod objectInit, Cond.code objectInit ⟨#[0xb1]⟩ 1 none, Cond.classLink RX9 7 RX4, Cond.instantiable RX4 8, Cond.initialized RX4, Cond.fieldLink RX9 10 "MarkDesk" "terms" "LMarkDesk$Terms;", Cond.classLink RX9 16 RX2, Cond.instantiable RX2 13, Cond.initialized RX2, Cond.fieldLink RX9 21 "MarkDesk" "machine" "LMarkDesk$Machine;", Cond.classLink RX9 25 RX6, Cond.instantiable RX6 5, Cond.initialized RX6]
def wsL_law0_r2 : List Cond := [Cond.fieldLink RX9 28 "MarkDesk" "typing" "LMarkDesk$Typing;", Cond.classLink RX9 32 RX1, Cond.instantiable RX1 5, Cond.initialized RX1, Cond.fieldLink RX9 35 "MarkDesk" "latestType" "LMarkDesk$KnownType;", Cond.instanceMethod yX4_init, Cond.code yX4_init cX4_init 1 none, Cond.methodLink RX4 1 objectInit, Cond.arrayClass .int, Cond.fieldLink RX4 9 "MarkDesk$Terms" "kind" "[I", Cond.fieldLink RX4 13 "MarkDesk$Terms" "first" "[I", Cond.fieldLink RX4 16 "MarkDesk$Terms" "second" "[I", Cond.fieldLink RX4 19 "MarkDesk$Terms" "third" "[I", Cond.fieldLink RX4 22 "MarkDesk$Terms" "needed" "[I", Cond.fieldLink RX4 25 "MarkDesk$Terms" "height" "[I", Cond.fieldLink RX4 28 "MarkDesk$Terms" "size" "[I", Cond.methodLink RX9 18 yX2_init, Cond.instanceMethod yX2_init, Cond.code yX2_init cX2_init 2 none, Cond.methodLink RX2 5 objectInit, Cond.classLink RX2 11 RX7, Cond.instantiable RX7 4, Cond.initialized RX7, Cond.fieldLink RX2 14 "MarkDesk$Machine" "values" "LMarkDesk$Values;"]
def wsL_law0_r3 : List Cond := [Cond.classLink RX2 18 RX3, Cond.instantiable RX3 3, Cond.initialized RX3, Cond.fieldLink RX2 21 "MarkDesk$Machine" "scopes" "LMarkDesk$Scopes;", Cond.classLink RX2 25 RX8, Cond.instantiable RX8 5, Cond.initialized RX8, Cond.fieldLink RX2 28 "MarkDesk$Machine" "waitings" "LMarkDesk$Waitings;", Cond.fieldLink RX2 32 "MarkDesk$Machine" "behindMarks" "[I", Cond.fieldLink RX2 36 "MarkDesk$Machine" "terms" "LMarkDesk$Terms;", Cond.instanceMethod yX7_init, Cond.code yX7_init cX7_init 1 none, Cond.methodLink RX7 1 objectInit, Cond.fieldLink RX7 9 "MarkDesk$Values" "form" "[I", Cond.fieldLink RX7 15 "MarkDesk$Values" "content" "[I", Cond.fieldLink RX7 18 "MarkDesk$Values" "scope" "[I", Cond.instanceMethod yX3_init, Cond.code yX3_init cX3_init 1 none, Cond.methodLink RX3 3 objectInit, Cond.fieldLink RX3 11 "MarkDesk$Scopes" "bound" "[I", Cond.fieldLink RX3 17 "MarkDesk$Scopes" "outer" "[I", Cond.instanceMethod yX8_init, Cond.code yX8_init cX8_init 1 none, Cond.methodLink RX8 1 objectInit]
def wsL_law0_r4 : List Cond := [Cond.fieldLink RX8 9 "MarkDesk$Waitings" "term" "[I", Cond.fieldLink RX8 15 "MarkDesk$Waitings" "scope" "[I", Cond.fieldLink RX8 18 "MarkDesk$Waitings" "held" "[I", Cond.fieldLink RX8 21 "MarkDesk$Waitings" "next" "[I", Cond.methodLink RX9 27 yX6_init, Cond.instanceMethod yX6_init, Cond.code yX6_init cX6_init 2 none, Cond.methodLink RX6 5 objectInit, Cond.classLink RX6 11 RX5, Cond.instantiable RX5 9, Cond.initialized RX5, Cond.fieldLink RX6 14 "MarkDesk$Typing" "types" "LMarkDesk$Types;", Cond.fieldLink RX6 20 "MarkDesk$Typing" "boundType" "[I", Cond.fieldLink RX6 24 "MarkDesk$Typing" "pieceGives" "[I", Cond.fieldLink RX6 27 "MarkDesk$Typing" "terms" "LMarkDesk$Terms;", Cond.instanceMethod yX5_init, Cond.code yX5_init cX5_init 1 none, Cond.methodLink RX5 7 objectInit, Cond.fieldLink RX5 13 "MarkDesk$Types" "form" "[I", Cond.fieldLink RX5 17 "MarkDesk$Types" "sameAs" "[I", Cond.fieldLink RX5 20 "MarkDesk$Types" "parts" "[I", Cond.fieldLink RX5 23 "MarkDesk$Types" "pairs" "[I", Cond.fieldLink RX5 26 "MarkDesk$Types" "progress" "[I", Cond.fieldLink RX5 29 "MarkDesk$Types" "partsSeen" "[I"]
def wsL_law0_r5 : List Cond := [Cond.fieldLink RX5 32 "MarkDesk$Types" "path" "[I", Cond.instanceMethod yX1_init, Cond.code yX1_init cX1_init 1 none, Cond.methodLink RX1 3 objectInit, Cond.fieldLink RX1 11 "MarkDesk$KnownType" "answer" "[I", Cond.fieldLink RX1 17 "MarkDesk$KnownType" "parts" "[I", Cond.fieldLink RX1 22 "MarkDesk$KnownType" "waiting" "[I", Cond.fieldLink RX1 25 "MarkDesk$KnownType" "root" "I", Cond.methodLink RL 35 yX10_init, Cond.instanceMethod yX10_init, Cond.code yX10_init cX10_init 1 none, Cond.methodLink RX10 1 objectInit, Cond.fieldLink RX10 7 "MarkDeskModel" "kind" "[I", Cond.fieldLink RX10 13 "MarkDeskModel" "wordA" "[I", Cond.fieldLink RX10 16 "MarkDeskModel" "wordB" "[I", Cond.fieldLink RX10 19 "MarkDeskModel" "wordC" "[I", Cond.fieldLink RX10 22 "MarkDeskModel" "height" "[I", Cond.fieldLink RX10 25 "MarkDeskModel" "size" "[I", Cond.fieldLink RX10 28 "MarkDeskModel" "need" "[I", Cond.fieldLink RX10 31 "MarkDeskModel" "boundKind" "[I", Cond.fieldLink RX10 34 "MarkDeskModel" "boundWord" "[I", Cond.fieldLink RX10 37 "MarkDeskModel" "boundNext" "[I", Cond.fieldLink RX10 40 "MarkDeskModel" "functionTerm" "[I", Cond.fieldLink RX10 43 "MarkDeskModel" "functionBound" "[I"]
def wsL_law0_r6 : List Cond := [Cond.fieldLink RX10 46 "MarkDeskModel" "taskKind" "[I", Cond.fieldLink RX10 49 "MarkDeskModel" "taskTerm" "[I", Cond.fieldLink RX10 52 "MarkDeskModel" "taskBound" "[I", Cond.fieldLink RX10 55 "MarkDeskModel" "taskValue" "[I", Cond.fieldLink RX10 58 "MarkDeskModel" "taskWord" "[I", Cond.fieldLink RX10 61 "MarkDeskModel" "taskNext" "[I", Cond.fieldLink RX10 64 "MarkDeskModel" "mark" "[I", Cond.fieldLink RX10 67 "MarkDeskModel" "sort" "[I", Cond.fieldLink RX10 70 "MarkDeskModel" "standsFor" "[I", Cond.fieldLink RX10 73 "MarkDeskModel" "parts" "[I", Cond.fieldLink RX10 76 "MarkDeskModel" "letter" "[I", Cond.fieldLink RX10 79 "MarkDeskModel" "result" "I", Cond.fieldLink RX10 83 "MarkDeskModel" "pile" "[I", Cond.fieldLink RX10 86 "MarkDeskModel" "pairs" "[I", Cond.arrayClass .boolean, Cond.fieldLink RX10 89 "MarkDeskModel" "seen" "[Z", Cond.fieldLink RX10 93 "MarkDeskModel" "goalTerm" "[I", Cond.fieldLink RX10 96 "MarkDeskModel" "goalBound" "[I", Cond.fieldLink RX10 99 "MarkDeskModel" "goalType" "[I", Cond.fieldLink RX10 102 "MarkDeskModel" "goalFrom" "[I", Cond.fieldLink RX10 105 "MarkDeskModel" "goalTo" "[I", Cond.fieldLink RX10 108 "MarkDeskModel" "placeType" "[I", Cond.fieldLink RX10 111 "MarkDeskModel" "placeFrom" "[I", Cond.fieldLink RX10 114 "MarkDeskModel" "placeNext" "[I"]
def wsL_law0_r7 : List Cond := [Cond.methodLink RL 36 yL_make, Cond.static yL_make, Cond.initialized RL, Cond.codeWith yL_make cL_make 7 (some .int) [(0, 14, 17, 13), (0, 14, 21, 15)], Cond.classLink RL 13 "java/lang/IllegalArgumentException", Cond.classLink RL 15 "java/lang/IllegalStateException", Cond.methodLink RL 7 yX9_make, Cond.instanceMethod yX9_make, Cond.selects RX9 yX9_make yX9_make, Cond.code yX9_make cX9_make 5 (some .int), Cond.classLink RX9 43 "java/lang/IllegalArgumentException", Cond.initialized "java/lang/IllegalArgumentException", Cond.classLink RX9 49 "java/lang/IllegalStateException", Cond.initialized "java/lang/IllegalStateException", Cond.methodLink RX9 39 yX4_wordsFit, Cond.instanceMethod yX4_wordsFit, Cond.selects RX4 yX4_wordsFit yX4_wordsFit, Cond.code yX4_wordsFit cX4_wordsFit 6 (some .boolean), Cond.fieldLink RX4 39 "MarkDesk$Kind" "TERM_WORDS" "[I", Cond.methodLink RX4 35 yX4_has, Cond.instanceMethod yX4_has, Cond.selects RX4 yX4_has yX4_has, Cond.code yX4_has cX4_has 2 (some .boolean), Cond.fieldLink RX4 31 "MarkDesk$Terms" "used" "I"]
def wsL_law0_r8 : List Cond := [Cond.methodLink RX9 46 yX4_hasRoomFor, Cond.instanceMethod yX4_hasRoomFor, Cond.selects RX4 yX4_hasRoomFor yX4_hasRoomFor, Cond.code yX4_hasRoomFor cX4_hasRoomFor 6 (some .boolean), Cond.methodLink RX4 44 yX4_heightOver, Cond.instanceMethod yX4_heightOver, Cond.selects RX4 yX4_heightOver yX4_heightOver, Cond.code yX4_heightOver cX4_heightOver 6 (some .int), Cond.methodLink RX4 54 Lib.Math.max.name, Cond.static Lib.Math.max.name, Cond.initialized "java/lang/Math", Cond.code Lib.Math.max.name Lib.Math.max.code 2 (some .int), Cond.methodLink RX4 48 yX4_sizeOver, Cond.instanceMethod yX4_sizeOver, Cond.selects RX4 yX4_sizeOver yX4_sizeOver, Cond.code yX4_sizeOver cX4_sizeOver 6 (some .int), Cond.methodLink RX9 52 yX4_add, Cond.instanceMethod yX4_add, Cond.selects RX4 yX4_add yX4_add, Cond.code yX4_add cX4_add 7 (some .int), Cond.methodLink RX4 51 yX4_neededOver, Cond.instanceMethod yX4_neededOver, Cond.selects RX4 yX4_neededOver yX4_neededOver, Cond.code yX4_neededOver cX4_neededOver 6 (some .int)]
def wsL_law0_r9 : List Cond := [Cond.fieldLink RX4 60 "MarkDesk$Kind" "BINDS" "[I", Cond.methodLink RL 41 yX10_make, Cond.instanceMethod yX10_make, Cond.selects RX10 yX10_make yX10_make, Cond.code yX10_make cX10_make 7 (some .int), Cond.fieldLink RX10 117 "MarkDeskModel" "thrown" "I", Cond.fieldLink RX10 120 "MarkDeskModel" "terms" "I", Cond.methodLink RX10 123 yX10_in, Cond.static yX10_in, Cond.code yX10_in cX10_in 3 (some .boolean), Cond.methodLink RX10 134 yX10_fits, Cond.instanceMethod yX10_fits, Cond.selects RX10 yX10_fits yX10_fits, Cond.code yX10_fits cX10_fits 5 (some .boolean), Cond.methodLink RX10 127 yX10_isTerm, Cond.instanceMethod yX10_isTerm, Cond.selects RX10 yX10_isTerm yX10_isTerm, Cond.code yX10_isTerm cX10_isTerm 2 (some .boolean), Cond.methodLink RX10 131 yX10_hasB, Cond.static yX10_hasB, Cond.code yX10_hasB cX10_hasB 1 (some .boolean), Cond.methodLink RX10 138 yX10_fail, Cond.instanceMethod yX10_fail, Cond.selects RX10 yX10_fail yX10_fail]
def wsL_law0_r10 : List Cond := [Cond.code yX10_fail cX10_fail 2 (some .int), Cond.methodLink RX10 142 yX10_hasA, Cond.static yX10_hasA, Cond.code yX10_hasA cX10_hasA 1 (some .boolean), Cond.methodLink RX10 145 yX10_greater, Cond.static yX10_greater, Cond.code yX10_greater cX10_greater 2 (some .int), Cond.methodLink RX10 149 yX10_needs, Cond.instanceMethod yX10_needs, Cond.selects RX10 yX10_needs yX10_needs, Cond.code yX10_needs cX10_needs 5 (some .int), Cond.methodLink RL 42 yX10_thrown, Cond.instanceMethod yX10_thrown, Cond.selects RX10 yX10_thrown yX10_thrown, Cond.code yX10_thrown cX10_thrown 1 (some .int), Cond.methodLink RL 46 yL_open, Cond.static yL_open, Cond.codeWith yL_open cL_open 4 (some .int) [(0, 9, 12, 21)], Cond.classLink RL 21 "java/util/NoSuchElementException", Cond.methodLink RL 17 yX9_open, Cond.instanceMethod yX9_open, Cond.selects RX9 yX9_open yX9_open, Cond.code yX9_open cX9_open 2 (some .int), Cond.classLink RX9 60 "java/util/NoSuchElementException"]
def wsL_law0_r11 : List Cond := [Cond.initialized "java/util/NoSuchElementException", Cond.fieldLink RX9 63 "MarkDesk$Terms" "needed" "[I", Cond.methodLink RX9 56 yX4_has, Cond.methodLink RL 49 yX10_open, Cond.instanceMethod yX10_open, Cond.selects RX10 yX10_open yX10_open, Cond.code yX10_open cX10_open 2 (some .int), Cond.methodLink RL 50 yL_work, Cond.static yL_work, Cond.codeWith yL_work cL_work 5 (some .int) [(0, 10, 13, 21), (0, 10, 17, 27), (0, 10, 21, 13), (0, 10, 25, 15)], Cond.classLink RL 27 "java/lang/IndexOutOfBoundsException", Cond.methodLink RL 23 yX9_work, Cond.instanceMethod yX9_work, Cond.selects RX9 yX9_work yX9_work, Cond.code yX9_work cX9_work 4 (some .int), Cond.classLink RX9 70 "java/lang/IndexOutOfBoundsException", Cond.initialized "java/lang/IndexOutOfBoundsException", Cond.fieldLink RX9 77 "MarkDesk" "stuckTerms" "I", Cond.fieldLink RX9 81 "MarkDesk" "neededMore" "I", Cond.methodLink RX9 67 yX4_hasClosed, Cond.instanceMethod yX4_hasClosed, Cond.selects RX4 yX4_hasClosed yX4_hasClosed, Cond.code yX4_hasClosed cX4_hasClosed 2 (some .boolean), Cond.methodLink RX9 73 yX2_workOut]
def wsL_law0_r12 : List Cond := [Cond.instanceMethod yX2_workOut, Cond.selects RX2 yX2_workOut yX2_workOut, Cond.code yX2_workOut cX2_workOut 4 (some .int), Cond.fieldLink RX2 45 "MarkDesk$Machine" "marks" "I", Cond.fieldLink RX2 49 "MarkDesk$Machine" "toDo" "I", Cond.fieldLink RX2 52 "MarkDesk$Machine" "fuelLeft" "I", Cond.fieldLink RX2 55 "MarkDesk$Machine" "stepsDone" "I", Cond.fieldLink RX2 58 "MarkDesk$Machine" "end" "I", Cond.methodLink RX2 40 yX7_clear, Cond.instanceMethod yX7_clear, Cond.selects RX7 yX7_clear yX7_clear, Cond.code yX7_clear cX7_clear 1 none, Cond.fieldLink RX7 21 "MarkDesk$Values" "used" "I", Cond.methodLink RX2 43 yX3_clear, Cond.instanceMethod yX3_clear, Cond.selects RX3 yX3_clear yX3_clear, Cond.code yX3_clear cX3_clear 1 none, Cond.fieldLink RX3 20 "MarkDesk$Scopes" "used" "I", Cond.methodLink RX2 44 yX8_clear, Cond.instanceMethod yX8_clear, Cond.selects RX8 yX8_clear yX8_clear, Cond.code yX8_clear cX8_clear 1 none, Cond.fieldLink RX8 24 "MarkDesk$Waitings" "used" "I", Cond.methodLink RX2 61 yX2_goTo]
def wsL_law0_r13 : List Cond := [Cond.instanceMethod yX2_goTo, Cond.selects RX2 yX2_goTo yX2_goTo, Cond.code yX2_goTo cX2_goTo 3 none, Cond.fieldLink RX2 96 "MarkDesk$Machine" "term" "I", Cond.fieldLink RX2 99 "MarkDesk$Machine" "scope" "I", Cond.fieldLink RX2 71 "MarkDesk$Machine" "given" "I", Cond.methodLink RX2 65 yX2_doRound, Cond.instanceMethod yX2_doRound, Cond.selects RX2 yX2_doRound yX2_doRound, Cond.code yX2_doRound cX2_doRound 1 none, Cond.methodLink RX2 87 yX2_leaveMark, Cond.instanceMethod yX2_leaveMark, Cond.selects RX2 yX2_leaveMark yX2_leaveMark, Cond.code yX2_leaveMark cX2_leaveMark 1 none, Cond.methodLink RX2 90 yX2_beginTerm, Cond.instanceMethod yX2_beginTerm, Cond.selects RX2 yX2_beginTerm yX2_beginTerm, Cond.code yX2_beginTerm cX2_beginTerm 2 none, Cond.fieldLink RX2 102 "MarkDesk$Terms" "first" "[I", Cond.fieldLink RX2 107 "MarkDesk$Terms" "kind" "[I", Cond.methodLink RX2 110 yX7_add, Cond.instanceMethod yX7_add, Cond.selects RX7 yX7_add yX7_add, Cond.code yX7_add cX7_add 4 (some .int)]
def wsL_law0_r14 : List Cond := [Cond.methodLink RX2 114 yX3_look, Cond.instanceMethod yX3_look, Cond.selects RX3 yX3_look yX3_look, Cond.code yX3_look cX3_look 5 (some .int), Cond.methodLink RX2 117 yX2_enterMark, Cond.instanceMethod yX2_enterMark, Cond.selects RX2 yX2_enterMark yX2_enterMark, Cond.code yX2_enterMark cX2_enterMark 2 none, Cond.methodLink RX2 121 yX3_bind, Cond.instanceMethod yX3_bind, Cond.selects RX3 yX3_bind yX3_bind, Cond.code yX3_bind cX3_bind 3 (some .int), Cond.methodLink RX2 124 yX8_add, Cond.instanceMethod yX8_add, Cond.selects RX8 yX8_add yX8_add, Cond.code yX8_add cX8_add 5 (some .int), Cond.methodLink RX2 93 yX2_bringValue, Cond.instanceMethod yX2_bringValue, Cond.selects RX2 yX2_bringValue yX2_bringValue, Cond.code yX2_bringValue cX2_bringValue 4 none, Cond.fieldLink RX2 127 "MarkDesk$Waitings" "term" "[I", Cond.fieldLink RX2 129 "MarkDesk$Waitings" "next" "[I", Cond.fieldLink RX2 134 "MarkDesk$Waitings" "scope" "[I", Cond.fieldLink RX2 139 "MarkDesk$Terms" "second" "[I"]
def wsL_law0_r15 : List Cond := [Cond.fieldLink RX2 142 "MarkDesk$Waitings" "held" "[I", Cond.methodLink RX2 136 yX2_choose, Cond.instanceMethod yX2_choose, Cond.selects RX2 yX2_choose yX2_choose, Cond.code yX2_choose cX2_choose 3 none, Cond.fieldLink RX2 68 "MarkDesk$Values" "form" "[I", Cond.fieldLink RX2 84 "MarkDesk$Values" "content" "[I", Cond.fieldLink RX2 152 "MarkDesk$Terms" "third" "[I", Cond.methodLink RX2 145 yX2_callWith, Cond.instanceMethod yX2_callWith, Cond.selects RX2 yX2_callWith yX2_callWith, Cond.code yX2_callWith cX2_callWith 6 none, Cond.fieldLink RX2 155 "MarkDesk$Values" "scope" "[I", Cond.methodLink RX2 148 yX2_joinNumbers, Cond.instanceMethod yX2_joinNumbers, Cond.selects RX2 yX2_joinNumbers yX2_joinNumbers, Cond.code yX2_joinNumbers cX2_joinNumbers 4 none, Cond.methodLink RX9 84 yX9_keepValue, Cond.instanceMethod yX9_keepValue, Cond.selects RX9 yX9_keepValue yX9_keepValue, Cond.code yX9_keepValue cX9_keepValue 1 (some .int), Cond.fieldLink RX9 88 "MarkDesk" "latestValue" "I", Cond.fieldLink RX9 128 "MarkDesk$Machine" "stepsDone" "I", Cond.fieldLink RX9 91 "MarkDesk" "latestSteps" "I"]
def wsL_law0_r16 : List Cond := [Cond.fieldLink RX9 121 "MarkDesk" "allSteps" "J", Cond.fieldLink RX9 118 "MarkDesk" "valuesFound" "I", Cond.methodLink RX9 125 yX2_plainResult, Cond.instanceMethod yX2_plainResult, Cond.selects RX2 yX2_plainResult yX2_plainResult, Cond.code yX2_plainResult cX2_plainResult 1 (some .int), Cond.methodLink RX2 80 yX2_resultForm, Cond.instanceMethod yX2_resultForm, Cond.selects RX2 yX2_resultForm yX2_resultForm, Cond.code yX2_resultForm cX2_resultForm 1 (some .int), Cond.methodLink RX2 74 Lib.Math.min.name, Cond.static Lib.Math.min.name, Cond.code Lib.Math.min.name Lib.Math.min.code 2 (some .int), Cond.methodLink RX9 131 yX2_resultForm, Cond.methodLink RL 53 yX10_work, Cond.instanceMethod yX10_work, Cond.selects RX10 yX10_work yX10_work, Cond.code yX10_work cX10_work 4 (some .int), Cond.fieldLink RX10 209 "MarkDeskModel" "stucks" "I", Cond.fieldLink RX10 212 "MarkDeskModel" "mores" "I", Cond.fieldLink RX10 162 "MarkDeskModel" "given" "I", Cond.fieldLink RX10 215 "MarkDeskModel" "latestKind" "I", Cond.fieldLink RX10 165 "MarkDeskModel" "word" "I", Cond.fieldLink RX10 218 "MarkDeskModel" "latestWord" "I"]
def wsL_law0_r17 : List Cond := [Cond.fieldLink RX10 221 "MarkDeskModel" "latestSteps" "I", Cond.fieldLink RX10 224 "MarkDeskModel" "found" "I", Cond.fieldLink RX10 227 "MarkDeskModel" "allSteps" "I", Cond.methodLink RX10 206 yX10_run, Cond.instanceMethod yX10_run, Cond.selects RX10 yX10_run yX10_run, Cond.code yX10_run cX10_run 6 (some .int), Cond.fieldLink RX10 153 "MarkDeskModel" "bounds" "I", Cond.fieldLink RX10 168 "MarkDeskModel" "functions" "I", Cond.fieldLink RX10 156 "MarkDeskModel" "tasks" "I", Cond.fieldLink RX10 181 "MarkDeskModel" "marks" "I", Cond.fieldLink RX10 159 "MarkDeskModel" "now" "I", Cond.fieldLink RX10 192 "MarkDeskModel" "stuck" "Z", Cond.fieldLink RX10 171 "MarkDeskModel" "taken" "I", Cond.methodLink RX10 199 yX10_begin, Cond.instanceMethod yX10_begin, Cond.selects RX10 yX10_begin yX10_begin, Cond.code yX10_begin cX10_begin 6 (some .int), Cond.methodLink RX10 174 yX10_give, Cond.instanceMethod yX10_give, Cond.selects RX10 yX10_give yX10_give, Cond.code yX10_give cX10_give 3 none, Cond.methodLink RX10 178 yX10_closure, Cond.instanceMethod yX10_closure]
def wsL_law0_r18 : List Cond := [Cond.selects RX10 yX10_closure yX10_closure, Cond.code yX10_closure cX10_closure 3 (some .int), Cond.methodLink RX10 184 yX10_bind, Cond.instanceMethod yX10_bind, Cond.selects RX10 yX10_bind yX10_bind, Cond.code yX10_bind cX10_bind 4 (some .int), Cond.methodLink RX10 188 yX10_then, Cond.instanceMethod yX10_then, Cond.selects RX10 yX10_then yX10_then, Cond.code yX10_then cX10_then 6 none, Cond.methodLink RX10 202 yX10_goOn, Cond.instanceMethod yX10_goOn, Cond.selects RX10 yX10_goOn yX10_goOn, Cond.code yX10_goOn cX10_goOn 5 (some .int), Cond.methodLink RX10 196 yX10_call, Cond.instanceMethod yX10_call, Cond.selects RX10 yX10_call yX10_call, Cond.code yX10_call cX10_call 5 (some .int), Cond.methodLink RL 54 yX9_value, Cond.instanceMethod yX9_value, Cond.selects RX9 yX9_value yX9_value, Cond.code yX9_value cX9_value 1 (some .int), Cond.methodLink RL 57 yX10_value, Cond.instanceMethod yX10_value]
def wsL_law0_r19 : List Cond := [Cond.selects RX10 yX10_value yX10_value, Cond.code yX10_value cX10_value 1 (some .int), Cond.methodLink RL 58 yX9_steps, Cond.instanceMethod yX9_steps, Cond.selects RX9 yX9_steps yX9_steps, Cond.code yX9_steps cX9_steps 1 (some .int), Cond.methodLink RL 61 yX10_steps, Cond.instanceMethod yX10_steps, Cond.selects RX10 yX10_steps yX10_steps, Cond.code yX10_steps cX10_steps 1 (some .int), Cond.methodLink RL 62 yL_type, Cond.static yL_type, Cond.codeWith yL_type cL_type 4 (some .int) [(0, 9, 12, 21), (0, 9, 15, 13)], Cond.methodLink RL 29 yX9_type, Cond.instanceMethod yX9_type, Cond.selects RX9 yX9_type yX9_type, Cond.code yX9_type cX9_type 3 (some .int), Cond.fieldLink RX9 98 "MarkDesk" "typesMissing" "I", Cond.fieldLink RX9 101 "MarkDesk" "typesFound" "I", Cond.fieldLink RX9 104 "MarkDesk$Typing" "types" "LMarkDesk$Types;", Cond.methodLink RX9 94 yX6_typeOfWhole, Cond.instanceMethod yX6_typeOfWhole, Cond.selects RX6 yX6_typeOfWhole yX6_typeOfWhole, Cond.code yX6_typeOfWhole cX6_typeOfWhole 4 (some .int)]
def wsL_law0_r20 : List Cond := [Cond.fieldLink RX6 34 "MarkDesk$Typing" "bound" "I", Cond.methodLink RX6 31 yX5_clear, Cond.instanceMethod yX5_clear, Cond.selects RX5 yX5_clear yX5_clear, Cond.code yX5_clear cX5_clear 1 none, Cond.fieldLink RX5 35 "MarkDesk$Types" "used" "I", Cond.methodLink RX5 39 yX5_addNode, Cond.instanceMethod yX5_addNode, Cond.selects RX5 yX5_addNode yX5_addNode, Cond.code yX5_addNode cX5_addNode 2 (some .int), Cond.methodLink RX6 38 yX5_letter, Cond.instanceMethod yX5_letter, Cond.selects RX5 yX5_letter yX5_letter, Cond.code yX5_letter cX5_letter 1 (some .int), Cond.methodLink RX6 42 yX6_holds, Cond.instanceMethod yX6_holds, Cond.selects RX6 yX6_holds yX6_holds, Cond.code yX6_holds cX6_holds 7 (some .boolean), Cond.fieldLink RX6 50 "MarkDesk$Terms" "first" "[I", Cond.fieldLink RX6 53 "MarkDesk$Terms" "kind" "[I", Cond.methodLink RX6 56 yX5_makeSame, Cond.instanceMethod yX5_makeSame, Cond.selects RX5 yX5_makeSame yX5_makeSame, Cond.code yX5_makeSame cX5_makeSame 6 (some .boolean)]
def wsL_law0_r21 : List Cond := [Cond.fieldLink RX5 46 "MarkDesk$Types" "pending" "I", Cond.methodLink RX5 49 yX5_addPair, Cond.instanceMethod yX5_addPair, Cond.selects RX5 yX5_addPair yX5_addPair, Cond.code yX5_addPair cX5_addPair 3 none, Cond.methodLink RX5 43 yX5_chosen, Cond.instanceMethod yX5_chosen, Cond.selects RX5 yX5_chosen yX5_chosen, Cond.code yX5_chosen cX5_chosen 4 (some .int), Cond.methodLink RX5 53 yX5_join, Cond.instanceMethod yX5_join, Cond.selects RX5 yX5_join yX5_join, Cond.code yX5_join cX5_join 4 (some .boolean), Cond.methodLink RX6 60 yX6_typeOfVariable, Cond.instanceMethod yX6_typeOfVariable, Cond.selects RX6 yX6_typeOfVariable yX6_typeOfVariable, Cond.code yX6_typeOfVariable cX6_typeOfVariable 4 (some .int), Cond.methodLink RX6 87 yX5_function, Cond.instanceMethod yX5_function, Cond.selects RX5 yX5_function yX5_function, Cond.code yX5_function cX5_function 6 (some .int), Cond.methodLink RX6 64 yX6_functionHolds, Cond.instanceMethod yX6_functionHolds, Cond.selects RX6 yX6_functionHolds yX6_functionHolds]
def wsL_law0_r22 : List Cond := [Cond.methodLink RX6 68 yX6_callHolds, Cond.instanceMethod yX6_callHolds, Cond.selects RX6 yX6_callHolds yX6_callHolds, Cond.methodLink RX6 71 yX6_numbersHold, Cond.instanceMethod yX6_numbersHold, Cond.selects RX6 yX6_numbersHold yX6_numbersHold, Cond.methodLink RX6 75 yX6_ifHolds, Cond.instanceMethod yX6_ifHolds, Cond.selects RX6 yX6_ifHolds yX6_ifHolds, Cond.methodLink RX6 78 yX6_letHolds, Cond.instanceMethod yX6_letHolds, Cond.selects RX6 yX6_letHolds yX6_letHolds, Cond.methodLink RX6 81 yX6_wholeHolds, Cond.instanceMethod yX6_wholeHolds, Cond.selects RX6 yX6_wholeHolds yX6_wholeHolds, Cond.methodLink RX6 84 yX6_takeHolds, Cond.instanceMethod yX6_takeHolds, Cond.selects RX6 yX6_takeHolds yX6_takeHolds, Cond.code yX6_callHolds cX6_callHolds 10 (some .boolean), Cond.fieldLink RX6 97 "MarkDesk$Terms" "second" "[I", Cond.code yX6_functionHolds cX6_functionHolds 11 (some .boolean), Cond.methodLink RX6 93 yX6_bind, Cond.instanceMethod yX6_bind, Cond.selects RX6 yX6_bind yX6_bind]
def wsL_law0_r23 : List Cond := [Cond.code yX6_bind cX6_bind 3 none, Cond.code yX6_ifHolds cX6_ifHolds 7 (some .boolean), Cond.fieldLink RX6 100 "MarkDesk$Terms" "third" "[I", Cond.code yX6_letHolds cX6_letHolds 9 (some .boolean), Cond.code yX6_numbersHold cX6_numbersHold 6 (some .boolean), Cond.code yX6_takeHolds cX6_takeHolds 7 (some .boolean), Cond.code yX6_wholeHolds cX6_wholeHolds 5 (some .boolean), Cond.methodLink RX6 46 yX5_noneContainsItself, Cond.instanceMethod yX5_noneContainsItself, Cond.selects RX5 yX5_noneContainsItself yX5_noneContainsItself, Cond.code yX5_noneContainsItself cX5_noneContainsItself 3 (some .boolean), Cond.methodLink RX5 57 yX5_endsEverywhere, Cond.instanceMethod yX5_endsEverywhere, Cond.selects RX5 yX5_endsEverywhere yX5_endsEverywhere, Cond.code yX5_endsEverywhere cX5_endsEverywhere 6 (some .boolean), Cond.methodLink RX5 61 yX5_chosenPart, Cond.instanceMethod yX5_chosenPart, Cond.selects RX5 yX5_chosenPart yX5_chosenPart, Cond.code yX5_chosenPart cX5_chosenPart 3 (some .int), Cond.methodLink RX9 108 yX1_keep, Cond.instanceMethod yX1_keep, Cond.selects RX1 yX1_keep yX1_keep, Cond.code yX1_keep cX1_keep 6 none, Cond.fieldLink RX1 33 "MarkDesk$KnownType" "letters" "I"]
def wsL_law0_r24 : List Cond := [Cond.methodLink RX1 29 yX5_chosen, Cond.methodLink RX1 36 yJ7_fill_53178, Cond.static yJ7_fill_53178, Cond.initialized RJ7, Cond.code yJ7_fill_53178 cJ7_fill_53178 4 none, Cond.methodLink RX1 42 yX1_keepNode, Cond.instanceMethod yX1_keepNode, Cond.selects RX1 yX1_keepNode yX1_keepNode, Cond.code yX1_keepNode cX1_keepNode 7 (some .int), Cond.fieldLink RX1 46 "MarkDesk$Types" "form" "[I", Cond.methodLink RX1 49 yX5_chosenPart, Cond.methodLink RX9 112 yX1_at, Cond.instanceMethod yX1_at, Cond.selects RX1 yX1_at yX1_at, Cond.code yX1_at cX1_at 5 (some .int), Cond.methodLink RL 64 yX10_type, Cond.instanceMethod yX10_type, Cond.selects RX10 yX10_type yX10_type, Cond.code yX10_type cX10_type 4 (some .int), Cond.fieldLink RX10 233 "MarkDeskModel" "cells" "I", Cond.fieldLink RX10 249 "MarkDeskModel" "goals" "I", Cond.fieldLink RX10 252 "MarkDeskModel" "places" "I", Cond.fieldLink RX10 242 "MarkDeskModel" "bad" "Z", Cond.fieldLink RX10 288 "MarkDeskModel" "untyped" "I"]
def wsL_law0_r25 : List Cond := [Cond.fieldLink RX10 230 "MarkDeskModel" "bank" "I", Cond.fieldLink RX10 295 "MarkDeskModel" "typed" "I", Cond.methodLink RX10 258 yX10_letterCell, Cond.instanceMethod yX10_letterCell, Cond.selects RX10 yX10_letterCell yX10_letterCell, Cond.code yX10_letterCell cX10_letterCell 1 (some .int), Cond.methodLink RX10 236 yX10_cell, Cond.instanceMethod yX10_cell, Cond.selects RX10 yX10_cell yX10_cell, Cond.code yX10_cell cX10_cell 3 (some .int), Cond.methodLink RX10 267 yX10_goal, Cond.instanceMethod yX10_goal, Cond.selects RX10 yX10_goal yX10_goal, Cond.code yX10_goal cX10_goal 6 none, Cond.methodLink RX10 281 yX10_solve, Cond.instanceMethod yX10_solve, Cond.selects RX10 yX10_solve yX10_solve, Cond.code yX10_solve cX10_solve 9 none, Cond.methodLink RX10 255 yX10_equal, Cond.instanceMethod yX10_equal, Cond.selects RX10 yX10_equal yX10_equal, Cond.code yX10_equal cX10_equal 8 none, Cond.methodLink RX10 239 yX10_end, Cond.instanceMethod yX10_end]
def wsL_law0_r26 : List Cond := [Cond.selects RX10 yX10_end yX10_end, Cond.code yX10_end cX10_end 3 (some .int), Cond.methodLink RX10 245 yX10_contains, Cond.instanceMethod yX10_contains, Cond.selects RX10 yX10_contains yX10_contains, Cond.code yX10_contains cX10_contains 7 (some .boolean), Cond.methodLink RX10 270 yX10_variable, Cond.instanceMethod yX10_variable, Cond.selects RX10 yX10_variable yX10_variable, Cond.code yX10_variable cX10_variable 6 none, Cond.methodLink RX10 261 yX10_functionCell, Cond.instanceMethod yX10_functionCell, Cond.selects RX10 yX10_functionCell yX10_functionCell, Cond.code yX10_functionCell cX10_functionCell 6 (some .int), Cond.methodLink RX10 274 yX10_function, Cond.instanceMethod yX10_function, Cond.selects RX10 yX10_function yX10_function, Cond.code yX10_function cX10_function 11 none, Cond.methodLink RX10 264 yX10_place, Cond.instanceMethod yX10_place, Cond.selects RX10 yX10_place yX10_place, Cond.code yX10_place cX10_place 4 (some .int), Cond.methodLink RX10 278 yX10_solveTwo, Cond.instanceMethod yX10_solveTwo]
def wsL_law0_r27 : List Cond := [Cond.selects RX10 yX10_solveTwo yX10_solveTwo, Cond.code yX10_solveTwo cX10_solveTwo 10 none, Cond.methodLink RX10 284 yX10_endless, Cond.instanceMethod yX10_endless, Cond.selects RX10 yX10_endless yX10_endless, Cond.code yX10_endless cX10_endless 6 (some .boolean), Cond.methodLink RX10 291 yX10_numberLetters, Cond.instanceMethod yX10_numberLetters, Cond.selects RX10 yX10_numberLetters yX10_numberLetters, Cond.code yX10_numberLetters cX10_numberLetters 7 none, Cond.methodLink RL 65 yX9_part, Cond.instanceMethod yX9_part, Cond.selects RX9 yX9_part yX9_part, Cond.code yX9_part cX9_part 2 (some .int), Cond.methodLink RL 68 yX10_part, Cond.instanceMethod yX10_part, Cond.selects RX10 yX10_part yX10_part, Cond.code yX10_part cX10_part 5 (some .int), Cond.methodLink RX10 298 yX10_told, Cond.static yX10_told, Cond.code yX10_told cX10_told 2 (some .int), Cond.methodLink RL 69 yX9_count, Cond.instanceMethod yX9_count, Cond.selects RX9 yX9_count yX9_count]
def wsL_law0_r28 : List Cond := [Cond.code yX9_count cX9_count 2 (some .int), Cond.fieldLink RX9 115 "MarkDesk$Terms" "used" "I", Cond.methodLink RL 72 yX10_count, Cond.instanceMethod yX10_count, Cond.selects RX10 yX10_count yX10_count, Cond.code yX10_count cX10_count 2 (some .int), Cond.methodLink RL 73 yX9_mean, Cond.instanceMethod yX9_mean, Cond.selects RX9 yX9_mean yX9_mean, Cond.code yX9_mean cX9_mean 1 (some .float), Cond.methodLink RL 77 yX10_mean, Cond.instanceMethod yX10_mean, Cond.selects RX10 yX10_mean yX10_mean, Cond.code yX10_mean cX10_mean 3 (some .float)]
def wsL_law0 : List Cond := (wsL_law0_r1 ++ (wsL_law0_r2 ++ (wsL_law0_r3 ++ (wsL_law0_r4 ++ (wsL_law0_r5 ++ (wsL_law0_r6 ++ (wsL_law0_r7 ++ (wsL_law0_r8 ++ (wsL_law0_r9 ++ (wsL_law0_r10 ++ (wsL_law0_r11 ++ (wsL_law0_r12 ++ (wsL_law0_r13 ++ (wsL_law0_r14 ++ (wsL_law0_r15 ++ (wsL_law0_r16 ++ (wsL_law0_r17 ++ (wsL_law0_r18 ++ (wsL_law0_r19 ++ (wsL_law0_r20 ++ (wsL_law0_r21 ++ (wsL_law0_r22 ++ (wsL_law0_r23 ++ (wsL_law0_r24 ++ (wsL_law0_r25 ++ (wsL_law0_r26 ++ (wsL_law0_r27 ++ wsL_law0_r28))))))))))))))))))))))))))) ++ wsX90 ++ wsX100 ++ wsX40 ++ wsX20 ++ wsX60 ++ wsX10 ++ wsX70 ++ wsX30 ++ wsX80 ++ wsX50 ++ ([] : List Cond)
def wsL_law : List Cond := wsL_law0 ++ (vx_at0 RX9 45 "java/lang/IllegalArgumentException" ["java/lang/RuntimeException", "java/lang/Exception"]).filter goodWord ++ (vx_at0 RX9 51 "java/lang/IllegalStateException" ["java/lang/RuntimeException", "java/lang/Exception"]).filter goodWord ++ (vx_at0 RX9 62 "java/util/NoSuchElementException" ["java/lang/RuntimeException", "java/lang/Exception"]).filter goodWord ++ (vx_at0 RX9 72 "java/lang/IndexOutOfBoundsException" ["java/lang/RuntimeException", "java/lang/Exception"]).filter goodWord
theorem inlX1 : ∀ w ∈ wsX10, w ∈ wsL_law := fun _ h => List.mem_append_left _ (List.mem_append_left _ (List.mem_append_left _ (List.mem_append_left _ (List.mem_append_left _ (List.mem_append_left _ (List.mem_append_left _ (List.mem_append_left _ (List.mem_append_left _ (List.mem_append_right _ h)))))))))
theorem inlX2 : ∀ w ∈ wsX20, w ∈ wsL_law := fun _ h => List.mem_append_left _ (List.mem_append_left _ (List.mem_append_left _ (List.mem_append_left _ (List.mem_append_left _ (List.mem_append_left _ (List.mem_append_left _ (List.mem_append_left _ (List.mem_append_left _ (List.mem_append_left _ (List.mem_append_left _ (List.mem_append_right _ h)))))))))))
theorem inlX3 : ∀ w ∈ wsX30, w ∈ wsL_law := fun _ h => List.mem_append_left _ (List.mem_append_left _ (List.mem_append_left _ (List.mem_append_left _ (List.mem_append_left _ (List.mem_append_left _ (List.mem_append_left _ (List.mem_append_right _ h)))))))
theorem inlX4 : ∀ w ∈ wsX40, w ∈ wsL_law := fun _ h => List.mem_append_left _ (List.mem_append_left _ (List.mem_append_left _ (List.mem_append_left _ (List.mem_append_left _ (List.mem_append_left _ (List.mem_append_left _ (List.mem_append_left _ (List.mem_append_left _ (List.mem_append_left _ (List.mem_append_left _ (List.mem_append_left _ (List.mem_append_right _ h))))))))))))
theorem inlX5 : ∀ w ∈ wsX50, w ∈ wsL_law := fun _ h => List.mem_append_left _ (List.mem_append_left _ (List.mem_append_left _ (List.mem_append_left _ (List.mem_append_left _ (List.mem_append_right _ h)))))
theorem inlX6 : ∀ w ∈ wsX60, w ∈ wsL_law := fun _ h => List.mem_append_left _ (List.mem_append_left _ (List.mem_append_left _ (List.mem_append_left _ (List.mem_append_left _ (List.mem_append_left _ (List.mem_append_left _ (List.mem_append_left _ (List.mem_append_left _ (List.mem_append_left _ (List.mem_append_right _ h))))))))))
theorem inlX7 : ∀ w ∈ wsX70, w ∈ wsL_law := fun _ h => List.mem_append_left _ (List.mem_append_left _ (List.mem_append_left _ (List.mem_append_left _ (List.mem_append_left _ (List.mem_append_left _ (List.mem_append_left _ (List.mem_append_left _ (List.mem_append_right _ h))))))))
theorem inlX8 : ∀ w ∈ wsX80, w ∈ wsL_law := fun _ h => List.mem_append_left _ (List.mem_append_left _ (List.mem_append_left _ (List.mem_append_left _ (List.mem_append_left _ (List.mem_append_left _ (List.mem_append_right _ h))))))
theorem inlX9 : ∀ w ∈ wsX90, w ∈ wsL_law := fun _ h => List.mem_append_left _ (List.mem_append_left _ (List.mem_append_left _ (List.mem_append_left _ (List.mem_append_left _ (List.mem_append_left _ (List.mem_append_left _ (List.mem_append_left _ (List.mem_append_left _ (List.mem_append_left _ (List.mem_append_left _ (List.mem_append_left _ (List.mem_append_left _ (List.mem_append_left _ (List.mem_append_right _ h))))))))))))))
theorem inlX10 : ∀ w ∈ wsX100, w ∈ wsL_law := fun _ h => List.mem_append_left _ (List.mem_append_left _ (List.mem_append_left _ (List.mem_append_left _ (List.mem_append_left _ (List.mem_append_left _ (List.mem_append_left _ (List.mem_append_left _ (List.mem_append_left _ (List.mem_append_left _ (List.mem_append_left _ (List.mem_append_left _ (List.mem_append_left _ (List.mem_append_right _ h)))))))))))))
abbrev vwCl : List vw_C := [(RX1, TX1, 5), (RX2, TX2, 13), (RX3, TX3, 3), (RX4, TX4, 8), (RX5, TX5, 9), (RX6, TX6, 5), (RX7, TX7, 4), (RX8, TX8, 5), (RX9, TX9, 12), (RX10, TX10, 60)]
end
section
theorem dX10_init_0 : decode cX10_init 0 = .ok (.aload_n 0, 1) := by decide +kernel
theorem dX10_init_1 : decode cX10_init 1 = .ok (.invokespecial 1, 3) := by decide +kernel
theorem dX10_init_4 : decode cX10_init 4 = .ok (.aload_n 0, 1) := by decide +kernel
theorem dX10_init_5 : decode cX10_init 5 = .ok (.bipush 60, 2) := by decide +kernel
theorem dX10_init_7 : decode cX10_init 7 = .ok (.newarray .int, 2) := by decide +kernel
theorem dX10_init_9 : decode cX10_init 9 = .ok (.putfield 7, 3) := by decide +kernel
theorem dX10_init_12 : decode cX10_init 12 = .ok (.aload_n 0, 1) := by decide +kernel
theorem dX10_init_13 : decode cX10_init 13 = .ok (.bipush 60, 2) := by decide +kernel
theorem dX10_init_15 : decode cX10_init 15 = .ok (.newarray .int, 2) := by decide +kernel
theorem dX10_init_17 : decode cX10_init 17 = .ok (.putfield 13, 3) := by decide +kernel
theorem dX10_init_20 : decode cX10_init 20 = .ok (.aload_n 0, 1) := by decide +kernel
theorem dX10_init_21 : decode cX10_init 21 = .ok (.bipush 60, 2) := by decide +kernel
theorem dX10_init_23 : decode cX10_init 23 = .ok (.newarray .int, 2) := by decide +kernel
theorem dX10_init_25 : decode cX10_init 25 = .ok (.putfield 16, 3) := by decide +kernel
theorem dX10_init_28 : decode cX10_init 28 = .ok (.aload_n 0, 1) := by decide +kernel
theorem dX10_init_29 : decode cX10_init 29 = .ok (.bipush 60, 2) := by decide +kernel
theorem dX10_init_31 : decode cX10_init 31 = .ok (.newarray .int, 2) := by decide +kernel
theorem dX10_init_33 : decode cX10_init 33 = .ok (.putfield 19, 3) := by decide +kernel
theorem dX10_init_36 : decode cX10_init 36 = .ok (.aload_n 0, 1) := by decide +kernel
theorem dX10_init_37 : decode cX10_init 37 = .ok (.bipush 60, 2) := by decide +kernel
theorem dX10_init_39 : decode cX10_init 39 = .ok (.newarray .int, 2) := by decide +kernel
theorem dX10_init_41 : decode cX10_init 41 = .ok (.putfield 22, 3) := by decide +kernel
theorem dX10_init_44 : decode cX10_init 44 = .ok (.aload_n 0, 1) := by decide +kernel
theorem dX10_init_45 : decode cX10_init 45 = .ok (.bipush 60, 2) := by decide +kernel
theorem dX10_init_47 : decode cX10_init 47 = .ok (.newarray .int, 2) := by decide +kernel
theorem dX10_init_49 : decode cX10_init 49 = .ok (.putfield 25, 3) := by decide +kernel
theorem dX10_init_52 : decode cX10_init 52 = .ok (.aload_n 0, 1) := by decide +kernel
theorem dX10_init_53 : decode cX10_init 53 = .ok (.bipush 60, 2) := by decide +kernel
theorem dX10_init_55 : decode cX10_init 55 = .ok (.newarray .int, 2) := by decide +kernel
theorem dX10_init_57 : decode cX10_init 57 = .ok (.putfield 28, 3) := by decide +kernel
theorem dX10_init_60 : decode cX10_init 60 = .ok (.aload_n 0, 1) := by decide +kernel
theorem dX10_init_61 : decode cX10_init 61 = .ok (.sipush 320, 3) := by decide +kernel
theorem dX10_init_64 : decode cX10_init 64 = .ok (.newarray .int, 2) := by decide +kernel
theorem dX10_init_66 : decode cX10_init 66 = .ok (.putfield 31, 3) := by decide +kernel
theorem dX10_init_69 : decode cX10_init 69 = .ok (.aload_n 0, 1) := by decide +kernel
theorem dX10_init_70 : decode cX10_init 70 = .ok (.sipush 320, 3) := by decide +kernel
theorem dX10_init_73 : decode cX10_init 73 = .ok (.newarray .int, 2) := by decide +kernel
theorem dX10_init_75 : decode cX10_init 75 = .ok (.putfield 34, 3) := by decide +kernel
theorem dX10_init_78 : decode cX10_init 78 = .ok (.aload_n 0, 1) := by decide +kernel
theorem dX10_init_79 : decode cX10_init 79 = .ok (.sipush 320, 3) := by decide +kernel
theorem dX10_init_82 : decode cX10_init 82 = .ok (.newarray .int, 2) := by decide +kernel
theorem dX10_init_84 : decode cX10_init 84 = .ok (.putfield 37, 3) := by decide +kernel
theorem dX10_init_87 : decode cX10_init 87 = .ok (.aload_n 0, 1) := by decide +kernel
theorem dX10_init_88 : decode cX10_init 88 = .ok (.sipush 210, 3) := by decide +kernel
theorem dX10_init_91 : decode cX10_init 91 = .ok (.newarray .int, 2) := by decide +kernel
theorem dX10_init_93 : decode cX10_init 93 = .ok (.putfield 40, 3) := by decide +kernel
theorem dX10_init_96 : decode cX10_init 96 = .ok (.aload_n 0, 1) := by decide +kernel
theorem dX10_init_97 : decode cX10_init 97 = .ok (.sipush 210, 3) := by decide +kernel
theorem dX10_init_100 : decode cX10_init 100 = .ok (.newarray .int, 2) := by decide +kernel
theorem dX10_init_102 : decode cX10_init 102 = .ok (.putfield 43, 3) := by decide +kernel
theorem dX10_init_105 : decode cX10_init 105 = .ok (.aload_n 0, 1) := by decide +kernel
theorem dX10_init_106 : decode cX10_init 106 = .ok (.sipush 320, 3) := by decide +kernel
theorem dX10_init_109 : decode cX10_init 109 = .ok (.newarray .int, 2) := by decide +kernel
theorem dX10_init_111 : decode cX10_init 111 = .ok (.putfield 46, 3) := by decide +kernel
theorem dX10_init_114 : decode cX10_init 114 = .ok (.aload_n 0, 1) := by decide +kernel
theorem dX10_init_115 : decode cX10_init 115 = .ok (.sipush 320, 3) := by decide +kernel
theorem dX10_init_118 : decode cX10_init 118 = .ok (.newarray .int, 2) := by decide +kernel
theorem dX10_init_120 : decode cX10_init 120 = .ok (.putfield 49, 3) := by decide +kernel
theorem dX10_init_123 : decode cX10_init 123 = .ok (.aload_n 0, 1) := by decide +kernel
theorem dX10_init_124 : decode cX10_init 124 = .ok (.sipush 320, 3) := by decide +kernel
theorem dX10_init_127 : decode cX10_init 127 = .ok (.newarray .int, 2) := by decide +kernel
theorem dX10_init_129 : decode cX10_init 129 = .ok (.putfield 52, 3) := by decide +kernel
theorem dX10_init_132 : decode cX10_init 132 = .ok (.aload_n 0, 1) := by decide +kernel
theorem dX10_init_133 : decode cX10_init 133 = .ok (.sipush 320, 3) := by decide +kernel
theorem dX10_init_136 : decode cX10_init 136 = .ok (.newarray .int, 2) := by decide +kernel
theorem dX10_init_138 : decode cX10_init 138 = .ok (.putfield 55, 3) := by decide +kernel
theorem dX10_init_141 : decode cX10_init 141 = .ok (.aload_n 0, 1) := by decide +kernel
theorem dX10_init_142 : decode cX10_init 142 = .ok (.sipush 320, 3) := by decide +kernel
theorem dX10_init_145 : decode cX10_init 145 = .ok (.newarray .int, 2) := by decide +kernel
theorem dX10_init_147 : decode cX10_init 147 = .ok (.putfield 58, 3) := by decide +kernel
theorem dX10_init_150 : decode cX10_init 150 = .ok (.aload_n 0, 1) := by decide +kernel
theorem dX10_init_151 : decode cX10_init 151 = .ok (.sipush 320, 3) := by decide +kernel
theorem dX10_init_154 : decode cX10_init 154 = .ok (.newarray .int, 2) := by decide +kernel
theorem dX10_init_156 : decode cX10_init 156 = .ok (.putfield 61, 3) := by decide +kernel
theorem dX10_init_159 : decode cX10_init 159 = .ok (.aload_n 0, 1) := by decide +kernel
theorem dX10_init_160 : decode cX10_init 160 = .ok (.sipush 320, 3) := by decide +kernel
theorem dX10_init_163 : decode cX10_init 163 = .ok (.newarray .int, 2) := by decide +kernel
theorem dX10_init_165 : decode cX10_init 165 = .ok (.putfield 64, 3) := by decide +kernel
theorem dX10_init_168 : decode cX10_init 168 = .ok (.aload_n 0, 1) := by decide +kernel
theorem dX10_init_169 : decode cX10_init 169 = .ok (.sipush 1280, 3) := by decide +kernel
theorem dX10_init_172 : decode cX10_init 172 = .ok (.newarray .int, 2) := by decide +kernel
theorem dX10_init_174 : decode cX10_init 174 = .ok (.putfield 67, 3) := by decide +kernel
theorem dX10_init_177 : decode cX10_init 177 = .ok (.aload_n 0, 1) := by decide +kernel
theorem dX10_init_178 : decode cX10_init 178 = .ok (.sipush 1280, 3) := by decide +kernel
theorem dX10_init_181 : decode cX10_init 181 = .ok (.newarray .int, 2) := by decide +kernel
theorem dX10_init_183 : decode cX10_init 183 = .ok (.putfield 70, 3) := by decide +kernel
theorem dX10_init_186 : decode cX10_init 186 = .ok (.aload_n 0, 1) := by decide +kernel
theorem dX10_init_187 : decode cX10_init 187 = .ok (.sipush 5120, 3) := by decide +kernel
theorem dX10_init_190 : decode cX10_init 190 = .ok (.newarray .int, 2) := by decide +kernel
theorem dX10_init_192 : decode cX10_init 192 = .ok (.putfield 73, 3) := by decide +kernel
theorem dX10_init_195 : decode cX10_init 195 = .ok (.aload_n 0, 1) := by decide +kernel
theorem dX10_init_196 : decode cX10_init 196 = .ok (.sipush 1280, 3) := by decide +kernel
theorem dX10_init_199 : decode cX10_init 199 = .ok (.newarray .int, 2) := by decide +kernel
theorem dX10_init_201 : decode cX10_init 201 = .ok (.putfield 76, 3) := by decide +kernel
theorem dX10_init_204 : decode cX10_init 204 = .ok (.aload_n 0, 1) := by decide +kernel
theorem dX10_init_205 : decode cX10_init 205 = .ok (.iconst (-1), 1) := by decide +kernel
theorem dX10_init_206 : decode cX10_init 206 = .ok (.putfield 79, 3) := by decide +kernel
theorem dX10_init_209 : decode cX10_init 209 = .ok (.aload_n 0, 1) := by decide +kernel
theorem dX10_init_210 : decode cX10_init 210 = .ok (.sipush 1400, 3) := by decide +kernel
theorem dX10_init_213 : decode cX10_init 213 = .ok (.newarray .int, 2) := by decide +kernel
theorem dX10_init_215 : decode cX10_init 215 = .ok (.putfield 83, 3) := by decide +kernel
theorem dX10_init_218 : decode cX10_init 218 = .ok (.aload_n 0, 1) := by decide +kernel
theorem dX10_init_219 : decode cX10_init 219 = .ok (.sipush 2400, 3) := by decide +kernel
theorem dX10_init_222 : decode cX10_init 222 = .ok (.newarray .int, 2) := by decide +kernel
theorem dX10_init_224 : decode cX10_init 224 = .ok (.putfield 86, 3) := by decide +kernel
theorem dX10_init_227 : decode cX10_init 227 = .ok (.aload_n 0, 1) := by decide +kernel
theorem dX10_init_228 : decode cX10_init 228 = .ok (.sipush 1280, 3) := by decide +kernel
theorem dX10_init_231 : decode cX10_init 231 = .ok (.newarray .boolean, 2) := by decide +kernel
theorem dX10_init_233 : decode cX10_init 233 = .ok (.putfield 89, 3) := by decide +kernel
theorem dX10_init_236 : decode cX10_init 236 = .ok (.aload_n 0, 1) := by decide +kernel
theorem dX10_init_237 : decode cX10_init 237 = .ok (.sipush 130, 3) := by decide +kernel
theorem dX10_init_240 : decode cX10_init 240 = .ok (.newarray .int, 2) := by decide +kernel
theorem dX10_init_242 : decode cX10_init 242 = .ok (.putfield 93, 3) := by decide +kernel
theorem dX10_init_245 : decode cX10_init 245 = .ok (.aload_n 0, 1) := by decide +kernel
theorem dX10_init_246 : decode cX10_init 246 = .ok (.sipush 130, 3) := by decide +kernel
theorem dX10_init_249 : decode cX10_init 249 = .ok (.newarray .int, 2) := by decide +kernel
theorem dX10_init_251 : decode cX10_init 251 = .ok (.putfield 96, 3) := by decide +kernel
theorem dX10_init_254 : decode cX10_init 254 = .ok (.aload_n 0, 1) := by decide +kernel
theorem dX10_init_255 : decode cX10_init 255 = .ok (.sipush 130, 3) := by decide +kernel
theorem dX10_init_258 : decode cX10_init 258 = .ok (.newarray .int, 2) := by decide +kernel
theorem dX10_init_260 : decode cX10_init 260 = .ok (.putfield 99, 3) := by decide +kernel
theorem dX10_init_263 : decode cX10_init 263 = .ok (.aload_n 0, 1) := by decide +kernel
theorem dX10_init_264 : decode cX10_init 264 = .ok (.sipush 130, 3) := by decide +kernel
theorem dX10_init_267 : decode cX10_init 267 = .ok (.newarray .int, 2) := by decide +kernel
theorem dX10_init_269 : decode cX10_init 269 = .ok (.putfield 102, 3) := by decide +kernel
theorem dX10_init_272 : decode cX10_init 272 = .ok (.aload_n 0, 1) := by decide +kernel
theorem dX10_init_273 : decode cX10_init 273 = .ok (.sipush 130, 3) := by decide +kernel
theorem dX10_init_276 : decode cX10_init 276 = .ok (.newarray .int, 2) := by decide +kernel
theorem dX10_init_278 : decode cX10_init 278 = .ok (.putfield 105, 3) := by decide +kernel
theorem dX10_init_281 : decode cX10_init 281 = .ok (.aload_n 0, 1) := by decide +kernel
theorem dX10_init_282 : decode cX10_init 282 = .ok (.sipush 250, 3) := by decide +kernel
theorem dX10_init_285 : decode cX10_init 285 = .ok (.newarray .int, 2) := by decide +kernel
theorem dX10_init_287 : decode cX10_init 287 = .ok (.putfield 108, 3) := by decide +kernel
theorem dX10_init_290 : decode cX10_init 290 = .ok (.aload_n 0, 1) := by decide +kernel
theorem dX10_init_291 : decode cX10_init 291 = .ok (.sipush 250, 3) := by decide +kernel
theorem dX10_init_294 : decode cX10_init 294 = .ok (.newarray .int, 2) := by decide +kernel
theorem dX10_init_296 : decode cX10_init 296 = .ok (.putfield 111, 3) := by decide +kernel
theorem dX10_init_299 : decode cX10_init 299 = .ok (.aload_n 0, 1) := by decide +kernel
theorem dX10_init_300 : decode cX10_init 300 = .ok (.sipush 250, 3) := by decide +kernel
theorem dX10_init_303 : decode cX10_init 303 = .ok (.newarray .int, 2) := by decide +kernel
theorem dX10_init_305 : decode cX10_init 305 = .ok (.putfield 114, 3) := by decide +kernel
theorem dX10_init_308 : decode cX10_init 308 = .ok (.return_, 1) := by decide +kernel
theorem dX10_thrown_0 : decode cX10_thrown 0 = .ok (.aload_n 0, 1) := by decide +kernel
theorem dX10_thrown_1 : decode cX10_thrown 1 = .ok (.getfield 117, 3) := by decide +kernel
theorem dX10_thrown_4 : decode cX10_thrown 4 = .ok (.ireturn, 1) := by decide +kernel
theorem dX10_fail_0 : decode cX10_fail 0 = .ok (.aload_n 0, 1) := by decide +kernel
theorem dX10_fail_1 : decode cX10_fail 1 = .ok (.iload_n 1, 1) := by decide +kernel
theorem dX10_fail_2 : decode cX10_fail 2 = .ok (.putfield 117, 3) := by decide +kernel
theorem dX10_fail_5 : decode cX10_fail 5 = .ok (.iconst 0, 1) := by decide +kernel
theorem dX10_fail_6 : decode cX10_fail 6 = .ok (.ireturn, 1) := by decide +kernel
theorem dX10_in_0 : decode cX10_in 0 = .ok (.iload_n 0, 1) := by decide +kernel
theorem dX10_in_1 : decode cX10_in 1 = .ok (.iload_n 1, 1) := by decide +kernel
theorem dX10_in_2 : decode cX10_in 2 = .ok (.if_icmp .lt 12, 3) := by decide +kernel
theorem dX10_in_5 : decode cX10_in 5 = .ok (.iload_n 0, 1) := by decide +kernel
theorem dX10_in_6 : decode cX10_in 6 = .ok (.iload_n 2, 1) := by decide +kernel
theorem dX10_in_7 : decode cX10_in 7 = .ok (.if_icmp .gt 7, 3) := by decide +kernel
theorem dX10_in_10 : decode cX10_in 10 = .ok (.iconst 1, 1) := by decide +kernel
theorem dX10_in_11 : decode cX10_in 11 = .ok (.goto 4, 3) := by decide +kernel
theorem dX10_in_14 : decode cX10_in 14 = .ok (.iconst 0, 1) := by decide +kernel
theorem dX10_in_15 : decode cX10_in 15 = .ok (.ireturn, 1) := by decide +kernel
theorem dX10_greater_0 : decode cX10_greater 0 = .ok (.iload_n 0, 1) := by decide +kernel
theorem dX10_greater_1 : decode cX10_greater 1 = .ok (.iload_n 1, 1) := by decide +kernel
theorem dX10_greater_2 : decode cX10_greater 2 = .ok (.if_icmp .le 7, 3) := by decide +kernel
theorem dX10_greater_5 : decode cX10_greater 5 = .ok (.iload_n 0, 1) := by decide +kernel
theorem dX10_greater_6 : decode cX10_greater 6 = .ok (.goto 4, 3) := by decide +kernel
theorem dX10_greater_9 : decode cX10_greater 9 = .ok (.iload_n 1, 1) := by decide +kernel
theorem dX10_greater_10 : decode cX10_greater 10 = .ok (.ireturn, 1) := by decide +kernel
theorem dX10_isTerm_0 : decode cX10_isTerm 0 = .ok (.iload_n 1, 1) := by decide +kernel
theorem dX10_isTerm_1 : decode cX10_isTerm 1 = .ok (.iconst 0, 1) := by decide +kernel
theorem dX10_isTerm_2 : decode cX10_isTerm 2 = .ok (.aload_n 0, 1) := by decide +kernel
theorem dX10_isTerm_3 : decode cX10_isTerm 3 = .ok (.getfield 120, 3) := by decide +kernel
theorem dX10_isTerm_6 : decode cX10_isTerm 6 = .ok (.iconst 1, 1) := by decide +kernel
theorem dX10_isTerm_7 : decode cX10_isTerm 7 = .ok (.isub, 1) := by decide +kernel
theorem dX10_isTerm_8 : decode cX10_isTerm 8 = .ok (.invokestatic 123, 3) := by decide +kernel
theorem dX10_isTerm_11 : decode cX10_isTerm 11 = .ok (.ireturn, 1) := by decide +kernel
theorem dX10_hasB_0 : decode cX10_hasB 0 = .ok (.iload_n 0, 1) := by decide +kernel
theorem dX10_hasB_1 : decode cX10_hasB 1 = .ok (.iconst 4, 1) := by decide +kernel
theorem dX10_hasB_2 : decode cX10_hasB 2 = .ok (.bipush 8, 2) := by decide +kernel
theorem dX10_hasB_4 : decode cX10_hasB 4 = .ok (.invokestatic 123, 3) := by decide +kernel
theorem dX10_hasB_7 : decode cX10_hasB 7 = .ok (.ireturn, 1) := by decide +kernel
theorem dX10_hasA_0 : decode cX10_hasA 0 = .ok (.iload_n 0, 1) := by decide +kernel
theorem dX10_hasA_1 : decode cX10_hasA 1 = .ok (.iconst 3, 1) := by decide +kernel
theorem dX10_hasA_2 : decode cX10_hasA 2 = .ok (.bipush 11, 2) := by decide +kernel
theorem dX10_hasA_4 : decode cX10_hasA 4 = .ok (.invokestatic 123, 3) := by decide +kernel
theorem dX10_hasA_7 : decode cX10_hasA 7 = .ok (.ireturn, 1) := by decide +kernel
theorem dX10_fits_0 : decode cX10_fits 0 = .ok (.iload_n 1, 1) := by decide +kernel
theorem dX10_fits_1 : decode cX10_fits 1 = .ok (.tableswitch 52 0 2 #[27, 38, 45], 27) := by decide +kernel
theorem dX10_fits_28 : decode cX10_fits 28 = .ok (.iload_n 2, 1) := by decide +kernel
theorem dX10_fits_29 : decode cX10_fits 29 = .ok (.sipush (-1000), 3) := by decide +kernel
theorem dX10_fits_32 : decode cX10_fits 32 = .ok (.sipush 1000, 3) := by decide +kernel
theorem dX10_fits_35 : decode cX10_fits 35 = .ok (.invokestatic 123, 3) := by decide +kernel
theorem dX10_fits_38 : decode cX10_fits 38 = .ok (.ireturn, 1) := by decide +kernel
theorem dX10_fits_39 : decode cX10_fits 39 = .ok (.iload_n 2, 1) := by decide +kernel
theorem dX10_fits_40 : decode cX10_fits 40 = .ok (.iconst 0, 1) := by decide +kernel
theorem dX10_fits_41 : decode cX10_fits 41 = .ok (.iconst 1, 1) := by decide +kernel
theorem dX10_fits_42 : decode cX10_fits 42 = .ok (.invokestatic 123, 3) := by decide +kernel
theorem dX10_fits_45 : decode cX10_fits 45 = .ok (.ireturn, 1) := by decide +kernel
theorem dX10_fits_46 : decode cX10_fits 46 = .ok (.iload_n 2, 1) := by decide +kernel
theorem dX10_fits_47 : decode cX10_fits 47 = .ok (.iconst 0, 1) := by decide +kernel
theorem dX10_fits_48 : decode cX10_fits 48 = .ok (.iconst 5, 1) := by decide +kernel
theorem dX10_fits_49 : decode cX10_fits 49 = .ok (.invokestatic 123, 3) := by decide +kernel
theorem dX10_fits_52 : decode cX10_fits 52 = .ok (.ireturn, 1) := by decide +kernel
theorem dX10_fits_53 : decode cX10_fits 53 = .ok (.aload_n 0, 1) := by decide +kernel
theorem dX10_fits_54 : decode cX10_fits 54 = .ok (.iload_n 2, 1) := by decide +kernel
theorem dX10_fits_55 : decode cX10_fits 55 = .ok (.invokevirtual 127, 3) := by decide +kernel
theorem dX10_fits_58 : decode cX10_fits 58 = .ok (.ifCond .eq 37, 3) := by decide +kernel
theorem dX10_fits_61 : decode cX10_fits 61 = .ok (.iload_n 1, 1) := by decide +kernel
theorem dX10_fits_62 : decode cX10_fits 62 = .ok (.invokestatic 131, 3) := by decide +kernel
theorem dX10_fits_65 : decode cX10_fits 65 = .ok (.ifCond .eq 11, 3) := by decide +kernel
theorem dX10_fits_68 : decode cX10_fits 68 = .ok (.aload_n 0, 1) := by decide +kernel
theorem dX10_fits_69 : decode cX10_fits 69 = .ok (.iload_n 3, 1) := by decide +kernel
theorem dX10_fits_70 : decode cX10_fits 70 = .ok (.invokevirtual 127, 3) := by decide +kernel
theorem dX10_fits_73 : decode cX10_fits 73 = .ok (.ifCond .eq 22, 3) := by decide +kernel
theorem dX10_fits_76 : decode cX10_fits 76 = .ok (.iload_n 1, 1) := by decide +kernel
theorem dX10_fits_77 : decode cX10_fits 77 = .ok (.bipush 7, 2) := by decide +kernel
theorem dX10_fits_79 : decode cX10_fits 79 = .ok (.if_icmp .ne 12, 3) := by decide +kernel
theorem dX10_fits_82 : decode cX10_fits 82 = .ok (.aload_n 0, 1) := by decide +kernel
theorem dX10_fits_83 : decode cX10_fits 83 = .ok (.iload 4, 2) := by decide +kernel
theorem dX10_fits_85 : decode cX10_fits 85 = .ok (.invokevirtual 127, 3) := by decide +kernel
theorem dX10_fits_88 : decode cX10_fits 88 = .ok (.ifCond .eq 7, 3) := by decide +kernel
theorem dX10_fits_91 : decode cX10_fits 91 = .ok (.iconst 1, 1) := by decide +kernel
theorem dX10_fits_92 : decode cX10_fits 92 = .ok (.goto 4, 3) := by decide +kernel
theorem dX10_fits_95 : decode cX10_fits 95 = .ok (.iconst 0, 1) := by decide +kernel
theorem dX10_fits_96 : decode cX10_fits 96 = .ok (.ireturn, 1) := by decide +kernel
theorem dX10_make_0 : decode cX10_make 0 = .ok (.aload_n 0, 1) := by decide +kernel
theorem dX10_make_1 : decode cX10_make 1 = .ok (.iconst 0, 1) := by decide +kernel
theorem dX10_make_2 : decode cX10_make 2 = .ok (.putfield 117, 3) := by decide +kernel
theorem dX10_make_5 : decode cX10_make 5 = .ok (.iload_n 1, 1) := by decide +kernel
theorem dX10_make_6 : decode cX10_make 6 = .ok (.iconst 0, 1) := by decide +kernel
theorem dX10_make_7 : decode cX10_make 7 = .ok (.bipush 11, 2) := by decide +kernel
theorem dX10_make_9 : decode cX10_make 9 = .ok (.invokestatic 123, 3) := by decide +kernel
theorem dX10_make_12 : decode cX10_make 12 = .ok (.ifCond .eq 15, 3) := by decide +kernel
theorem dX10_make_15 : decode cX10_make 15 = .ok (.aload_n 0, 1) := by decide +kernel
theorem dX10_make_16 : decode cX10_make 16 = .ok (.iload_n 1, 1) := by decide +kernel
theorem dX10_make_17 : decode cX10_make 17 = .ok (.iload_n 2, 1) := by decide +kernel
theorem dX10_make_18 : decode cX10_make 18 = .ok (.iload_n 3, 1) := by decide +kernel
theorem dX10_make_19 : decode cX10_make 19 = .ok (.iload 4, 2) := by decide +kernel
theorem dX10_make_21 : decode cX10_make 21 = .ok (.invokevirtual 134, 3) := by decide +kernel
theorem dX10_make_24 : decode cX10_make 24 = .ok (.ifCond .ne 9, 3) := by decide +kernel
theorem dX10_make_27 : decode cX10_make 27 = .ok (.aload_n 0, 1) := by decide +kernel
theorem dX10_make_28 : decode cX10_make 28 = .ok (.iconst 1, 1) := by decide +kernel
theorem dX10_make_29 : decode cX10_make 29 = .ok (.invokevirtual 138, 3) := by decide +kernel
theorem dX10_make_32 : decode cX10_make 32 = .ok (.ireturn, 1) := by decide +kernel
theorem dX10_make_33 : decode cX10_make 33 = .ok (.iconst 1, 1) := by decide +kernel
theorem dX10_make_34 : decode cX10_make 34 = .ok (.istore 5, 2) := by decide +kernel
theorem dX10_make_36 : decode cX10_make 36 = .ok (.iconst 1, 1) := by decide +kernel
theorem dX10_make_37 : decode cX10_make 37 = .ok (.istore 6, 2) := by decide +kernel
theorem dX10_make_39 : decode cX10_make 39 = .ok (.iload_n 1, 1) := by decide +kernel
theorem dX10_make_40 : decode cX10_make 40 = .ok (.invokestatic 142, 3) := by decide +kernel
theorem dX10_make_43 : decode cX10_make 43 = .ok (.ifCond .eq 24, 3) := by decide +kernel
theorem dX10_make_46 : decode cX10_make 46 = .ok (.aload_n 0, 1) := by decide +kernel
theorem dX10_make_47 : decode cX10_make 47 = .ok (.getfield 22, 3) := by decide +kernel
theorem dX10_make_50 : decode cX10_make 50 = .ok (.iload_n 2, 1) := by decide +kernel
theorem dX10_make_51 : decode cX10_make 51 = .ok (.iaload, 1) := by decide +kernel
theorem dX10_make_52 : decode cX10_make 52 = .ok (.iconst 1, 1) := by decide +kernel
theorem dX10_make_53 : decode cX10_make 53 = .ok (.iadd, 1) := by decide +kernel
theorem dX10_make_54 : decode cX10_make 54 = .ok (.istore 5, 2) := by decide +kernel
theorem dX10_make_56 : decode cX10_make 56 = .ok (.iload 6, 2) := by decide +kernel
theorem dX10_make_58 : decode cX10_make 58 = .ok (.aload_n 0, 1) := by decide +kernel
theorem dX10_make_59 : decode cX10_make 59 = .ok (.getfield 25, 3) := by decide +kernel
theorem dX10_make_62 : decode cX10_make 62 = .ok (.iload_n 2, 1) := by decide +kernel
theorem dX10_make_63 : decode cX10_make 63 = .ok (.iaload, 1) := by decide +kernel
theorem dX10_make_64 : decode cX10_make 64 = .ok (.iadd, 1) := by decide +kernel
theorem dX10_make_65 : decode cX10_make 65 = .ok (.istore 6, 2) := by decide +kernel
theorem dX10_make_67 : decode cX10_make 67 = .ok (.iload_n 1, 1) := by decide +kernel
theorem dX10_make_68 : decode cX10_make 68 = .ok (.invokestatic 131, 3) := by decide +kernel
theorem dX10_make_71 : decode cX10_make 71 = .ok (.ifCond .eq 29, 3) := by decide +kernel
theorem dX10_make_74 : decode cX10_make 74 = .ok (.iload 5, 2) := by decide +kernel
theorem dX10_make_76 : decode cX10_make 76 = .ok (.aload_n 0, 1) := by decide +kernel
theorem dX10_make_77 : decode cX10_make 77 = .ok (.getfield 22, 3) := by decide +kernel
theorem dX10_make_80 : decode cX10_make 80 = .ok (.iload_n 3, 1) := by decide +kernel
theorem dX10_make_81 : decode cX10_make 81 = .ok (.iaload, 1) := by decide +kernel
theorem dX10_make_82 : decode cX10_make 82 = .ok (.iconst 1, 1) := by decide +kernel
theorem dX10_make_83 : decode cX10_make 83 = .ok (.iadd, 1) := by decide +kernel
theorem dX10_make_84 : decode cX10_make 84 = .ok (.invokestatic 145, 3) := by decide +kernel
theorem dX10_make_87 : decode cX10_make 87 = .ok (.istore 5, 2) := by decide +kernel
theorem dX10_make_89 : decode cX10_make 89 = .ok (.iload 6, 2) := by decide +kernel
theorem dX10_make_91 : decode cX10_make 91 = .ok (.aload_n 0, 1) := by decide +kernel
theorem dX10_make_92 : decode cX10_make 92 = .ok (.getfield 25, 3) := by decide +kernel
theorem dX10_make_95 : decode cX10_make 95 = .ok (.iload_n 3, 1) := by decide +kernel
theorem dX10_make_96 : decode cX10_make 96 = .ok (.iaload, 1) := by decide +kernel
theorem dX10_make_97 : decode cX10_make 97 = .ok (.iadd, 1) := by decide +kernel
theorem dX10_make_98 : decode cX10_make 98 = .ok (.istore 6, 2) := by decide +kernel
theorem dX10_make_100 : decode cX10_make 100 = .ok (.iload_n 1, 1) := by decide +kernel
theorem dX10_make_101 : decode cX10_make 101 = .ok (.bipush 7, 2) := by decide +kernel
theorem dX10_make_103 : decode cX10_make 103 = .ok (.if_icmp .ne 31, 3) := by decide +kernel
theorem dX10_make_106 : decode cX10_make 106 = .ok (.iload 5, 2) := by decide +kernel
theorem dX10_make_108 : decode cX10_make 108 = .ok (.aload_n 0, 1) := by decide +kernel
theorem dX10_make_109 : decode cX10_make 109 = .ok (.getfield 22, 3) := by decide +kernel
theorem dX10_make_112 : decode cX10_make 112 = .ok (.iload 4, 2) := by decide +kernel
theorem dX10_make_114 : decode cX10_make 114 = .ok (.iaload, 1) := by decide +kernel
theorem dX10_make_115 : decode cX10_make 115 = .ok (.iconst 1, 1) := by decide +kernel
theorem dX10_make_116 : decode cX10_make 116 = .ok (.iadd, 1) := by decide +kernel
theorem dX10_make_117 : decode cX10_make 117 = .ok (.invokestatic 145, 3) := by decide +kernel
theorem dX10_make_120 : decode cX10_make 120 = .ok (.istore 5, 2) := by decide +kernel
theorem dX10_make_122 : decode cX10_make 122 = .ok (.iload 6, 2) := by decide +kernel
theorem dX10_make_124 : decode cX10_make 124 = .ok (.aload_n 0, 1) := by decide +kernel
theorem dX10_make_125 : decode cX10_make 125 = .ok (.getfield 25, 3) := by decide +kernel
theorem dX10_make_128 : decode cX10_make 128 = .ok (.iload 4, 2) := by decide +kernel
theorem dX10_make_130 : decode cX10_make 130 = .ok (.iaload, 1) := by decide +kernel
theorem dX10_make_131 : decode cX10_make 131 = .ok (.iadd, 1) := by decide +kernel
theorem dX10_make_132 : decode cX10_make 132 = .ok (.istore 6, 2) := by decide +kernel
theorem dX10_make_134 : decode cX10_make 134 = .ok (.aload_n 0, 1) := by decide +kernel
theorem dX10_make_135 : decode cX10_make 135 = .ok (.getfield 120, 3) := by decide +kernel
theorem dX10_make_138 : decode cX10_make 138 = .ok (.bipush 60, 2) := by decide +kernel
theorem dX10_make_140 : decode cX10_make 140 = .ok (.if_icmp .eq 17, 3) := by decide +kernel
theorem dX10_make_143 : decode cX10_make 143 = .ok (.iload 5, 2) := by decide +kernel
theorem dX10_make_145 : decode cX10_make 145 = .ok (.bipush 9, 2) := by decide +kernel
theorem dX10_make_147 : decode cX10_make 147 = .ok (.if_icmp .gt 10, 3) := by decide +kernel
theorem dX10_make_150 : decode cX10_make 150 = .ok (.iload 6, 2) := by decide +kernel
theorem dX10_make_152 : decode cX10_make 152 = .ok (.bipush 120, 2) := by decide +kernel
theorem dX10_make_154 : decode cX10_make 154 = .ok (.if_icmp .le 9, 3) := by decide +kernel
theorem dX10_make_157 : decode cX10_make 157 = .ok (.aload_n 0, 1) := by decide +kernel
theorem dX10_make_158 : decode cX10_make 158 = .ok (.iconst 2, 1) := by decide +kernel
theorem dX10_make_159 : decode cX10_make 159 = .ok (.invokevirtual 138, 3) := by decide +kernel
theorem dX10_make_162 : decode cX10_make 162 = .ok (.ireturn, 1) := by decide +kernel
theorem dX10_make_163 : decode cX10_make 163 = .ok (.aload_n 0, 1) := by decide +kernel
theorem dX10_make_164 : decode cX10_make 164 = .ok (.getfield 7, 3) := by decide +kernel
theorem dX10_make_167 : decode cX10_make 167 = .ok (.aload_n 0, 1) := by decide +kernel
theorem dX10_make_168 : decode cX10_make 168 = .ok (.getfield 120, 3) := by decide +kernel
theorem dX10_make_171 : decode cX10_make 171 = .ok (.iload_n 1, 1) := by decide +kernel
theorem dX10_make_172 : decode cX10_make 172 = .ok (.iastore, 1) := by decide +kernel
theorem dX10_make_173 : decode cX10_make 173 = .ok (.aload_n 0, 1) := by decide +kernel
theorem dX10_make_174 : decode cX10_make 174 = .ok (.getfield 13, 3) := by decide +kernel
theorem dX10_make_177 : decode cX10_make 177 = .ok (.aload_n 0, 1) := by decide +kernel
theorem dX10_make_178 : decode cX10_make 178 = .ok (.getfield 120, 3) := by decide +kernel
theorem dX10_make_181 : decode cX10_make 181 = .ok (.iload_n 2, 1) := by decide +kernel
theorem dX10_make_182 : decode cX10_make 182 = .ok (.iastore, 1) := by decide +kernel
theorem dX10_make_183 : decode cX10_make 183 = .ok (.aload_n 0, 1) := by decide +kernel
theorem dX10_make_184 : decode cX10_make 184 = .ok (.getfield 16, 3) := by decide +kernel
theorem dX10_make_187 : decode cX10_make 187 = .ok (.aload_n 0, 1) := by decide +kernel
theorem dX10_make_188 : decode cX10_make 188 = .ok (.getfield 120, 3) := by decide +kernel
theorem dX10_make_191 : decode cX10_make 191 = .ok (.iload_n 3, 1) := by decide +kernel
theorem dX10_make_192 : decode cX10_make 192 = .ok (.iastore, 1) := by decide +kernel
theorem dX10_make_193 : decode cX10_make 193 = .ok (.aload_n 0, 1) := by decide +kernel
theorem dX10_make_194 : decode cX10_make 194 = .ok (.getfield 19, 3) := by decide +kernel
theorem dX10_make_197 : decode cX10_make 197 = .ok (.aload_n 0, 1) := by decide +kernel
theorem dX10_make_198 : decode cX10_make 198 = .ok (.getfield 120, 3) := by decide +kernel
theorem dX10_make_201 : decode cX10_make 201 = .ok (.iload 4, 2) := by decide +kernel
theorem dX10_make_203 : decode cX10_make 203 = .ok (.iastore, 1) := by decide +kernel
theorem dX10_make_204 : decode cX10_make 204 = .ok (.aload_n 0, 1) := by decide +kernel
theorem dX10_make_205 : decode cX10_make 205 = .ok (.getfield 22, 3) := by decide +kernel
theorem dX10_make_208 : decode cX10_make 208 = .ok (.aload_n 0, 1) := by decide +kernel
theorem dX10_make_209 : decode cX10_make 209 = .ok (.getfield 120, 3) := by decide +kernel
theorem dX10_make_212 : decode cX10_make 212 = .ok (.iload 5, 2) := by decide +kernel
theorem dX10_make_214 : decode cX10_make 214 = .ok (.iastore, 1) := by decide +kernel
theorem dX10_make_215 : decode cX10_make 215 = .ok (.aload_n 0, 1) := by decide +kernel
theorem dX10_make_216 : decode cX10_make 216 = .ok (.getfield 25, 3) := by decide +kernel
theorem dX10_make_219 : decode cX10_make 219 = .ok (.aload_n 0, 1) := by decide +kernel
theorem dX10_make_220 : decode cX10_make 220 = .ok (.getfield 120, 3) := by decide +kernel
theorem dX10_make_223 : decode cX10_make 223 = .ok (.iload 6, 2) := by decide +kernel
theorem dX10_make_225 : decode cX10_make 225 = .ok (.iastore, 1) := by decide +kernel
theorem dX10_make_226 : decode cX10_make 226 = .ok (.aload_n 0, 1) := by decide +kernel
theorem dX10_make_227 : decode cX10_make 227 = .ok (.getfield 28, 3) := by decide +kernel
theorem dX10_make_230 : decode cX10_make 230 = .ok (.aload_n 0, 1) := by decide +kernel
theorem dX10_make_231 : decode cX10_make 231 = .ok (.getfield 120, 3) := by decide +kernel
theorem dX10_make_234 : decode cX10_make 234 = .ok (.aload_n 0, 1) := by decide +kernel
theorem dX10_make_235 : decode cX10_make 235 = .ok (.iload_n 1, 1) := by decide +kernel
theorem dX10_make_236 : decode cX10_make 236 = .ok (.iload_n 2, 1) := by decide +kernel
theorem dX10_make_237 : decode cX10_make 237 = .ok (.iload_n 3, 1) := by decide +kernel
theorem dX10_make_238 : decode cX10_make 238 = .ok (.iload 4, 2) := by decide +kernel
theorem dX10_make_240 : decode cX10_make 240 = .ok (.invokevirtual 149, 3) := by decide +kernel
theorem dX10_make_243 : decode cX10_make 243 = .ok (.iastore, 1) := by decide +kernel
theorem dX10_make_244 : decode cX10_make 244 = .ok (.aload_n 0, 1) := by decide +kernel
theorem dX10_make_245 : decode cX10_make 245 = .ok (.dup, 1) := by decide +kernel
theorem dX10_make_246 : decode cX10_make 246 = .ok (.getfield 120, 3) := by decide +kernel
theorem dX10_make_249 : decode cX10_make 249 = .ok (.iconst 1, 1) := by decide +kernel
theorem dX10_make_250 : decode cX10_make 250 = .ok (.iadd, 1) := by decide +kernel
theorem dX10_make_251 : decode cX10_make 251 = .ok (.putfield 120, 3) := by decide +kernel
theorem dX10_make_254 : decode cX10_make 254 = .ok (.aload_n 0, 1) := by decide +kernel
theorem dX10_make_255 : decode cX10_make 255 = .ok (.getfield 120, 3) := by decide +kernel
theorem dX10_make_258 : decode cX10_make 258 = .ok (.iconst 1, 1) := by decide +kernel
theorem dX10_make_259 : decode cX10_make 259 = .ok (.isub, 1) := by decide +kernel
theorem dX10_make_260 : decode cX10_make 260 = .ok (.ireturn, 1) := by decide +kernel
theorem dX10_needs_0 : decode cX10_needs 0 = .ok (.iload_n 1, 1) := by decide +kernel
theorem dX10_needs_1 : decode cX10_needs 1 = .ok (.tableswitch 146 0 11 #[63, 63, 65, 69, 146, 146, 146, 120, 102, 95, 69, 82], 63) := by decide +kernel
theorem dX10_needs_64 : decode cX10_needs 64 = .ok (.iconst 0, 1) := by decide +kernel
theorem dX10_needs_65 : decode cX10_needs 65 = .ok (.ireturn, 1) := by decide +kernel
theorem dX10_needs_66 : decode cX10_needs 66 = .ok (.iload_n 2, 1) := by decide +kernel
theorem dX10_needs_67 : decode cX10_needs 67 = .ok (.iconst 1, 1) := by decide +kernel
theorem dX10_needs_68 : decode cX10_needs 68 = .ok (.iadd, 1) := by decide +kernel
theorem dX10_needs_69 : decode cX10_needs 69 = .ok (.ireturn, 1) := by decide +kernel
theorem dX10_needs_70 : decode cX10_needs 70 = .ok (.aload_n 0, 1) := by decide +kernel
theorem dX10_needs_71 : decode cX10_needs 71 = .ok (.getfield 28, 3) := by decide +kernel
theorem dX10_needs_74 : decode cX10_needs 74 = .ok (.iload_n 2, 1) := by decide +kernel
theorem dX10_needs_75 : decode cX10_needs 75 = .ok (.iaload, 1) := by decide +kernel
theorem dX10_needs_76 : decode cX10_needs 76 = .ok (.iconst 1, 1) := by decide +kernel
theorem dX10_needs_77 : decode cX10_needs 77 = .ok (.isub, 1) := by decide +kernel
theorem dX10_needs_78 : decode cX10_needs 78 = .ok (.iconst 0, 1) := by decide +kernel
theorem dX10_needs_79 : decode cX10_needs 79 = .ok (.invokestatic 145, 3) := by decide +kernel
theorem dX10_needs_82 : decode cX10_needs 82 = .ok (.ireturn, 1) := by decide +kernel
theorem dX10_needs_83 : decode cX10_needs 83 = .ok (.aload_n 0, 1) := by decide +kernel
theorem dX10_needs_84 : decode cX10_needs 84 = .ok (.getfield 28, 3) := by decide +kernel
theorem dX10_needs_87 : decode cX10_needs 87 = .ok (.iload_n 2, 1) := by decide +kernel
theorem dX10_needs_88 : decode cX10_needs 88 = .ok (.iaload, 1) := by decide +kernel
theorem dX10_needs_89 : decode cX10_needs 89 = .ok (.iconst 2, 1) := by decide +kernel
theorem dX10_needs_90 : decode cX10_needs 90 = .ok (.isub, 1) := by decide +kernel
theorem dX10_needs_91 : decode cX10_needs 91 = .ok (.iconst 0, 1) := by decide +kernel
theorem dX10_needs_92 : decode cX10_needs 92 = .ok (.invokestatic 145, 3) := by decide +kernel
theorem dX10_needs_95 : decode cX10_needs 95 = .ok (.ireturn, 1) := by decide +kernel
theorem dX10_needs_96 : decode cX10_needs 96 = .ok (.aload_n 0, 1) := by decide +kernel
theorem dX10_needs_97 : decode cX10_needs 97 = .ok (.getfield 28, 3) := by decide +kernel
theorem dX10_needs_100 : decode cX10_needs 100 = .ok (.iload_n 2, 1) := by decide +kernel
theorem dX10_needs_101 : decode cX10_needs 101 = .ok (.iaload, 1) := by decide +kernel
theorem dX10_needs_102 : decode cX10_needs 102 = .ok (.ireturn, 1) := by decide +kernel
theorem dX10_needs_103 : decode cX10_needs 103 = .ok (.aload_n 0, 1) := by decide +kernel
theorem dX10_needs_104 : decode cX10_needs 104 = .ok (.getfield 28, 3) := by decide +kernel
theorem dX10_needs_107 : decode cX10_needs 107 = .ok (.iload_n 2, 1) := by decide +kernel
theorem dX10_needs_108 : decode cX10_needs 108 = .ok (.iaload, 1) := by decide +kernel
theorem dX10_needs_109 : decode cX10_needs 109 = .ok (.aload_n 0, 1) := by decide +kernel
theorem dX10_needs_110 : decode cX10_needs 110 = .ok (.getfield 28, 3) := by decide +kernel
theorem dX10_needs_113 : decode cX10_needs 113 = .ok (.iload_n 3, 1) := by decide +kernel
theorem dX10_needs_114 : decode cX10_needs 114 = .ok (.iaload, 1) := by decide +kernel
theorem dX10_needs_115 : decode cX10_needs 115 = .ok (.iconst 1, 1) := by decide +kernel
theorem dX10_needs_116 : decode cX10_needs 116 = .ok (.isub, 1) := by decide +kernel
theorem dX10_needs_117 : decode cX10_needs 117 = .ok (.invokestatic 145, 3) := by decide +kernel
theorem dX10_needs_120 : decode cX10_needs 120 = .ok (.ireturn, 1) := by decide +kernel
theorem dX10_needs_121 : decode cX10_needs 121 = .ok (.aload_n 0, 1) := by decide +kernel
theorem dX10_needs_122 : decode cX10_needs 122 = .ok (.getfield 28, 3) := by decide +kernel
theorem dX10_needs_125 : decode cX10_needs 125 = .ok (.iload_n 2, 1) := by decide +kernel
theorem dX10_needs_126 : decode cX10_needs 126 = .ok (.iaload, 1) := by decide +kernel
theorem dX10_needs_127 : decode cX10_needs 127 = .ok (.aload_n 0, 1) := by decide +kernel
theorem dX10_needs_128 : decode cX10_needs 128 = .ok (.getfield 28, 3) := by decide +kernel
theorem dX10_needs_131 : decode cX10_needs 131 = .ok (.iload_n 3, 1) := by decide +kernel
theorem dX10_needs_132 : decode cX10_needs 132 = .ok (.iaload, 1) := by decide +kernel
theorem dX10_needs_133 : decode cX10_needs 133 = .ok (.aload_n 0, 1) := by decide +kernel
theorem dX10_needs_134 : decode cX10_needs 134 = .ok (.getfield 28, 3) := by decide +kernel
theorem dX10_needs_137 : decode cX10_needs 137 = .ok (.iload 4, 2) := by decide +kernel
theorem dX10_needs_139 : decode cX10_needs 139 = .ok (.iaload, 1) := by decide +kernel
theorem dX10_needs_140 : decode cX10_needs 140 = .ok (.invokestatic 145, 3) := by decide +kernel
theorem dX10_needs_143 : decode cX10_needs 143 = .ok (.invokestatic 145, 3) := by decide +kernel
theorem dX10_needs_146 : decode cX10_needs 146 = .ok (.ireturn, 1) := by decide +kernel
theorem dX10_needs_147 : decode cX10_needs 147 = .ok (.aload_n 0, 1) := by decide +kernel
theorem dX10_needs_148 : decode cX10_needs 148 = .ok (.getfield 28, 3) := by decide +kernel
theorem dX10_needs_151 : decode cX10_needs 151 = .ok (.iload_n 2, 1) := by decide +kernel
theorem dX10_needs_152 : decode cX10_needs 152 = .ok (.iaload, 1) := by decide +kernel
theorem dX10_needs_153 : decode cX10_needs 153 = .ok (.aload_n 0, 1) := by decide +kernel
theorem dX10_needs_154 : decode cX10_needs 154 = .ok (.getfield 28, 3) := by decide +kernel
theorem dX10_needs_157 : decode cX10_needs 157 = .ok (.iload_n 3, 1) := by decide +kernel
theorem dX10_needs_158 : decode cX10_needs 158 = .ok (.iaload, 1) := by decide +kernel
theorem dX10_needs_159 : decode cX10_needs 159 = .ok (.invokestatic 145, 3) := by decide +kernel
theorem dX10_needs_162 : decode cX10_needs 162 = .ok (.ireturn, 1) := by decide +kernel
theorem dX10_open_0 : decode cX10_open 0 = .ok (.aload_n 0, 1) := by decide +kernel
theorem dX10_open_1 : decode cX10_open 1 = .ok (.aload_n 0, 1) := by decide +kernel
theorem dX10_open_2 : decode cX10_open 2 = .ok (.iload_n 1, 1) := by decide +kernel
theorem dX10_open_3 : decode cX10_open 3 = .ok (.invokevirtual 127, 3) := by decide +kernel
theorem dX10_open_6 : decode cX10_open 6 = .ok (.ifCond .eq 7, 3) := by decide +kernel
theorem dX10_open_9 : decode cX10_open 9 = .ok (.iconst 0, 1) := by decide +kernel
theorem dX10_open_10 : decode cX10_open 10 = .ok (.goto 4, 3) := by decide +kernel
theorem dX10_open_13 : decode cX10_open 13 = .ok (.iconst 1, 1) := by decide +kernel
theorem dX10_open_14 : decode cX10_open 14 = .ok (.putfield 117, 3) := by decide +kernel
theorem dX10_open_17 : decode cX10_open 17 = .ok (.aload_n 0, 1) := by decide +kernel
theorem dX10_open_18 : decode cX10_open 18 = .ok (.getfield 117, 3) := by decide +kernel
theorem dX10_open_21 : decode cX10_open 21 = .ok (.ifCond .le 7, 3) := by decide +kernel
theorem dX10_open_24 : decode cX10_open 24 = .ok (.iconst 0, 1) := by decide +kernel
theorem dX10_open_25 : decode cX10_open 25 = .ok (.goto 9, 3) := by decide +kernel
theorem dX10_open_28 : decode cX10_open 28 = .ok (.aload_n 0, 1) := by decide +kernel
theorem dX10_open_29 : decode cX10_open 29 = .ok (.getfield 28, 3) := by decide +kernel
theorem dX10_open_32 : decode cX10_open 32 = .ok (.iload_n 1, 1) := by decide +kernel
theorem dX10_open_33 : decode cX10_open 33 = .ok (.iaload, 1) := by decide +kernel
theorem dX10_open_34 : decode cX10_open 34 = .ok (.ireturn, 1) := by decide +kernel
theorem dX10_bind_0 : decode cX10_bind 0 = .ok (.aload_n 0, 1) := by decide +kernel
theorem dX10_bind_1 : decode cX10_bind 1 = .ok (.dup, 1) := by decide +kernel
theorem dX10_bind_2 : decode cX10_bind 2 = .ok (.getfield 153, 3) := by decide +kernel
theorem dX10_bind_5 : decode cX10_bind 5 = .ok (.iconst 1, 1) := by decide +kernel
theorem dX10_bind_6 : decode cX10_bind 6 = .ok (.iadd, 1) := by decide +kernel
theorem dX10_bind_7 : decode cX10_bind 7 = .ok (.putfield 153, 3) := by decide +kernel
theorem dX10_bind_10 : decode cX10_bind 10 = .ok (.aload_n 0, 1) := by decide +kernel
theorem dX10_bind_11 : decode cX10_bind 11 = .ok (.getfield 31, 3) := by decide +kernel
theorem dX10_bind_14 : decode cX10_bind 14 = .ok (.aload_n 0, 1) := by decide +kernel
theorem dX10_bind_15 : decode cX10_bind 15 = .ok (.getfield 153, 3) := by decide +kernel
theorem dX10_bind_18 : decode cX10_bind 18 = .ok (.iload_n 1, 1) := by decide +kernel
theorem dX10_bind_19 : decode cX10_bind 19 = .ok (.iastore, 1) := by decide +kernel
theorem dX10_bind_20 : decode cX10_bind 20 = .ok (.aload_n 0, 1) := by decide +kernel
theorem dX10_bind_21 : decode cX10_bind 21 = .ok (.getfield 34, 3) := by decide +kernel
theorem dX10_bind_24 : decode cX10_bind 24 = .ok (.aload_n 0, 1) := by decide +kernel
theorem dX10_bind_25 : decode cX10_bind 25 = .ok (.getfield 153, 3) := by decide +kernel
theorem dX10_bind_28 : decode cX10_bind 28 = .ok (.iload_n 2, 1) := by decide +kernel
theorem dX10_bind_29 : decode cX10_bind 29 = .ok (.iastore, 1) := by decide +kernel
theorem dX10_bind_30 : decode cX10_bind 30 = .ok (.aload_n 0, 1) := by decide +kernel
theorem dX10_bind_31 : decode cX10_bind 31 = .ok (.getfield 37, 3) := by decide +kernel
theorem dX10_bind_34 : decode cX10_bind 34 = .ok (.aload_n 0, 1) := by decide +kernel
theorem dX10_bind_35 : decode cX10_bind 35 = .ok (.getfield 153, 3) := by decide +kernel
theorem dX10_bind_38 : decode cX10_bind 38 = .ok (.iload_n 3, 1) := by decide +kernel
theorem dX10_bind_39 : decode cX10_bind 39 = .ok (.iastore, 1) := by decide +kernel
theorem dX10_bind_40 : decode cX10_bind 40 = .ok (.aload_n 0, 1) := by decide +kernel
theorem dX10_bind_41 : decode cX10_bind 41 = .ok (.getfield 153, 3) := by decide +kernel
theorem dX10_bind_44 : decode cX10_bind 44 = .ok (.ireturn, 1) := by decide +kernel
theorem dX10_then_0 : decode cX10_then 0 = .ok (.aload_n 0, 1) := by decide +kernel
theorem dX10_then_1 : decode cX10_then 1 = .ok (.dup, 1) := by decide +kernel
theorem dX10_then_2 : decode cX10_then 2 = .ok (.getfield 156, 3) := by decide +kernel
theorem dX10_then_5 : decode cX10_then 5 = .ok (.iconst 1, 1) := by decide +kernel
theorem dX10_then_6 : decode cX10_then 6 = .ok (.iadd, 1) := by decide +kernel
theorem dX10_then_7 : decode cX10_then 7 = .ok (.putfield 156, 3) := by decide +kernel
theorem dX10_then_10 : decode cX10_then 10 = .ok (.aload_n 0, 1) := by decide +kernel
theorem dX10_then_11 : decode cX10_then 11 = .ok (.getfield 46, 3) := by decide +kernel
theorem dX10_then_14 : decode cX10_then 14 = .ok (.aload_n 0, 1) := by decide +kernel
theorem dX10_then_15 : decode cX10_then 15 = .ok (.getfield 156, 3) := by decide +kernel
theorem dX10_then_18 : decode cX10_then 18 = .ok (.iload_n 1, 1) := by decide +kernel
theorem dX10_then_19 : decode cX10_then 19 = .ok (.iastore, 1) := by decide +kernel
theorem dX10_then_20 : decode cX10_then 20 = .ok (.aload_n 0, 1) := by decide +kernel
theorem dX10_then_21 : decode cX10_then 21 = .ok (.getfield 49, 3) := by decide +kernel
theorem dX10_then_24 : decode cX10_then 24 = .ok (.aload_n 0, 1) := by decide +kernel
theorem dX10_then_25 : decode cX10_then 25 = .ok (.getfield 156, 3) := by decide +kernel
theorem dX10_then_28 : decode cX10_then 28 = .ok (.iload_n 2, 1) := by decide +kernel
theorem dX10_then_29 : decode cX10_then 29 = .ok (.iastore, 1) := by decide +kernel
theorem dX10_then_30 : decode cX10_then 30 = .ok (.aload_n 0, 1) := by decide +kernel
theorem dX10_then_31 : decode cX10_then 31 = .ok (.getfield 52, 3) := by decide +kernel
theorem dX10_then_34 : decode cX10_then 34 = .ok (.aload_n 0, 1) := by decide +kernel
theorem dX10_then_35 : decode cX10_then 35 = .ok (.getfield 156, 3) := by decide +kernel
theorem dX10_then_38 : decode cX10_then 38 = .ok (.iload_n 3, 1) := by decide +kernel
theorem dX10_then_39 : decode cX10_then 39 = .ok (.iastore, 1) := by decide +kernel
theorem dX10_then_40 : decode cX10_then 40 = .ok (.aload_n 0, 1) := by decide +kernel
theorem dX10_then_41 : decode cX10_then 41 = .ok (.getfield 55, 3) := by decide +kernel
theorem dX10_then_44 : decode cX10_then 44 = .ok (.aload_n 0, 1) := by decide +kernel
theorem dX10_then_45 : decode cX10_then 45 = .ok (.getfield 156, 3) := by decide +kernel
theorem dX10_then_48 : decode cX10_then 48 = .ok (.iload 4, 2) := by decide +kernel
theorem dX10_then_50 : decode cX10_then 50 = .ok (.iastore, 1) := by decide +kernel
theorem dX10_then_51 : decode cX10_then 51 = .ok (.aload_n 0, 1) := by decide +kernel
theorem dX10_then_52 : decode cX10_then 52 = .ok (.getfield 58, 3) := by decide +kernel
theorem dX10_then_55 : decode cX10_then 55 = .ok (.aload_n 0, 1) := by decide +kernel
theorem dX10_then_56 : decode cX10_then 56 = .ok (.getfield 156, 3) := by decide +kernel
theorem dX10_then_59 : decode cX10_then 59 = .ok (.iload 5, 2) := by decide +kernel
theorem dX10_then_61 : decode cX10_then 61 = .ok (.iastore, 1) := by decide +kernel
theorem dX10_then_62 : decode cX10_then 62 = .ok (.aload_n 0, 1) := by decide +kernel
theorem dX10_then_63 : decode cX10_then 63 = .ok (.getfield 61, 3) := by decide +kernel
theorem dX10_then_66 : decode cX10_then 66 = .ok (.aload_n 0, 1) := by decide +kernel
theorem dX10_then_67 : decode cX10_then 67 = .ok (.getfield 156, 3) := by decide +kernel
theorem dX10_then_70 : decode cX10_then 70 = .ok (.aload_n 0, 1) := by decide +kernel
theorem dX10_then_71 : decode cX10_then 71 = .ok (.getfield 159, 3) := by decide +kernel
theorem dX10_then_74 : decode cX10_then 74 = .ok (.iastore, 1) := by decide +kernel
theorem dX10_then_75 : decode cX10_then 75 = .ok (.aload_n 0, 1) := by decide +kernel
theorem dX10_then_76 : decode cX10_then 76 = .ok (.aload_n 0, 1) := by decide +kernel
theorem dX10_then_77 : decode cX10_then 77 = .ok (.getfield 156, 3) := by decide +kernel
theorem dX10_then_80 : decode cX10_then 80 = .ok (.putfield 159, 3) := by decide +kernel
theorem dX10_then_83 : decode cX10_then 83 = .ok (.return_, 1) := by decide +kernel
theorem dX10_give_0 : decode cX10_give 0 = .ok (.aload_n 0, 1) := by decide +kernel
theorem dX10_give_1 : decode cX10_give 1 = .ok (.iload_n 1, 1) := by decide +kernel
theorem dX10_give_2 : decode cX10_give 2 = .ok (.putfield 162, 3) := by decide +kernel
theorem dX10_give_5 : decode cX10_give 5 = .ok (.aload_n 0, 1) := by decide +kernel
theorem dX10_give_6 : decode cX10_give 6 = .ok (.iload_n 2, 1) := by decide +kernel
theorem dX10_give_7 : decode cX10_give 7 = .ok (.putfield 165, 3) := by decide +kernel
theorem dX10_give_10 : decode cX10_give 10 = .ok (.return_, 1) := by decide +kernel
theorem dX10_closure_0 : decode cX10_closure 0 = .ok (.aload_n 0, 1) := by decide +kernel
theorem dX10_closure_1 : decode cX10_closure 1 = .ok (.dup, 1) := by decide +kernel
theorem dX10_closure_2 : decode cX10_closure 2 = .ok (.getfield 168, 3) := by decide +kernel
theorem dX10_closure_5 : decode cX10_closure 5 = .ok (.iconst 1, 1) := by decide +kernel
theorem dX10_closure_6 : decode cX10_closure 6 = .ok (.iadd, 1) := by decide +kernel
theorem dX10_closure_7 : decode cX10_closure 7 = .ok (.putfield 168, 3) := by decide +kernel
theorem dX10_closure_10 : decode cX10_closure 10 = .ok (.aload_n 0, 1) := by decide +kernel
theorem dX10_closure_11 : decode cX10_closure 11 = .ok (.getfield 40, 3) := by decide +kernel
theorem dX10_closure_14 : decode cX10_closure 14 = .ok (.aload_n 0, 1) := by decide +kernel
theorem dX10_closure_15 : decode cX10_closure 15 = .ok (.getfield 168, 3) := by decide +kernel
theorem dX10_closure_18 : decode cX10_closure 18 = .ok (.iload_n 1, 1) := by decide +kernel
theorem dX10_closure_19 : decode cX10_closure 19 = .ok (.iastore, 1) := by decide +kernel
theorem dX10_closure_20 : decode cX10_closure 20 = .ok (.aload_n 0, 1) := by decide +kernel
theorem dX10_closure_21 : decode cX10_closure 21 = .ok (.getfield 43, 3) := by decide +kernel
theorem dX10_closure_24 : decode cX10_closure 24 = .ok (.aload_n 0, 1) := by decide +kernel
theorem dX10_closure_25 : decode cX10_closure 25 = .ok (.getfield 168, 3) := by decide +kernel
theorem dX10_closure_28 : decode cX10_closure 28 = .ok (.iload_n 2, 1) := by decide +kernel
theorem dX10_closure_29 : decode cX10_closure 29 = .ok (.iastore, 1) := by decide +kernel
theorem dX10_closure_30 : decode cX10_closure 30 = .ok (.aload_n 0, 1) := by decide +kernel
theorem dX10_closure_31 : decode cX10_closure 31 = .ok (.getfield 168, 3) := by decide +kernel
theorem dX10_closure_34 : decode cX10_closure 34 = .ok (.ireturn, 1) := by decide +kernel
theorem dX10_begin_0 : decode cX10_begin 0 = .ok (.aload_n 0, 1) := by decide +kernel
theorem dX10_begin_1 : decode cX10_begin 1 = .ok (.getfield 7, 3) := by decide +kernel
theorem dX10_begin_4 : decode cX10_begin 4 = .ok (.iload_n 1, 1) := by decide +kernel
theorem dX10_begin_5 : decode cX10_begin 5 = .ok (.iaload, 1) := by decide +kernel
theorem dX10_begin_6 : decode cX10_begin 6 = .ok (.istore_n 3, 1) := by decide +kernel
theorem dX10_begin_7 : decode cX10_begin 7 = .ok (.aload_n 0, 1) := by decide +kernel
theorem dX10_begin_8 : decode cX10_begin 8 = .ok (.iload_n 2, 1) := by decide +kernel
theorem dX10_begin_9 : decode cX10_begin 9 = .ok (.putfield 171, 3) := by decide +kernel
theorem dX10_begin_12 : decode cX10_begin 12 = .ok (.iload_n 3, 1) := by decide +kernel
theorem dX10_begin_13 : decode cX10_begin 13 = .ok (.tableswitch 215 0 11 #[63, 76, 89, 141, 215, 215, 215, 215, 215, 154, 189, 141], 63) := by decide +kernel
theorem dX10_begin_76 : decode cX10_begin 76 = .ok (.aload_n 0, 1) := by decide +kernel
theorem dX10_begin_77 : decode cX10_begin 77 = .ok (.iconst 0, 1) := by decide +kernel
theorem dX10_begin_78 : decode cX10_begin 78 = .ok (.aload_n 0, 1) := by decide +kernel
theorem dX10_begin_79 : decode cX10_begin 79 = .ok (.getfield 13, 3) := by decide +kernel
theorem dX10_begin_82 : decode cX10_begin 82 = .ok (.iload_n 1, 1) := by decide +kernel
theorem dX10_begin_83 : decode cX10_begin 83 = .ok (.iaload, 1) := by decide +kernel
theorem dX10_begin_84 : decode cX10_begin 84 = .ok (.invokevirtual 174, 3) := by decide +kernel
theorem dX10_begin_87 : decode cX10_begin 87 = .ok (.iconst (-1), 1) := by decide +kernel
theorem dX10_begin_88 : decode cX10_begin 88 = .ok (.ireturn, 1) := by decide +kernel
theorem dX10_begin_89 : decode cX10_begin 89 = .ok (.aload_n 0, 1) := by decide +kernel
theorem dX10_begin_90 : decode cX10_begin 90 = .ok (.iconst 1, 1) := by decide +kernel
theorem dX10_begin_91 : decode cX10_begin 91 = .ok (.aload_n 0, 1) := by decide +kernel
theorem dX10_begin_92 : decode cX10_begin 92 = .ok (.getfield 13, 3) := by decide +kernel
theorem dX10_begin_95 : decode cX10_begin 95 = .ok (.iload_n 1, 1) := by decide +kernel
theorem dX10_begin_96 : decode cX10_begin 96 = .ok (.iaload, 1) := by decide +kernel
theorem dX10_begin_97 : decode cX10_begin 97 = .ok (.invokevirtual 174, 3) := by decide +kernel
theorem dX10_begin_100 : decode cX10_begin 100 = .ok (.iconst (-1), 1) := by decide +kernel
theorem dX10_begin_101 : decode cX10_begin 101 = .ok (.ireturn, 1) := by decide +kernel
theorem dX10_begin_102 : decode cX10_begin 102 = .ok (.iload_n 2, 1) := by decide +kernel
theorem dX10_begin_103 : decode cX10_begin 103 = .ok (.istore 4, 2) := by decide +kernel
theorem dX10_begin_105 : decode cX10_begin 105 = .ok (.iconst 0, 1) := by decide +kernel
theorem dX10_begin_106 : decode cX10_begin 106 = .ok (.istore 5, 2) := by decide +kernel
theorem dX10_begin_108 : decode cX10_begin 108 = .ok (.iload 5, 2) := by decide +kernel
theorem dX10_begin_110 : decode cX10_begin 110 = .ok (.aload_n 0, 1) := by decide +kernel
theorem dX10_begin_111 : decode cX10_begin 111 = .ok (.getfield 13, 3) := by decide +kernel
theorem dX10_begin_114 : decode cX10_begin 114 = .ok (.iload_n 1, 1) := by decide +kernel
theorem dX10_begin_115 : decode cX10_begin 115 = .ok (.iaload, 1) := by decide +kernel
theorem dX10_begin_116 : decode cX10_begin 116 = .ok (.if_icmp .ge 18, 3) := by decide +kernel
theorem dX10_begin_119 : decode cX10_begin 119 = .ok (.aload_n 0, 1) := by decide +kernel
theorem dX10_begin_120 : decode cX10_begin 120 = .ok (.getfield 37, 3) := by decide +kernel
theorem dX10_begin_123 : decode cX10_begin 123 = .ok (.iload 4, 2) := by decide +kernel
theorem dX10_begin_125 : decode cX10_begin 125 = .ok (.iaload, 1) := by decide +kernel
theorem dX10_begin_126 : decode cX10_begin 126 = .ok (.istore 4, 2) := by decide +kernel
theorem dX10_begin_128 : decode cX10_begin 128 = .ok (.iinc 5 1, 3) := by decide +kernel
theorem dX10_begin_131 : decode cX10_begin 131 = .ok (.goto (-23), 3) := by decide +kernel
theorem dX10_begin_134 : decode cX10_begin 134 = .ok (.aload_n 0, 1) := by decide +kernel
theorem dX10_begin_135 : decode cX10_begin 135 = .ok (.aload_n 0, 1) := by decide +kernel
theorem dX10_begin_136 : decode cX10_begin 136 = .ok (.getfield 31, 3) := by decide +kernel
theorem dX10_begin_139 : decode cX10_begin 139 = .ok (.iload 4, 2) := by decide +kernel
theorem dX10_begin_141 : decode cX10_begin 141 = .ok (.iaload, 1) := by decide +kernel
theorem dX10_begin_142 : decode cX10_begin 142 = .ok (.aload_n 0, 1) := by decide +kernel
theorem dX10_begin_143 : decode cX10_begin 143 = .ok (.getfield 34, 3) := by decide +kernel
theorem dX10_begin_146 : decode cX10_begin 146 = .ok (.iload 4, 2) := by decide +kernel
theorem dX10_begin_148 : decode cX10_begin 148 = .ok (.iaload, 1) := by decide +kernel
theorem dX10_begin_149 : decode cX10_begin 149 = .ok (.invokevirtual 174, 3) := by decide +kernel
theorem dX10_begin_152 : decode cX10_begin 152 = .ok (.iconst (-1), 1) := by decide +kernel
theorem dX10_begin_153 : decode cX10_begin 153 = .ok (.ireturn, 1) := by decide +kernel
theorem dX10_begin_154 : decode cX10_begin 154 = .ok (.aload_n 0, 1) := by decide +kernel
theorem dX10_begin_155 : decode cX10_begin 155 = .ok (.iconst 2, 1) := by decide +kernel
theorem dX10_begin_156 : decode cX10_begin 156 = .ok (.aload_n 0, 1) := by decide +kernel
theorem dX10_begin_157 : decode cX10_begin 157 = .ok (.iload_n 1, 1) := by decide +kernel
theorem dX10_begin_158 : decode cX10_begin 158 = .ok (.iload_n 2, 1) := by decide +kernel
theorem dX10_begin_159 : decode cX10_begin 159 = .ok (.invokevirtual 178, 3) := by decide +kernel
theorem dX10_begin_162 : decode cX10_begin 162 = .ok (.invokevirtual 174, 3) := by decide +kernel
theorem dX10_begin_165 : decode cX10_begin 165 = .ok (.iconst (-1), 1) := by decide +kernel
theorem dX10_begin_166 : decode cX10_begin 166 = .ok (.ireturn, 1) := by decide +kernel
theorem dX10_begin_167 : decode cX10_begin 167 = .ok (.aload_n 0, 1) := by decide +kernel
theorem dX10_begin_168 : decode cX10_begin 168 = .ok (.getfield 64, 3) := by decide +kernel
theorem dX10_begin_171 : decode cX10_begin 171 = .ok (.aload_n 0, 1) := by decide +kernel
theorem dX10_begin_172 : decode cX10_begin 172 = .ok (.getfield 181, 3) := by decide +kernel
theorem dX10_begin_175 : decode cX10_begin 175 = .ok (.aload_n 0, 1) := by decide +kernel
theorem dX10_begin_176 : decode cX10_begin 176 = .ok (.getfield 159, 3) := by decide +kernel
theorem dX10_begin_179 : decode cX10_begin 179 = .ok (.iastore, 1) := by decide +kernel
theorem dX10_begin_180 : decode cX10_begin 180 = .ok (.aload_n 0, 1) := by decide +kernel
theorem dX10_begin_181 : decode cX10_begin 181 = .ok (.dup, 1) := by decide +kernel
theorem dX10_begin_182 : decode cX10_begin 182 = .ok (.getfield 181, 3) := by decide +kernel
theorem dX10_begin_185 : decode cX10_begin 185 = .ok (.iconst 1, 1) := by decide +kernel
theorem dX10_begin_186 : decode cX10_begin 186 = .ok (.iadd, 1) := by decide +kernel
theorem dX10_begin_187 : decode cX10_begin 187 = .ok (.putfield 181, 3) := by decide +kernel
theorem dX10_begin_190 : decode cX10_begin 190 = .ok (.aload_n 0, 1) := by decide +kernel
theorem dX10_begin_191 : decode cX10_begin 191 = .ok (.iconst 0, 1) := by decide +kernel
theorem dX10_begin_192 : decode cX10_begin 192 = .ok (.putfield 159, 3) := by decide +kernel
theorem dX10_begin_195 : decode cX10_begin 195 = .ok (.aload_n 0, 1) := by decide +kernel
theorem dX10_begin_196 : decode cX10_begin 196 = .ok (.getfield 13, 3) := by decide +kernel
theorem dX10_begin_199 : decode cX10_begin 199 = .ok (.iload_n 1, 1) := by decide +kernel
theorem dX10_begin_200 : decode cX10_begin 200 = .ok (.iaload, 1) := by decide +kernel
theorem dX10_begin_201 : decode cX10_begin 201 = .ok (.ireturn, 1) := by decide +kernel
theorem dX10_begin_202 : decode cX10_begin 202 = .ok (.aload_n 0, 1) := by decide +kernel
theorem dX10_begin_203 : decode cX10_begin 203 = .ok (.aload_n 0, 1) := by decide +kernel
theorem dX10_begin_204 : decode cX10_begin 204 = .ok (.iconst 3, 1) := by decide +kernel
theorem dX10_begin_205 : decode cX10_begin 205 = .ok (.aload_n 0, 1) := by decide +kernel
theorem dX10_begin_206 : decode cX10_begin 206 = .ok (.getfield 159, 3) := by decide +kernel
theorem dX10_begin_209 : decode cX10_begin 209 = .ok (.iload_n 2, 1) := by decide +kernel
theorem dX10_begin_210 : decode cX10_begin 210 = .ok (.invokevirtual 184, 3) := by decide +kernel
theorem dX10_begin_213 : decode cX10_begin 213 = .ok (.putfield 171, 3) := by decide +kernel
theorem dX10_begin_216 : decode cX10_begin 216 = .ok (.aload_n 0, 1) := by decide +kernel
theorem dX10_begin_217 : decode cX10_begin 217 = .ok (.iconst 0, 1) := by decide +kernel
theorem dX10_begin_218 : decode cX10_begin 218 = .ok (.putfield 159, 3) := by decide +kernel
theorem dX10_begin_221 : decode cX10_begin 221 = .ok (.aload_n 0, 1) := by decide +kernel
theorem dX10_begin_222 : decode cX10_begin 222 = .ok (.getfield 13, 3) := by decide +kernel
theorem dX10_begin_225 : decode cX10_begin 225 = .ok (.iload_n 1, 1) := by decide +kernel
theorem dX10_begin_226 : decode cX10_begin 226 = .ok (.iaload, 1) := by decide +kernel
theorem dX10_begin_227 : decode cX10_begin 227 = .ok (.ireturn, 1) := by decide +kernel
theorem dX10_begin_228 : decode cX10_begin 228 = .ok (.aload_n 0, 1) := by decide +kernel
theorem dX10_begin_229 : decode cX10_begin 229 = .ok (.iload_n 3, 1) := by decide +kernel
theorem dX10_begin_230 : decode cX10_begin 230 = .ok (.iload_n 1, 1) := by decide +kernel
theorem dX10_begin_231 : decode cX10_begin 231 = .ok (.iload_n 2, 1) := by decide +kernel
theorem dX10_begin_232 : decode cX10_begin 232 = .ok (.iconst (-1), 1) := by decide +kernel
theorem dX10_begin_233 : decode cX10_begin 233 = .ok (.iconst 0, 1) := by decide +kernel
theorem dX10_begin_234 : decode cX10_begin 234 = .ok (.invokevirtual 188, 3) := by decide +kernel
theorem dX10_begin_237 : decode cX10_begin 237 = .ok (.aload_n 0, 1) := by decide +kernel
theorem dX10_begin_238 : decode cX10_begin 238 = .ok (.getfield 13, 3) := by decide +kernel
theorem dX10_begin_241 : decode cX10_begin 241 = .ok (.iload_n 1, 1) := by decide +kernel
theorem dX10_begin_242 : decode cX10_begin 242 = .ok (.iaload, 1) := by decide +kernel
theorem dX10_begin_243 : decode cX10_begin 243 = .ok (.ireturn, 1) := by decide +kernel
theorem dX10_call_0 : decode cX10_call 0 = .ok (.iload_n 1, 1) := by decide +kernel
theorem dX10_call_1 : decode cX10_call 1 = .ok (.iconst 3, 1) := by decide +kernel
theorem dX10_call_2 : decode cX10_call 2 = .ok (.if_icmp .ne 33, 3) := by decide +kernel
theorem dX10_call_5 : decode cX10_call 5 = .ok (.aload_n 0, 1) := by decide +kernel
theorem dX10_call_6 : decode cX10_call 6 = .ok (.getfield 64, 3) := by decide +kernel
theorem dX10_call_9 : decode cX10_call 9 = .ok (.aload_n 0, 1) := by decide +kernel
theorem dX10_call_10 : decode cX10_call 10 = .ok (.getfield 181, 3) := by decide +kernel
theorem dX10_call_13 : decode cX10_call 13 = .ok (.aload_n 0, 1) := by decide +kernel
theorem dX10_call_14 : decode cX10_call 14 = .ok (.getfield 159, 3) := by decide +kernel
theorem dX10_call_17 : decode cX10_call 17 = .ok (.iastore, 1) := by decide +kernel
theorem dX10_call_18 : decode cX10_call 18 = .ok (.aload_n 0, 1) := by decide +kernel
theorem dX10_call_19 : decode cX10_call 19 = .ok (.dup, 1) := by decide +kernel
theorem dX10_call_20 : decode cX10_call 20 = .ok (.getfield 181, 3) := by decide +kernel
theorem dX10_call_23 : decode cX10_call 23 = .ok (.iconst 1, 1) := by decide +kernel
theorem dX10_call_24 : decode cX10_call 24 = .ok (.iadd, 1) := by decide +kernel
theorem dX10_call_25 : decode cX10_call 25 = .ok (.putfield 181, 3) := by decide +kernel
theorem dX10_call_28 : decode cX10_call 28 = .ok (.aload_n 0, 1) := by decide +kernel
theorem dX10_call_29 : decode cX10_call 29 = .ok (.iload_n 2, 1) := by decide +kernel
theorem dX10_call_30 : decode cX10_call 30 = .ok (.putfield 159, 3) := by decide +kernel
theorem dX10_call_33 : decode cX10_call 33 = .ok (.iconst (-1), 1) := by decide +kernel
theorem dX10_call_34 : decode cX10_call 34 = .ok (.ireturn, 1) := by decide +kernel
theorem dX10_call_35 : decode cX10_call 35 = .ok (.iload_n 1, 1) := by decide +kernel
theorem dX10_call_36 : decode cX10_call 36 = .ok (.iconst 2, 1) := by decide +kernel
theorem dX10_call_37 : decode cX10_call 37 = .ok (.if_icmp .eq 10, 3) := by decide +kernel
theorem dX10_call_40 : decode cX10_call 40 = .ok (.aload_n 0, 1) := by decide +kernel
theorem dX10_call_41 : decode cX10_call 41 = .ok (.iconst 1, 1) := by decide +kernel
theorem dX10_call_42 : decode cX10_call 42 = .ok (.putfield 192, 3) := by decide +kernel
theorem dX10_call_45 : decode cX10_call 45 = .ok (.iconst (-1), 1) := by decide +kernel
theorem dX10_call_46 : decode cX10_call 46 = .ok (.ireturn, 1) := by decide +kernel
theorem dX10_call_47 : decode cX10_call 47 = .ok (.aload_n 0, 1) := by decide +kernel
theorem dX10_call_48 : decode cX10_call 48 = .ok (.getfield 40, 3) := by decide +kernel
theorem dX10_call_51 : decode cX10_call 51 = .ok (.iload_n 2, 1) := by decide +kernel
theorem dX10_call_52 : decode cX10_call 52 = .ok (.iaload, 1) := by decide +kernel
theorem dX10_call_53 : decode cX10_call 53 = .ok (.istore_n 3, 1) := by decide +kernel
theorem dX10_call_54 : decode cX10_call 54 = .ok (.aload_n 0, 1) := by decide +kernel
theorem dX10_call_55 : decode cX10_call 55 = .ok (.getfield 7, 3) := by decide +kernel
theorem dX10_call_58 : decode cX10_call 58 = .ok (.iload_n 3, 1) := by decide +kernel
theorem dX10_call_59 : decode cX10_call 59 = .ok (.iaload, 1) := by decide +kernel
theorem dX10_call_60 : decode cX10_call 60 = .ok (.bipush 11, 2) := by decide +kernel
theorem dX10_call_62 : decode cX10_call 62 = .ok (.if_icmp .ne 18, 3) := by decide +kernel
theorem dX10_call_65 : decode cX10_call 65 = .ok (.aload_n 0, 1) := by decide +kernel
theorem dX10_call_66 : decode cX10_call 66 = .ok (.iconst 2, 1) := by decide +kernel
theorem dX10_call_67 : decode cX10_call 67 = .ok (.iload_n 2, 1) := by decide +kernel
theorem dX10_call_68 : decode cX10_call 68 = .ok (.aload_n 0, 1) := by decide +kernel
theorem dX10_call_69 : decode cX10_call 69 = .ok (.getfield 43, 3) := by decide +kernel
theorem dX10_call_72 : decode cX10_call 72 = .ok (.iload_n 2, 1) := by decide +kernel
theorem dX10_call_73 : decode cX10_call 73 = .ok (.iaload, 1) := by decide +kernel
theorem dX10_call_74 : decode cX10_call 74 = .ok (.invokevirtual 184, 3) := by decide +kernel
theorem dX10_call_77 : decode cX10_call 77 = .ok (.goto 9, 3) := by decide +kernel
theorem dX10_call_80 : decode cX10_call 80 = .ok (.aload_n 0, 1) := by decide +kernel
theorem dX10_call_81 : decode cX10_call 81 = .ok (.getfield 43, 3) := by decide +kernel
theorem dX10_call_84 : decode cX10_call 84 = .ok (.iload_n 2, 1) := by decide +kernel
theorem dX10_call_85 : decode cX10_call 85 = .ok (.iaload, 1) := by decide +kernel
theorem dX10_call_86 : decode cX10_call 86 = .ok (.istore 4, 2) := by decide +kernel
theorem dX10_call_88 : decode cX10_call 88 = .ok (.aload_n 0, 1) := by decide +kernel
theorem dX10_call_89 : decode cX10_call 89 = .ok (.aload_n 0, 1) := by decide +kernel
theorem dX10_call_90 : decode cX10_call 90 = .ok (.aload_n 0, 1) := by decide +kernel
theorem dX10_call_91 : decode cX10_call 91 = .ok (.getfield 162, 3) := by decide +kernel
theorem dX10_call_94 : decode cX10_call 94 = .ok (.aload_n 0, 1) := by decide +kernel
theorem dX10_call_95 : decode cX10_call 95 = .ok (.getfield 165, 3) := by decide +kernel
theorem dX10_call_98 : decode cX10_call 98 = .ok (.iload 4, 2) := by decide +kernel
theorem dX10_call_100 : decode cX10_call 100 = .ok (.invokevirtual 184, 3) := by decide +kernel
theorem dX10_call_103 : decode cX10_call 103 = .ok (.putfield 171, 3) := by decide +kernel
theorem dX10_call_106 : decode cX10_call 106 = .ok (.aload_n 0, 1) := by decide +kernel
theorem dX10_call_107 : decode cX10_call 107 = .ok (.getfield 13, 3) := by decide +kernel
theorem dX10_call_110 : decode cX10_call 110 = .ok (.iload_n 3, 1) := by decide +kernel
theorem dX10_call_111 : decode cX10_call 111 = .ok (.iaload, 1) := by decide +kernel
theorem dX10_call_112 : decode cX10_call 112 = .ok (.ireturn, 1) := by decide +kernel
theorem dX10_goOn_0 : decode cX10_goOn 0 = .ok (.aload_n 0, 1) := by decide +kernel
theorem dX10_goOn_1 : decode cX10_goOn 1 = .ok (.getfield 159, 3) := by decide +kernel
theorem dX10_goOn_4 : decode cX10_goOn 4 = .ok (.istore_n 1, 1) := by decide +kernel
theorem dX10_goOn_5 : decode cX10_goOn 5 = .ok (.aload_n 0, 1) := by decide +kernel
theorem dX10_goOn_6 : decode cX10_goOn 6 = .ok (.getfield 49, 3) := by decide +kernel
theorem dX10_goOn_9 : decode cX10_goOn 9 = .ok (.iload_n 1, 1) := by decide +kernel
theorem dX10_goOn_10 : decode cX10_goOn 10 = .ok (.iaload, 1) := by decide +kernel
theorem dX10_goOn_11 : decode cX10_goOn 11 = .ok (.istore_n 2, 1) := by decide +kernel
theorem dX10_goOn_12 : decode cX10_goOn 12 = .ok (.aload_n 0, 1) := by decide +kernel
theorem dX10_goOn_13 : decode cX10_goOn 13 = .ok (.getfield 46, 3) := by decide +kernel
theorem dX10_goOn_16 : decode cX10_goOn 16 = .ok (.iload_n 1, 1) := by decide +kernel
theorem dX10_goOn_17 : decode cX10_goOn 17 = .ok (.iaload, 1) := by decide +kernel
theorem dX10_goOn_18 : decode cX10_goOn 18 = .ok (.istore_n 3, 1) := by decide +kernel
theorem dX10_goOn_19 : decode cX10_goOn 19 = .ok (.aload_n 0, 1) := by decide +kernel
theorem dX10_goOn_20 : decode cX10_goOn 20 = .ok (.getfield 55, 3) := by decide +kernel
theorem dX10_goOn_23 : decode cX10_goOn 23 = .ok (.iload_n 1, 1) := by decide +kernel
theorem dX10_goOn_24 : decode cX10_goOn 24 = .ok (.iaload, 1) := by decide +kernel
theorem dX10_goOn_25 : decode cX10_goOn 25 = .ok (.iconst (-1), 1) := by decide +kernel
theorem dX10_goOn_26 : decode cX10_goOn 26 = .ok (.if_icmp .ne 7, 3) := by decide +kernel
theorem dX10_goOn_29 : decode cX10_goOn 29 = .ok (.iconst 1, 1) := by decide +kernel
theorem dX10_goOn_30 : decode cX10_goOn 30 = .ok (.goto 4, 3) := by decide +kernel
theorem dX10_goOn_33 : decode cX10_goOn 33 = .ok (.iconst 0, 1) := by decide +kernel
theorem dX10_goOn_34 : decode cX10_goOn 34 = .ok (.istore 4, 2) := by decide +kernel
theorem dX10_goOn_36 : decode cX10_goOn 36 = .ok (.aload_n 0, 1) := by decide +kernel
theorem dX10_goOn_37 : decode cX10_goOn 37 = .ok (.aload_n 0, 1) := by decide +kernel
theorem dX10_goOn_38 : decode cX10_goOn 38 = .ok (.getfield 61, 3) := by decide +kernel
theorem dX10_goOn_41 : decode cX10_goOn 41 = .ok (.iload_n 1, 1) := by decide +kernel
theorem dX10_goOn_42 : decode cX10_goOn 42 = .ok (.iaload, 1) := by decide +kernel
theorem dX10_goOn_43 : decode cX10_goOn 43 = .ok (.putfield 159, 3) := by decide +kernel
theorem dX10_goOn_46 : decode cX10_goOn 46 = .ok (.aload_n 0, 1) := by decide +kernel
theorem dX10_goOn_47 : decode cX10_goOn 47 = .ok (.aload_n 0, 1) := by decide +kernel
theorem dX10_goOn_48 : decode cX10_goOn 48 = .ok (.getfield 52, 3) := by decide +kernel
theorem dX10_goOn_51 : decode cX10_goOn 51 = .ok (.iload_n 1, 1) := by decide +kernel
theorem dX10_goOn_52 : decode cX10_goOn 52 = .ok (.iaload, 1) := by decide +kernel
theorem dX10_goOn_53 : decode cX10_goOn 53 = .ok (.putfield 171, 3) := by decide +kernel
theorem dX10_goOn_56 : decode cX10_goOn 56 = .ok (.iload_n 3, 1) := by decide +kernel
theorem dX10_goOn_57 : decode cX10_goOn 57 = .ok (.bipush 7, 2) := by decide +kernel
theorem dX10_goOn_59 : decode cX10_goOn 59 = .ok (.if_icmp .ne 44, 3) := by decide +kernel
theorem dX10_goOn_62 : decode cX10_goOn 62 = .ok (.aload_n 0, 1) := by decide +kernel
theorem dX10_goOn_63 : decode cX10_goOn 63 = .ok (.aload_n 0, 1) := by decide +kernel
theorem dX10_goOn_64 : decode cX10_goOn 64 = .ok (.getfield 162, 3) := by decide +kernel
theorem dX10_goOn_67 : decode cX10_goOn 67 = .ok (.iconst 1, 1) := by decide +kernel
theorem dX10_goOn_68 : decode cX10_goOn 68 = .ok (.if_icmp .eq 7, 3) := by decide +kernel
theorem dX10_goOn_71 : decode cX10_goOn 71 = .ok (.iconst 1, 1) := by decide +kernel
theorem dX10_goOn_72 : decode cX10_goOn 72 = .ok (.goto 4, 3) := by decide +kernel
theorem dX10_goOn_75 : decode cX10_goOn 75 = .ok (.iconst 0, 1) := by decide +kernel
theorem dX10_goOn_76 : decode cX10_goOn 76 = .ok (.putfield 192, 3) := by decide +kernel
theorem dX10_goOn_79 : decode cX10_goOn 79 = .ok (.aload_n 0, 1) := by decide +kernel
theorem dX10_goOn_80 : decode cX10_goOn 80 = .ok (.getfield 165, 3) := by decide +kernel
theorem dX10_goOn_83 : decode cX10_goOn 83 = .ok (.iconst 1, 1) := by decide +kernel
theorem dX10_goOn_84 : decode cX10_goOn 84 = .ok (.if_icmp .ne 12, 3) := by decide +kernel
theorem dX10_goOn_87 : decode cX10_goOn 87 = .ok (.aload_n 0, 1) := by decide +kernel
theorem dX10_goOn_88 : decode cX10_goOn 88 = .ok (.getfield 16, 3) := by decide +kernel
theorem dX10_goOn_91 : decode cX10_goOn 91 = .ok (.iload_n 2, 1) := by decide +kernel
theorem dX10_goOn_92 : decode cX10_goOn 92 = .ok (.iaload, 1) := by decide +kernel
theorem dX10_goOn_93 : decode cX10_goOn 93 = .ok (.goto 9, 3) := by decide +kernel
theorem dX10_goOn_96 : decode cX10_goOn 96 = .ok (.aload_n 0, 1) := by decide +kernel
theorem dX10_goOn_97 : decode cX10_goOn 97 = .ok (.getfield 19, 3) := by decide +kernel
theorem dX10_goOn_100 : decode cX10_goOn 100 = .ok (.iload_n 2, 1) := by decide +kernel
theorem dX10_goOn_101 : decode cX10_goOn 101 = .ok (.iaload, 1) := by decide +kernel
theorem dX10_goOn_102 : decode cX10_goOn 102 = .ok (.ireturn, 1) := by decide +kernel
theorem dX10_goOn_103 : decode cX10_goOn 103 = .ok (.iload_n 3, 1) := by decide +kernel
theorem dX10_goOn_104 : decode cX10_goOn 104 = .ok (.bipush 8, 2) := by decide +kernel
theorem dX10_goOn_106 : decode cX10_goOn 106 = .ok (.if_icmp .ne 32, 3) := by decide +kernel
theorem dX10_goOn_109 : decode cX10_goOn 109 = .ok (.aload_n 0, 1) := by decide +kernel
theorem dX10_goOn_110 : decode cX10_goOn 110 = .ok (.aload_n 0, 1) := by decide +kernel
theorem dX10_goOn_111 : decode cX10_goOn 111 = .ok (.aload_n 0, 1) := by decide +kernel
theorem dX10_goOn_112 : decode cX10_goOn 112 = .ok (.getfield 162, 3) := by decide +kernel
theorem dX10_goOn_115 : decode cX10_goOn 115 = .ok (.aload_n 0, 1) := by decide +kernel
theorem dX10_goOn_116 : decode cX10_goOn 116 = .ok (.getfield 165, 3) := by decide +kernel
theorem dX10_goOn_119 : decode cX10_goOn 119 = .ok (.aload_n 0, 1) := by decide +kernel
theorem dX10_goOn_120 : decode cX10_goOn 120 = .ok (.getfield 52, 3) := by decide +kernel
theorem dX10_goOn_123 : decode cX10_goOn 123 = .ok (.iload_n 1, 1) := by decide +kernel
theorem dX10_goOn_124 : decode cX10_goOn 124 = .ok (.iaload, 1) := by decide +kernel
theorem dX10_goOn_125 : decode cX10_goOn 125 = .ok (.invokevirtual 184, 3) := by decide +kernel
theorem dX10_goOn_128 : decode cX10_goOn 128 = .ok (.putfield 171, 3) := by decide +kernel
theorem dX10_goOn_131 : decode cX10_goOn 131 = .ok (.aload_n 0, 1) := by decide +kernel
theorem dX10_goOn_132 : decode cX10_goOn 132 = .ok (.getfield 16, 3) := by decide +kernel
theorem dX10_goOn_135 : decode cX10_goOn 135 = .ok (.iload_n 2, 1) := by decide +kernel
theorem dX10_goOn_136 : decode cX10_goOn 136 = .ok (.iaload, 1) := by decide +kernel
theorem dX10_goOn_137 : decode cX10_goOn 137 = .ok (.ireturn, 1) := by decide +kernel
theorem dX10_goOn_138 : decode cX10_goOn 138 = .ok (.iload 4, 2) := by decide +kernel
theorem dX10_goOn_140 : decode cX10_goOn 140 = .ok (.ifCond .eq 30, 3) := by decide +kernel
theorem dX10_goOn_143 : decode cX10_goOn 143 = .ok (.aload_n 0, 1) := by decide +kernel
theorem dX10_goOn_144 : decode cX10_goOn 144 = .ok (.iload_n 3, 1) := by decide +kernel
theorem dX10_goOn_145 : decode cX10_goOn 145 = .ok (.iload_n 2, 1) := by decide +kernel
theorem dX10_goOn_146 : decode cX10_goOn 146 = .ok (.aload_n 0, 1) := by decide +kernel
theorem dX10_goOn_147 : decode cX10_goOn 147 = .ok (.getfield 52, 3) := by decide +kernel
theorem dX10_goOn_150 : decode cX10_goOn 150 = .ok (.iload_n 1, 1) := by decide +kernel
theorem dX10_goOn_151 : decode cX10_goOn 151 = .ok (.iaload, 1) := by decide +kernel
theorem dX10_goOn_152 : decode cX10_goOn 152 = .ok (.aload_n 0, 1) := by decide +kernel
theorem dX10_goOn_153 : decode cX10_goOn 153 = .ok (.getfield 162, 3) := by decide +kernel
theorem dX10_goOn_156 : decode cX10_goOn 156 = .ok (.aload_n 0, 1) := by decide +kernel
theorem dX10_goOn_157 : decode cX10_goOn 157 = .ok (.getfield 165, 3) := by decide +kernel
theorem dX10_goOn_160 : decode cX10_goOn 160 = .ok (.invokevirtual 188, 3) := by decide +kernel
theorem dX10_goOn_163 : decode cX10_goOn 163 = .ok (.aload_n 0, 1) := by decide +kernel
theorem dX10_goOn_164 : decode cX10_goOn 164 = .ok (.getfield 16, 3) := by decide +kernel
theorem dX10_goOn_167 : decode cX10_goOn 167 = .ok (.iload_n 2, 1) := by decide +kernel
theorem dX10_goOn_168 : decode cX10_goOn 168 = .ok (.iaload, 1) := by decide +kernel
theorem dX10_goOn_169 : decode cX10_goOn 169 = .ok (.ireturn, 1) := by decide +kernel
theorem dX10_goOn_170 : decode cX10_goOn 170 = .ok (.iload_n 3, 1) := by decide +kernel
theorem dX10_goOn_171 : decode cX10_goOn 171 = .ok (.iconst 4, 1) := by decide +kernel
theorem dX10_goOn_172 : decode cX10_goOn 172 = .ok (.if_icmp .ne 20, 3) := by decide +kernel
theorem dX10_goOn_175 : decode cX10_goOn 175 = .ok (.aload_n 0, 1) := by decide +kernel
theorem dX10_goOn_176 : decode cX10_goOn 176 = .ok (.aload_n 0, 1) := by decide +kernel
theorem dX10_goOn_177 : decode cX10_goOn 177 = .ok (.getfield 55, 3) := by decide +kernel
theorem dX10_goOn_180 : decode cX10_goOn 180 = .ok (.iload_n 1, 1) := by decide +kernel
theorem dX10_goOn_181 : decode cX10_goOn 181 = .ok (.iaload, 1) := by decide +kernel
theorem dX10_goOn_182 : decode cX10_goOn 182 = .ok (.aload_n 0, 1) := by decide +kernel
theorem dX10_goOn_183 : decode cX10_goOn 183 = .ok (.getfield 58, 3) := by decide +kernel
theorem dX10_goOn_186 : decode cX10_goOn 186 = .ok (.iload_n 1, 1) := by decide +kernel
theorem dX10_goOn_187 : decode cX10_goOn 187 = .ok (.iaload, 1) := by decide +kernel
theorem dX10_goOn_188 : decode cX10_goOn 188 = .ok (.invokevirtual 196, 3) := by decide +kernel
theorem dX10_goOn_191 : decode cX10_goOn 191 = .ok (.ireturn, 1) := by decide +kernel
theorem dX10_goOn_192 : decode cX10_goOn 192 = .ok (.aload_n 0, 1) := by decide +kernel
theorem dX10_goOn_193 : decode cX10_goOn 193 = .ok (.aload_n 0, 1) := by decide +kernel
theorem dX10_goOn_194 : decode cX10_goOn 194 = .ok (.getfield 55, 3) := by decide +kernel
theorem dX10_goOn_197 : decode cX10_goOn 197 = .ok (.iload_n 1, 1) := by decide +kernel
theorem dX10_goOn_198 : decode cX10_goOn 198 = .ok (.iaload, 1) := by decide +kernel
theorem dX10_goOn_199 : decode cX10_goOn 199 = .ok (.ifCond .ne 10, 3) := by decide +kernel
theorem dX10_goOn_202 : decode cX10_goOn 202 = .ok (.aload_n 0, 1) := by decide +kernel
theorem dX10_goOn_203 : decode cX10_goOn 203 = .ok (.getfield 162, 3) := by decide +kernel
theorem dX10_goOn_206 : decode cX10_goOn 206 = .ok (.ifCond .eq 7, 3) := by decide +kernel
theorem dX10_goOn_209 : decode cX10_goOn 209 = .ok (.iconst 1, 1) := by decide +kernel
theorem dX10_goOn_210 : decode cX10_goOn 210 = .ok (.goto 4, 3) := by decide +kernel
theorem dX10_goOn_213 : decode cX10_goOn 213 = .ok (.iconst 0, 1) := by decide +kernel
theorem dX10_goOn_214 : decode cX10_goOn 214 = .ok (.putfield 192, 3) := by decide +kernel
theorem dX10_goOn_217 : decode cX10_goOn 217 = .ok (.iload_n 3, 1) := by decide +kernel
theorem dX10_goOn_218 : decode cX10_goOn 218 = .ok (.iconst 5, 1) := by decide +kernel
theorem dX10_goOn_219 : decode cX10_goOn 219 = .ok (.if_icmp .ne 22, 3) := by decide +kernel
theorem dX10_goOn_222 : decode cX10_goOn 222 = .ok (.aload_n 0, 1) := by decide +kernel
theorem dX10_goOn_223 : decode cX10_goOn 223 = .ok (.iconst 0, 1) := by decide +kernel
theorem dX10_goOn_224 : decode cX10_goOn 224 = .ok (.aload_n 0, 1) := by decide +kernel
theorem dX10_goOn_225 : decode cX10_goOn 225 = .ok (.getfield 58, 3) := by decide +kernel
theorem dX10_goOn_228 : decode cX10_goOn 228 = .ok (.iload_n 1, 1) := by decide +kernel
theorem dX10_goOn_229 : decode cX10_goOn 229 = .ok (.iaload, 1) := by decide +kernel
theorem dX10_goOn_230 : decode cX10_goOn 230 = .ok (.aload_n 0, 1) := by decide +kernel
theorem dX10_goOn_231 : decode cX10_goOn 231 = .ok (.getfield 165, 3) := by decide +kernel
theorem dX10_goOn_234 : decode cX10_goOn 234 = .ok (.iadd, 1) := by decide +kernel
theorem dX10_goOn_235 : decode cX10_goOn 235 = .ok (.invokevirtual 174, 3) := by decide +kernel
theorem dX10_goOn_238 : decode cX10_goOn 238 = .ok (.goto 26, 3) := by decide +kernel
theorem dX10_goOn_241 : decode cX10_goOn 241 = .ok (.aload_n 0, 1) := by decide +kernel
theorem dX10_goOn_242 : decode cX10_goOn 242 = .ok (.iconst 1, 1) := by decide +kernel
theorem dX10_goOn_243 : decode cX10_goOn 243 = .ok (.aload_n 0, 1) := by decide +kernel
theorem dX10_goOn_244 : decode cX10_goOn 244 = .ok (.getfield 58, 3) := by decide +kernel
theorem dX10_goOn_247 : decode cX10_goOn 247 = .ok (.iload_n 1, 1) := by decide +kernel
theorem dX10_goOn_248 : decode cX10_goOn 248 = .ok (.iaload, 1) := by decide +kernel
theorem dX10_goOn_249 : decode cX10_goOn 249 = .ok (.aload_n 0, 1) := by decide +kernel
theorem dX10_goOn_250 : decode cX10_goOn 250 = .ok (.getfield 165, 3) := by decide +kernel
theorem dX10_goOn_253 : decode cX10_goOn 253 = .ok (.if_icmp .ge 7, 3) := by decide +kernel
theorem dX10_goOn_256 : decode cX10_goOn 256 = .ok (.iconst 1, 1) := by decide +kernel
theorem dX10_goOn_257 : decode cX10_goOn 257 = .ok (.goto 4, 3) := by decide +kernel
theorem dX10_goOn_260 : decode cX10_goOn 260 = .ok (.iconst 0, 1) := by decide +kernel
theorem dX10_goOn_261 : decode cX10_goOn 261 = .ok (.invokevirtual 174, 3) := by decide +kernel
theorem dX10_goOn_264 : decode cX10_goOn 264 = .ok (.iconst (-1), 1) := by decide +kernel
theorem dX10_goOn_265 : decode cX10_goOn 265 = .ok (.ireturn, 1) := by decide +kernel
theorem dX10_run_0 : decode cX10_run 0 = .ok (.aload_n 0, 1) := by decide +kernel
theorem dX10_run_1 : decode cX10_run 1 = .ok (.iconst 0, 1) := by decide +kernel
theorem dX10_run_2 : decode cX10_run 2 = .ok (.putfield 153, 3) := by decide +kernel
theorem dX10_run_5 : decode cX10_run 5 = .ok (.aload_n 0, 1) := by decide +kernel
theorem dX10_run_6 : decode cX10_run 6 = .ok (.iconst 0, 1) := by decide +kernel
theorem dX10_run_7 : decode cX10_run 7 = .ok (.putfield 168, 3) := by decide +kernel
theorem dX10_run_10 : decode cX10_run 10 = .ok (.aload_n 0, 1) := by decide +kernel
theorem dX10_run_11 : decode cX10_run 11 = .ok (.iconst 0, 1) := by decide +kernel
theorem dX10_run_12 : decode cX10_run 12 = .ok (.putfield 156, 3) := by decide +kernel
theorem dX10_run_15 : decode cX10_run 15 = .ok (.aload_n 0, 1) := by decide +kernel
theorem dX10_run_16 : decode cX10_run 16 = .ok (.iconst 0, 1) := by decide +kernel
theorem dX10_run_17 : decode cX10_run 17 = .ok (.putfield 181, 3) := by decide +kernel
theorem dX10_run_20 : decode cX10_run 20 = .ok (.aload_n 0, 1) := by decide +kernel
theorem dX10_run_21 : decode cX10_run 21 = .ok (.iconst 0, 1) := by decide +kernel
theorem dX10_run_22 : decode cX10_run 22 = .ok (.putfield 159, 3) := by decide +kernel
theorem dX10_run_25 : decode cX10_run 25 = .ok (.aload_n 0, 1) := by decide +kernel
theorem dX10_run_26 : decode cX10_run 26 = .ok (.iconst 0, 1) := by decide +kernel
theorem dX10_run_27 : decode cX10_run 27 = .ok (.putfield 192, 3) := by decide +kernel
theorem dX10_run_30 : decode cX10_run 30 = .ok (.aload_n 0, 1) := by decide +kernel
theorem dX10_run_31 : decode cX10_run 31 = .ok (.iconst 0, 1) := by decide +kernel
theorem dX10_run_32 : decode cX10_run 32 = .ok (.putfield 171, 3) := by decide +kernel
theorem dX10_run_35 : decode cX10_run 35 = .ok (.iconst 0, 1) := by decide +kernel
theorem dX10_run_36 : decode cX10_run 36 = .ok (.istore_n 3, 1) := by decide +kernel
theorem dX10_run_37 : decode cX10_run 37 = .ok (.iload_n 1, 1) := by decide +kernel
theorem dX10_run_38 : decode cX10_run 38 = .ok (.istore 4, 2) := by decide +kernel
theorem dX10_run_40 : decode cX10_run 40 = .ok (.iconst 1, 1) := by decide +kernel
theorem dX10_run_41 : decode cX10_run 41 = .ok (.istore 5, 2) := by decide +kernel
theorem dX10_run_43 : decode cX10_run 43 = .ok (.iload 5, 2) := by decide +kernel
theorem dX10_run_45 : decode cX10_run 45 = .ok (.ifCond .eq 106, 3) := by decide +kernel
theorem dX10_run_48 : decode cX10_run 48 = .ok (.iload 4, 2) := by decide +kernel
theorem dX10_run_50 : decode cX10_run 50 = .ok (.ifCond .lt 29, 3) := by decide +kernel
theorem dX10_run_53 : decode cX10_run 53 = .ok (.iload_n 3, 1) := by decide +kernel
theorem dX10_run_54 : decode cX10_run 54 = .ok (.iload_n 2, 1) := by decide +kernel
theorem dX10_run_55 : decode cX10_run 55 = .ok (.if_icmp .ne 6, 3) := by decide +kernel
theorem dX10_run_58 : decode cX10_run 58 = .ok (.bipush (-2), 2) := by decide +kernel
theorem dX10_run_60 : decode cX10_run 60 = .ok (.ireturn, 1) := by decide +kernel
theorem dX10_run_61 : decode cX10_run 61 = .ok (.iinc 3 1, 3) := by decide +kernel
theorem dX10_run_64 : decode cX10_run 64 = .ok (.aload_n 0, 1) := by decide +kernel
theorem dX10_run_65 : decode cX10_run 65 = .ok (.iload 4, 2) := by decide +kernel
theorem dX10_run_67 : decode cX10_run 67 = .ok (.aload_n 0, 1) := by decide +kernel
theorem dX10_run_68 : decode cX10_run 68 = .ok (.getfield 171, 3) := by decide +kernel
theorem dX10_run_71 : decode cX10_run 71 = .ok (.invokevirtual 199, 3) := by decide +kernel
theorem dX10_run_74 : decode cX10_run 74 = .ok (.istore 4, 2) := by decide +kernel
theorem dX10_run_76 : decode cX10_run 76 = .ok (.goto (-33), 3) := by decide +kernel
theorem dX10_run_79 : decode cX10_run 79 = .ok (.aload_n 0, 1) := by decide +kernel
theorem dX10_run_80 : decode cX10_run 80 = .ok (.getfield 159, 3) := by decide +kernel
theorem dX10_run_83 : decode cX10_run 83 = .ok (.ifCond .le 29, 3) := by decide +kernel
theorem dX10_run_86 : decode cX10_run 86 = .ok (.iload_n 3, 1) := by decide +kernel
theorem dX10_run_87 : decode cX10_run 87 = .ok (.iload_n 2, 1) := by decide +kernel
theorem dX10_run_88 : decode cX10_run 88 = .ok (.if_icmp .ne 6, 3) := by decide +kernel
theorem dX10_run_91 : decode cX10_run 91 = .ok (.bipush (-2), 2) := by decide +kernel
theorem dX10_run_93 : decode cX10_run 93 = .ok (.ireturn, 1) := by decide +kernel
theorem dX10_run_94 : decode cX10_run 94 = .ok (.iinc 3 1, 3) := by decide +kernel
theorem dX10_run_97 : decode cX10_run 97 = .ok (.aload_n 0, 1) := by decide +kernel
theorem dX10_run_98 : decode cX10_run 98 = .ok (.invokevirtual 202, 3) := by decide +kernel
theorem dX10_run_101 : decode cX10_run 101 = .ok (.istore 4, 2) := by decide +kernel
theorem dX10_run_103 : decode cX10_run 103 = .ok (.aload_n 0, 1) := by decide +kernel
theorem dX10_run_104 : decode cX10_run 104 = .ok (.getfield 192, 3) := by decide +kernel
theorem dX10_run_107 : decode cX10_run 107 = .ok (.ifCond .eq (-64), 3) := by decide +kernel
theorem dX10_run_110 : decode cX10_run 110 = .ok (.iconst (-1), 1) := by decide +kernel
theorem dX10_run_111 : decode cX10_run 111 = .ok (.ireturn, 1) := by decide +kernel
theorem dX10_run_112 : decode cX10_run 112 = .ok (.aload_n 0, 1) := by decide +kernel
theorem dX10_run_113 : decode cX10_run 113 = .ok (.getfield 181, 3) := by decide +kernel
theorem dX10_run_116 : decode cX10_run 116 = .ok (.ifCond .le 29, 3) := by decide +kernel
theorem dX10_run_119 : decode cX10_run 119 = .ok (.aload_n 0, 1) := by decide +kernel
theorem dX10_run_120 : decode cX10_run 120 = .ok (.dup, 1) := by decide +kernel
theorem dX10_run_121 : decode cX10_run 121 = .ok (.getfield 181, 3) := by decide +kernel
theorem dX10_run_124 : decode cX10_run 124 = .ok (.iconst 1, 1) := by decide +kernel
theorem dX10_run_125 : decode cX10_run 125 = .ok (.isub, 1) := by decide +kernel
theorem dX10_run_126 : decode cX10_run 126 = .ok (.putfield 181, 3) := by decide +kernel
theorem dX10_run_129 : decode cX10_run 129 = .ok (.aload_n 0, 1) := by decide +kernel
theorem dX10_run_130 : decode cX10_run 130 = .ok (.aload_n 0, 1) := by decide +kernel
theorem dX10_run_131 : decode cX10_run 131 = .ok (.getfield 64, 3) := by decide +kernel
theorem dX10_run_134 : decode cX10_run 134 = .ok (.aload_n 0, 1) := by decide +kernel
theorem dX10_run_135 : decode cX10_run 135 = .ok (.getfield 181, 3) := by decide +kernel
theorem dX10_run_138 : decode cX10_run 138 = .ok (.iaload, 1) := by decide +kernel
theorem dX10_run_139 : decode cX10_run 139 = .ok (.putfield 159, 3) := by decide +kernel
theorem dX10_run_142 : decode cX10_run 142 = .ok (.goto (-99), 3) := by decide +kernel
theorem dX10_run_145 : decode cX10_run 145 = .ok (.iconst 0, 1) := by decide +kernel
theorem dX10_run_146 : decode cX10_run 146 = .ok (.istore 5, 2) := by decide +kernel
theorem dX10_run_148 : decode cX10_run 148 = .ok (.goto (-105), 3) := by decide +kernel
theorem dX10_run_151 : decode cX10_run 151 = .ok (.iload_n 3, 1) := by decide +kernel
theorem dX10_run_152 : decode cX10_run 152 = .ok (.ireturn, 1) := by decide +kernel
theorem dX10_work_0 : decode cX10_work 0 = .ok (.aload_n 0, 1) := by decide +kernel
theorem dX10_work_1 : decode cX10_work 1 = .ok (.iconst 0, 1) := by decide +kernel
theorem dX10_work_2 : decode cX10_work 2 = .ok (.putfield 117, 3) := by decide +kernel
theorem dX10_work_5 : decode cX10_work 5 = .ok (.aload_n 0, 1) := by decide +kernel
theorem dX10_work_6 : decode cX10_work 6 = .ok (.iload_n 1, 1) := by decide +kernel
theorem dX10_work_7 : decode cX10_work 7 = .ok (.invokevirtual 127, 3) := by decide +kernel
theorem dX10_work_10 : decode cX10_work 10 = .ok (.ifCond .eq 12, 3) := by decide +kernel
theorem dX10_work_13 : decode cX10_work 13 = .ok (.aload_n 0, 1) := by decide +kernel
theorem dX10_work_14 : decode cX10_work 14 = .ok (.getfield 28, 3) := by decide +kernel
theorem dX10_work_17 : decode cX10_work 17 = .ok (.iload_n 1, 1) := by decide +kernel
theorem dX10_work_18 : decode cX10_work 18 = .ok (.iaload, 1) := by decide +kernel
theorem dX10_work_19 : decode cX10_work 19 = .ok (.ifCond .le 9, 3) := by decide +kernel
theorem dX10_work_22 : decode cX10_work 22 = .ok (.aload_n 0, 1) := by decide +kernel
theorem dX10_work_23 : decode cX10_work 23 = .ok (.iconst 1, 1) := by decide +kernel
theorem dX10_work_24 : decode cX10_work 24 = .ok (.invokevirtual 138, 3) := by decide +kernel
theorem dX10_work_27 : decode cX10_work 27 = .ok (.ireturn, 1) := by decide +kernel
theorem dX10_work_28 : decode cX10_work 28 = .ok (.iload_n 2, 1) := by decide +kernel
theorem dX10_work_29 : decode cX10_work 29 = .ok (.iconst 1, 1) := by decide +kernel
theorem dX10_work_30 : decode cX10_work 30 = .ok (.sipush 200, 3) := by decide +kernel
theorem dX10_work_33 : decode cX10_work 33 = .ok (.invokestatic 123, 3) := by decide +kernel
theorem dX10_work_36 : decode cX10_work 36 = .ok (.ifCond .ne 9, 3) := by decide +kernel
theorem dX10_work_39 : decode cX10_work 39 = .ok (.aload_n 0, 1) := by decide +kernel
theorem dX10_work_40 : decode cX10_work 40 = .ok (.iconst 2, 1) := by decide +kernel
theorem dX10_work_41 : decode cX10_work 41 = .ok (.invokevirtual 138, 3) := by decide +kernel
theorem dX10_work_44 : decode cX10_work 44 = .ok (.ireturn, 1) := by decide +kernel
theorem dX10_work_45 : decode cX10_work 45 = .ok (.aload_n 0, 1) := by decide +kernel
theorem dX10_work_46 : decode cX10_work 46 = .ok (.iload_n 1, 1) := by decide +kernel
theorem dX10_work_47 : decode cX10_work 47 = .ok (.iload_n 2, 1) := by decide +kernel
theorem dX10_work_48 : decode cX10_work 48 = .ok (.invokevirtual 206, 3) := by decide +kernel
theorem dX10_work_51 : decode cX10_work 51 = .ok (.istore_n 3, 1) := by decide +kernel
theorem dX10_work_52 : decode cX10_work 52 = .ok (.iload_n 3, 1) := by decide +kernel
theorem dX10_work_53 : decode cX10_work 53 = .ok (.iconst (-1), 1) := by decide +kernel
theorem dX10_work_54 : decode cX10_work 54 = .ok (.if_icmp .ne 19, 3) := by decide +kernel
theorem dX10_work_57 : decode cX10_work 57 = .ok (.aload_n 0, 1) := by decide +kernel
theorem dX10_work_58 : decode cX10_work 58 = .ok (.dup, 1) := by decide +kernel
theorem dX10_work_59 : decode cX10_work 59 = .ok (.getfield 209, 3) := by decide +kernel
theorem dX10_work_62 : decode cX10_work 62 = .ok (.iconst 1, 1) := by decide +kernel
theorem dX10_work_63 : decode cX10_work 63 = .ok (.iadd, 1) := by decide +kernel
theorem dX10_work_64 : decode cX10_work 64 = .ok (.putfield 209, 3) := by decide +kernel
theorem dX10_work_67 : decode cX10_work 67 = .ok (.aload_n 0, 1) := by decide +kernel
theorem dX10_work_68 : decode cX10_work 68 = .ok (.iconst 3, 1) := by decide +kernel
theorem dX10_work_69 : decode cX10_work 69 = .ok (.invokevirtual 138, 3) := by decide +kernel
theorem dX10_work_72 : decode cX10_work 72 = .ok (.ireturn, 1) := by decide +kernel
theorem dX10_work_73 : decode cX10_work 73 = .ok (.iload_n 3, 1) := by decide +kernel
theorem dX10_work_74 : decode cX10_work 74 = .ok (.bipush (-2), 2) := by decide +kernel
theorem dX10_work_76 : decode cX10_work 76 = .ok (.if_icmp .ne 19, 3) := by decide +kernel
theorem dX10_work_79 : decode cX10_work 79 = .ok (.aload_n 0, 1) := by decide +kernel
theorem dX10_work_80 : decode cX10_work 80 = .ok (.dup, 1) := by decide +kernel
theorem dX10_work_81 : decode cX10_work 81 = .ok (.getfield 212, 3) := by decide +kernel
theorem dX10_work_84 : decode cX10_work 84 = .ok (.iconst 1, 1) := by decide +kernel
theorem dX10_work_85 : decode cX10_work 85 = .ok (.iadd, 1) := by decide +kernel
theorem dX10_work_86 : decode cX10_work 86 = .ok (.putfield 212, 3) := by decide +kernel
theorem dX10_work_89 : decode cX10_work 89 = .ok (.aload_n 0, 1) := by decide +kernel
theorem dX10_work_90 : decode cX10_work 90 = .ok (.iconst 4, 1) := by decide +kernel
theorem dX10_work_91 : decode cX10_work 91 = .ok (.invokevirtual 138, 3) := by decide +kernel
theorem dX10_work_94 : decode cX10_work 94 = .ok (.ireturn, 1) := by decide +kernel
theorem dX10_work_95 : decode cX10_work 95 = .ok (.aload_n 0, 1) := by decide +kernel
theorem dX10_work_96 : decode cX10_work 96 = .ok (.aload_n 0, 1) := by decide +kernel
theorem dX10_work_97 : decode cX10_work 97 = .ok (.getfield 162, 3) := by decide +kernel
theorem dX10_work_100 : decode cX10_work 100 = .ok (.iconst 2, 1) := by decide +kernel
theorem dX10_work_101 : decode cX10_work 101 = .ok (.if_icmp .le 7, 3) := by decide +kernel
theorem dX10_work_104 : decode cX10_work 104 = .ok (.iconst 2, 1) := by decide +kernel
theorem dX10_work_105 : decode cX10_work 105 = .ok (.goto 7, 3) := by decide +kernel
theorem dX10_work_108 : decode cX10_work 108 = .ok (.aload_n 0, 1) := by decide +kernel
theorem dX10_work_109 : decode cX10_work 109 = .ok (.getfield 162, 3) := by decide +kernel
theorem dX10_work_112 : decode cX10_work 112 = .ok (.putfield 215, 3) := by decide +kernel
theorem dX10_work_115 : decode cX10_work 115 = .ok (.aload_n 0, 1) := by decide +kernel
theorem dX10_work_116 : decode cX10_work 116 = .ok (.aload_n 0, 1) := by decide +kernel
theorem dX10_work_117 : decode cX10_work 117 = .ok (.getfield 165, 3) := by decide +kernel
theorem dX10_work_120 : decode cX10_work 120 = .ok (.putfield 218, 3) := by decide +kernel
theorem dX10_work_123 : decode cX10_work 123 = .ok (.aload_n 0, 1) := by decide +kernel
theorem dX10_work_124 : decode cX10_work 124 = .ok (.iload_n 3, 1) := by decide +kernel
theorem dX10_work_125 : decode cX10_work 125 = .ok (.putfield 221, 3) := by decide +kernel
theorem dX10_work_128 : decode cX10_work 128 = .ok (.aload_n 0, 1) := by decide +kernel
theorem dX10_work_129 : decode cX10_work 129 = .ok (.dup, 1) := by decide +kernel
theorem dX10_work_130 : decode cX10_work 130 = .ok (.getfield 224, 3) := by decide +kernel
theorem dX10_work_133 : decode cX10_work 133 = .ok (.iconst 1, 1) := by decide +kernel
theorem dX10_work_134 : decode cX10_work 134 = .ok (.iadd, 1) := by decide +kernel
theorem dX10_work_135 : decode cX10_work 135 = .ok (.putfield 224, 3) := by decide +kernel
theorem dX10_work_138 : decode cX10_work 138 = .ok (.aload_n 0, 1) := by decide +kernel
theorem dX10_work_139 : decode cX10_work 139 = .ok (.dup, 1) := by decide +kernel
theorem dX10_work_140 : decode cX10_work 140 = .ok (.getfield 227, 3) := by decide +kernel
theorem dX10_work_143 : decode cX10_work 143 = .ok (.iload_n 3, 1) := by decide +kernel
theorem dX10_work_144 : decode cX10_work 144 = .ok (.iadd, 1) := by decide +kernel
theorem dX10_work_145 : decode cX10_work 145 = .ok (.putfield 227, 3) := by decide +kernel
theorem dX10_work_148 : decode cX10_work 148 = .ok (.aload_n 0, 1) := by decide +kernel
theorem dX10_work_149 : decode cX10_work 149 = .ok (.getfield 215, 3) := by decide +kernel
theorem dX10_work_152 : decode cX10_work 152 = .ok (.ireturn, 1) := by decide +kernel
theorem dX10_value_0 : decode cX10_value 0 = .ok (.aload_n 0, 1) := by decide +kernel
theorem dX10_value_1 : decode cX10_value 1 = .ok (.iconst 0, 1) := by decide +kernel
theorem dX10_value_2 : decode cX10_value 2 = .ok (.putfield 117, 3) := by decide +kernel
theorem dX10_value_5 : decode cX10_value 5 = .ok (.aload_n 0, 1) := by decide +kernel
theorem dX10_value_6 : decode cX10_value 6 = .ok (.getfield 224, 3) := by decide +kernel
theorem dX10_value_9 : decode cX10_value 9 = .ok (.ifCond .le 18, 3) := by decide +kernel
theorem dX10_value_12 : decode cX10_value 12 = .ok (.aload_n 0, 1) := by decide +kernel
theorem dX10_value_13 : decode cX10_value 13 = .ok (.getfield 215, 3) := by decide +kernel
theorem dX10_value_16 : decode cX10_value 16 = .ok (.iconst 2, 1) := by decide +kernel
theorem dX10_value_17 : decode cX10_value 17 = .ok (.if_icmp .ge 10, 3) := by decide +kernel
theorem dX10_value_20 : decode cX10_value 20 = .ok (.aload_n 0, 1) := by decide +kernel
theorem dX10_value_21 : decode cX10_value 21 = .ok (.getfield 218, 3) := by decide +kernel
theorem dX10_value_24 : decode cX10_value 24 = .ok (.goto 4, 3) := by decide +kernel
theorem dX10_value_27 : decode cX10_value 27 = .ok (.iconst 0, 1) := by decide +kernel
theorem dX10_value_28 : decode cX10_value 28 = .ok (.ireturn, 1) := by decide +kernel
theorem dX10_steps_0 : decode cX10_steps 0 = .ok (.aload_n 0, 1) := by decide +kernel
theorem dX10_steps_1 : decode cX10_steps 1 = .ok (.iconst 0, 1) := by decide +kernel
theorem dX10_steps_2 : decode cX10_steps 2 = .ok (.putfield 117, 3) := by decide +kernel
theorem dX10_steps_5 : decode cX10_steps 5 = .ok (.aload_n 0, 1) := by decide +kernel
theorem dX10_steps_6 : decode cX10_steps 6 = .ok (.getfield 221, 3) := by decide +kernel
theorem dX10_steps_9 : decode cX10_steps 9 = .ok (.ireturn, 1) := by decide +kernel
theorem dX10_cell_0 : decode cX10_cell 0 = .ok (.sipush 640, 3) := by decide +kernel
theorem dX10_cell_3 : decode cX10_cell 3 = .ok (.iconst 1, 1) := by decide +kernel
theorem dX10_cell_4 : decode cX10_cell 4 = .ok (.aload_n 0, 1) := by decide +kernel
theorem dX10_cell_5 : decode cX10_cell 5 = .ok (.getfield 230, 3) := by decide +kernel
theorem dX10_cell_8 : decode cX10_cell 8 = .ok (.isub, 1) := by decide +kernel
theorem dX10_cell_9 : decode cX10_cell 9 = .ok (.imul, 1) := by decide +kernel
theorem dX10_cell_10 : decode cX10_cell 10 = .ok (.aload_n 0, 1) := by decide +kernel
theorem dX10_cell_11 : decode cX10_cell 11 = .ok (.getfield 233, 3) := by decide +kernel
theorem dX10_cell_14 : decode cX10_cell 14 = .ok (.iadd, 1) := by decide +kernel
theorem dX10_cell_15 : decode cX10_cell 15 = .ok (.istore_n 2, 1) := by decide +kernel
theorem dX10_cell_16 : decode cX10_cell 16 = .ok (.aload_n 0, 1) := by decide +kernel
theorem dX10_cell_17 : decode cX10_cell 17 = .ok (.getfield 67, 3) := by decide +kernel
theorem dX10_cell_20 : decode cX10_cell 20 = .ok (.iload_n 2, 1) := by decide +kernel
theorem dX10_cell_21 : decode cX10_cell 21 = .ok (.iload_n 1, 1) := by decide +kernel
theorem dX10_cell_22 : decode cX10_cell 22 = .ok (.iastore, 1) := by decide +kernel
theorem dX10_cell_23 : decode cX10_cell 23 = .ok (.aload_n 0, 1) := by decide +kernel
theorem dX10_cell_24 : decode cX10_cell 24 = .ok (.getfield 70, 3) := by decide +kernel
theorem dX10_cell_27 : decode cX10_cell 27 = .ok (.iload_n 2, 1) := by decide +kernel
theorem dX10_cell_28 : decode cX10_cell 28 = .ok (.iconst (-1), 1) := by decide +kernel
theorem dX10_cell_29 : decode cX10_cell 29 = .ok (.iastore, 1) := by decide +kernel
theorem dX10_cell_30 : decode cX10_cell 30 = .ok (.aload_n 0, 1) := by decide +kernel
theorem dX10_cell_31 : decode cX10_cell 31 = .ok (.dup, 1) := by decide +kernel
theorem dX10_cell_32 : decode cX10_cell 32 = .ok (.getfield 233, 3) := by decide +kernel
theorem dX10_cell_35 : decode cX10_cell 35 = .ok (.iconst 1, 1) := by decide +kernel
theorem dX10_cell_36 : decode cX10_cell 36 = .ok (.iadd, 1) := by decide +kernel
theorem dX10_cell_37 : decode cX10_cell 37 = .ok (.putfield 233, 3) := by decide +kernel
theorem dX10_cell_40 : decode cX10_cell 40 = .ok (.iload_n 2, 1) := by decide +kernel
theorem dX10_cell_41 : decode cX10_cell 41 = .ok (.ireturn, 1) := by decide +kernel
theorem dX10_letterCell_0 : decode cX10_letterCell 0 = .ok (.aload_n 0, 1) := by decide +kernel
theorem dX10_letterCell_1 : decode cX10_letterCell 1 = .ok (.iconst 3, 1) := by decide +kernel
theorem dX10_letterCell_2 : decode cX10_letterCell 2 = .ok (.invokevirtual 236, 3) := by decide +kernel
theorem dX10_letterCell_5 : decode cX10_letterCell 5 = .ok (.ireturn, 1) := by decide +kernel
theorem dX10_functionCell_0 : decode cX10_functionCell 0 = .ok (.aload_n 0, 1) := by decide +kernel
theorem dX10_functionCell_1 : decode cX10_functionCell 1 = .ok (.iconst 2, 1) := by decide +kernel
theorem dX10_functionCell_2 : decode cX10_functionCell 2 = .ok (.invokevirtual 236, 3) := by decide +kernel
theorem dX10_functionCell_5 : decode cX10_functionCell 5 = .ok (.istore 5, 2) := by decide +kernel
theorem dX10_functionCell_7 : decode cX10_functionCell 7 = .ok (.aload_n 0, 1) := by decide +kernel
theorem dX10_functionCell_8 : decode cX10_functionCell 8 = .ok (.getfield 73, 3) := by decide +kernel
theorem dX10_functionCell_11 : decode cX10_functionCell 11 = .ok (.iconst 4, 1) := by decide +kernel
theorem dX10_functionCell_12 : decode cX10_functionCell 12 = .ok (.iload 5, 2) := by decide +kernel
theorem dX10_functionCell_14 : decode cX10_functionCell 14 = .ok (.imul, 1) := by decide +kernel
theorem dX10_functionCell_15 : decode cX10_functionCell 15 = .ok (.iload_n 1, 1) := by decide +kernel
theorem dX10_functionCell_16 : decode cX10_functionCell 16 = .ok (.iastore, 1) := by decide +kernel
theorem dX10_functionCell_17 : decode cX10_functionCell 17 = .ok (.aload_n 0, 1) := by decide +kernel
theorem dX10_functionCell_18 : decode cX10_functionCell 18 = .ok (.getfield 73, 3) := by decide +kernel
theorem dX10_functionCell_21 : decode cX10_functionCell 21 = .ok (.iconst 4, 1) := by decide +kernel
theorem dX10_functionCell_22 : decode cX10_functionCell 22 = .ok (.iload 5, 2) := by decide +kernel
theorem dX10_functionCell_24 : decode cX10_functionCell 24 = .ok (.imul, 1) := by decide +kernel
theorem dX10_functionCell_25 : decode cX10_functionCell 25 = .ok (.iconst 1, 1) := by decide +kernel
theorem dX10_functionCell_26 : decode cX10_functionCell 26 = .ok (.iadd, 1) := by decide +kernel
theorem dX10_functionCell_27 : decode cX10_functionCell 27 = .ok (.iload_n 2, 1) := by decide +kernel
theorem dX10_functionCell_28 : decode cX10_functionCell 28 = .ok (.iastore, 1) := by decide +kernel
theorem dX10_functionCell_29 : decode cX10_functionCell 29 = .ok (.aload_n 0, 1) := by decide +kernel
theorem dX10_functionCell_30 : decode cX10_functionCell 30 = .ok (.getfield 73, 3) := by decide +kernel
theorem dX10_functionCell_33 : decode cX10_functionCell 33 = .ok (.iconst 4, 1) := by decide +kernel
end
section
theorem dX10_functionCell_34 : decode cX10_functionCell 34 = .ok (.iload 5, 2) := by decide +kernel
theorem dX10_functionCell_36 : decode cX10_functionCell 36 = .ok (.imul, 1) := by decide +kernel
theorem dX10_functionCell_37 : decode cX10_functionCell 37 = .ok (.iconst 2, 1) := by decide +kernel
theorem dX10_functionCell_38 : decode cX10_functionCell 38 = .ok (.iadd, 1) := by decide +kernel
theorem dX10_functionCell_39 : decode cX10_functionCell 39 = .ok (.iload_n 3, 1) := by decide +kernel
theorem dX10_functionCell_40 : decode cX10_functionCell 40 = .ok (.iastore, 1) := by decide +kernel
theorem dX10_functionCell_41 : decode cX10_functionCell 41 = .ok (.aload_n 0, 1) := by decide +kernel
theorem dX10_functionCell_42 : decode cX10_functionCell 42 = .ok (.getfield 73, 3) := by decide +kernel
theorem dX10_functionCell_45 : decode cX10_functionCell 45 = .ok (.iconst 4, 1) := by decide +kernel
theorem dX10_functionCell_46 : decode cX10_functionCell 46 = .ok (.iload 5, 2) := by decide +kernel
theorem dX10_functionCell_48 : decode cX10_functionCell 48 = .ok (.imul, 1) := by decide +kernel
theorem dX10_functionCell_49 : decode cX10_functionCell 49 = .ok (.iconst 3, 1) := by decide +kernel
theorem dX10_functionCell_50 : decode cX10_functionCell 50 = .ok (.iadd, 1) := by decide +kernel
theorem dX10_functionCell_51 : decode cX10_functionCell 51 = .ok (.iload 4, 2) := by decide +kernel
theorem dX10_functionCell_53 : decode cX10_functionCell 53 = .ok (.iastore, 1) := by decide +kernel
theorem dX10_functionCell_54 : decode cX10_functionCell 54 = .ok (.iload 5, 2) := by decide +kernel
theorem dX10_functionCell_56 : decode cX10_functionCell 56 = .ok (.ireturn, 1) := by decide +kernel
theorem dX10_end_0 : decode cX10_end 0 = .ok (.iload_n 1, 1) := by decide +kernel
theorem dX10_end_1 : decode cX10_end 1 = .ok (.istore_n 2, 1) := by decide +kernel
theorem dX10_end_2 : decode cX10_end 2 = .ok (.aload_n 0, 1) := by decide +kernel
theorem dX10_end_3 : decode cX10_end 3 = .ok (.getfield 70, 3) := by decide +kernel
theorem dX10_end_6 : decode cX10_end 6 = .ok (.iload_n 2, 1) := by decide +kernel
theorem dX10_end_7 : decode cX10_end 7 = .ok (.iaload, 1) := by decide +kernel
theorem dX10_end_8 : decode cX10_end 8 = .ok (.ifCond .lt 13, 3) := by decide +kernel
theorem dX10_end_11 : decode cX10_end 11 = .ok (.aload_n 0, 1) := by decide +kernel
theorem dX10_end_12 : decode cX10_end 12 = .ok (.getfield 70, 3) := by decide +kernel
theorem dX10_end_15 : decode cX10_end 15 = .ok (.iload_n 2, 1) := by decide +kernel
theorem dX10_end_16 : decode cX10_end 16 = .ok (.iaload, 1) := by decide +kernel
theorem dX10_end_17 : decode cX10_end 17 = .ok (.istore_n 2, 1) := by decide +kernel
theorem dX10_end_18 : decode cX10_end 18 = .ok (.goto (-16), 3) := by decide +kernel
theorem dX10_end_21 : decode cX10_end 21 = .ok (.iload_n 2, 1) := by decide +kernel
theorem dX10_end_22 : decode cX10_end 22 = .ok (.ireturn, 1) := by decide +kernel
theorem dX10_contains_0 : decode cX10_contains 0 = .ok (.iconst 0, 1) := by decide +kernel
theorem dX10_contains_1 : decode cX10_contains 1 = .ok (.istore_n 3, 1) := by decide +kernel
theorem dX10_contains_2 : decode cX10_contains 2 = .ok (.sipush 640, 3) := by decide +kernel
theorem dX10_contains_5 : decode cX10_contains 5 = .ok (.iconst 1, 1) := by decide +kernel
theorem dX10_contains_6 : decode cX10_contains 6 = .ok (.aload_n 0, 1) := by decide +kernel
theorem dX10_contains_7 : decode cX10_contains 7 = .ok (.getfield 230, 3) := by decide +kernel
theorem dX10_contains_10 : decode cX10_contains 10 = .ok (.isub, 1) := by decide +kernel
theorem dX10_contains_11 : decode cX10_contains 11 = .ok (.imul, 1) := by decide +kernel
theorem dX10_contains_12 : decode cX10_contains 12 = .ok (.istore 4, 2) := by decide +kernel
theorem dX10_contains_14 : decode cX10_contains 14 = .ok (.iload 4, 2) := by decide +kernel
theorem dX10_contains_16 : decode cX10_contains 16 = .ok (.istore 5, 2) := by decide +kernel
theorem dX10_contains_18 : decode cX10_contains 18 = .ok (.iload 5, 2) := by decide +kernel
theorem dX10_contains_20 : decode cX10_contains 20 = .ok (.iload 4, 2) := by decide +kernel
theorem dX10_contains_22 : decode cX10_contains 22 = .ok (.aload_n 0, 1) := by decide +kernel
theorem dX10_contains_23 : decode cX10_contains 23 = .ok (.getfield 233, 3) := by decide +kernel
theorem dX10_contains_26 : decode cX10_contains 26 = .ok (.iadd, 1) := by decide +kernel
theorem dX10_contains_27 : decode cX10_contains 27 = .ok (.if_icmp .ge 17, 3) := by decide +kernel
theorem dX10_contains_30 : decode cX10_contains 30 = .ok (.aload_n 0, 1) := by decide +kernel
theorem dX10_contains_31 : decode cX10_contains 31 = .ok (.getfield 89, 3) := by decide +kernel
theorem dX10_contains_34 : decode cX10_contains 34 = .ok (.iload 5, 2) := by decide +kernel
theorem dX10_contains_36 : decode cX10_contains 36 = .ok (.iconst 0, 1) := by decide +kernel
theorem dX10_contains_37 : decode cX10_contains 37 = .ok (.bastore, 1) := by decide +kernel
theorem dX10_contains_38 : decode cX10_contains 38 = .ok (.iinc 5 1, 3) := by decide +kernel
theorem dX10_contains_41 : decode cX10_contains 41 = .ok (.goto (-23), 3) := by decide +kernel
theorem dX10_contains_44 : decode cX10_contains 44 = .ok (.aload_n 0, 1) := by decide +kernel
theorem dX10_contains_45 : decode cX10_contains 45 = .ok (.getfield 83, 3) := by decide +kernel
theorem dX10_contains_48 : decode cX10_contains 48 = .ok (.iload_n 3, 1) := by decide +kernel
theorem dX10_contains_49 : decode cX10_contains 49 = .ok (.iload_n 1, 1) := by decide +kernel
theorem dX10_contains_50 : decode cX10_contains 50 = .ok (.iastore, 1) := by decide +kernel
theorem dX10_contains_51 : decode cX10_contains 51 = .ok (.iinc 3 1, 3) := by decide +kernel
theorem dX10_contains_54 : decode cX10_contains 54 = .ok (.iload_n 3, 1) := by decide +kernel
theorem dX10_contains_55 : decode cX10_contains 55 = .ok (.ifCond .le 94, 3) := by decide +kernel
theorem dX10_contains_58 : decode cX10_contains 58 = .ok (.iinc 3 (-1), 3) := by decide +kernel
theorem dX10_contains_61 : decode cX10_contains 61 = .ok (.aload_n 0, 1) := by decide +kernel
theorem dX10_contains_62 : decode cX10_contains 62 = .ok (.aload_n 0, 1) := by decide +kernel
theorem dX10_contains_63 : decode cX10_contains 63 = .ok (.getfield 83, 3) := by decide +kernel
theorem dX10_contains_66 : decode cX10_contains 66 = .ok (.iload_n 3, 1) := by decide +kernel
theorem dX10_contains_67 : decode cX10_contains 67 = .ok (.iaload, 1) := by decide +kernel
theorem dX10_contains_68 : decode cX10_contains 68 = .ok (.invokevirtual 239, 3) := by decide +kernel
theorem dX10_contains_71 : decode cX10_contains 71 = .ok (.istore 5, 2) := by decide +kernel
theorem dX10_contains_73 : decode cX10_contains 73 = .ok (.iload 5, 2) := by decide +kernel
theorem dX10_contains_75 : decode cX10_contains 75 = .ok (.iload_n 2, 1) := by decide +kernel
theorem dX10_contains_76 : decode cX10_contains 76 = .ok (.if_icmp .ne 5, 3) := by decide +kernel
theorem dX10_contains_79 : decode cX10_contains 79 = .ok (.iconst 1, 1) := by decide +kernel
theorem dX10_contains_80 : decode cX10_contains 80 = .ok (.ireturn, 1) := by decide +kernel
theorem dX10_contains_81 : decode cX10_contains 81 = .ok (.aload_n 0, 1) := by decide +kernel
theorem dX10_contains_82 : decode cX10_contains 82 = .ok (.getfield 67, 3) := by decide +kernel
theorem dX10_contains_85 : decode cX10_contains 85 = .ok (.iload 5, 2) := by decide +kernel
theorem dX10_contains_87 : decode cX10_contains 87 = .ok (.iaload, 1) := by decide +kernel
theorem dX10_contains_88 : decode cX10_contains 88 = .ok (.iconst 2, 1) := by decide +kernel
theorem dX10_contains_89 : decode cX10_contains 89 = .ok (.if_icmp .ne 57, 3) := by decide +kernel
theorem dX10_contains_92 : decode cX10_contains 92 = .ok (.aload_n 0, 1) := by decide +kernel
theorem dX10_contains_93 : decode cX10_contains 93 = .ok (.getfield 89, 3) := by decide +kernel
theorem dX10_contains_96 : decode cX10_contains 96 = .ok (.iload 5, 2) := by decide +kernel
theorem dX10_contains_98 : decode cX10_contains 98 = .ok (.baload, 1) := by decide +kernel
theorem dX10_contains_99 : decode cX10_contains 99 = .ok (.ifCond .ne 47, 3) := by decide +kernel
theorem dX10_contains_102 : decode cX10_contains 102 = .ok (.aload_n 0, 1) := by decide +kernel
theorem dX10_contains_103 : decode cX10_contains 103 = .ok (.getfield 89, 3) := by decide +kernel
theorem dX10_contains_106 : decode cX10_contains 106 = .ok (.iload 5, 2) := by decide +kernel
theorem dX10_contains_108 : decode cX10_contains 108 = .ok (.iconst 1, 1) := by decide +kernel
theorem dX10_contains_109 : decode cX10_contains 109 = .ok (.bastore, 1) := by decide +kernel
theorem dX10_contains_110 : decode cX10_contains 110 = .ok (.iconst 0, 1) := by decide +kernel
theorem dX10_contains_111 : decode cX10_contains 111 = .ok (.istore 6, 2) := by decide +kernel
theorem dX10_contains_113 : decode cX10_contains 113 = .ok (.iload 6, 2) := by decide +kernel
theorem dX10_contains_115 : decode cX10_contains 115 = .ok (.iconst 4, 1) := by decide +kernel
theorem dX10_contains_116 : decode cX10_contains 116 = .ok (.if_icmp .ge 30, 3) := by decide +kernel
theorem dX10_contains_119 : decode cX10_contains 119 = .ok (.aload_n 0, 1) := by decide +kernel
theorem dX10_contains_120 : decode cX10_contains 120 = .ok (.getfield 83, 3) := by decide +kernel
theorem dX10_contains_123 : decode cX10_contains 123 = .ok (.iload_n 3, 1) := by decide +kernel
theorem dX10_contains_124 : decode cX10_contains 124 = .ok (.aload_n 0, 1) := by decide +kernel
theorem dX10_contains_125 : decode cX10_contains 125 = .ok (.getfield 73, 3) := by decide +kernel
theorem dX10_contains_128 : decode cX10_contains 128 = .ok (.iconst 4, 1) := by decide +kernel
theorem dX10_contains_129 : decode cX10_contains 129 = .ok (.iload 5, 2) := by decide +kernel
theorem dX10_contains_131 : decode cX10_contains 131 = .ok (.imul, 1) := by decide +kernel
theorem dX10_contains_132 : decode cX10_contains 132 = .ok (.iload 6, 2) := by decide +kernel
theorem dX10_contains_134 : decode cX10_contains 134 = .ok (.iadd, 1) := by decide +kernel
theorem dX10_contains_135 : decode cX10_contains 135 = .ok (.iaload, 1) := by decide +kernel
theorem dX10_contains_136 : decode cX10_contains 136 = .ok (.iastore, 1) := by decide +kernel
theorem dX10_contains_137 : decode cX10_contains 137 = .ok (.iinc 3 1, 3) := by decide +kernel
theorem dX10_contains_140 : decode cX10_contains 140 = .ok (.iinc 6 1, 3) := by decide +kernel
theorem dX10_contains_143 : decode cX10_contains 143 = .ok (.goto (-30), 3) := by decide +kernel
theorem dX10_contains_146 : decode cX10_contains 146 = .ok (.goto (-92), 3) := by decide +kernel
theorem dX10_contains_149 : decode cX10_contains 149 = .ok (.iconst 0, 1) := by decide +kernel
theorem dX10_contains_150 : decode cX10_contains 150 = .ok (.ireturn, 1) := by decide +kernel
theorem dX10_equal_0 : decode cX10_equal 0 = .ok (.aload_n 0, 1) := by decide +kernel
theorem dX10_equal_1 : decode cX10_equal 1 = .ok (.getfield 86, 3) := by decide +kernel
theorem dX10_equal_4 : decode cX10_equal 4 = .ok (.iconst 0, 1) := by decide +kernel
theorem dX10_equal_5 : decode cX10_equal 5 = .ok (.iload_n 1, 1) := by decide +kernel
theorem dX10_equal_6 : decode cX10_equal 6 = .ok (.iastore, 1) := by decide +kernel
theorem dX10_equal_7 : decode cX10_equal 7 = .ok (.aload_n 0, 1) := by decide +kernel
theorem dX10_equal_8 : decode cX10_equal 8 = .ok (.getfield 86, 3) := by decide +kernel
theorem dX10_equal_11 : decode cX10_equal 11 = .ok (.iconst 1, 1) := by decide +kernel
theorem dX10_equal_12 : decode cX10_equal 12 = .ok (.iload_n 2, 1) := by decide +kernel
theorem dX10_equal_13 : decode cX10_equal 13 = .ok (.iastore, 1) := by decide +kernel
theorem dX10_equal_14 : decode cX10_equal 14 = .ok (.iconst 2, 1) := by decide +kernel
theorem dX10_equal_15 : decode cX10_equal 15 = .ok (.istore_n 3, 1) := by decide +kernel
theorem dX10_equal_16 : decode cX10_equal 16 = .ok (.iload_n 3, 1) := by decide +kernel
theorem dX10_equal_17 : decode cX10_equal 17 = .ok (.ifCond .le 239, 3) := by decide +kernel
theorem dX10_equal_20 : decode cX10_equal 20 = .ok (.aload_n 0, 1) := by decide +kernel
theorem dX10_equal_21 : decode cX10_equal 21 = .ok (.getfield 242, 3) := by decide +kernel
theorem dX10_equal_24 : decode cX10_equal 24 = .ok (.ifCond .ne 232, 3) := by decide +kernel
theorem dX10_equal_27 : decode cX10_equal 27 = .ok (.iinc 3 (-2), 3) := by decide +kernel
theorem dX10_equal_30 : decode cX10_equal 30 = .ok (.aload_n 0, 1) := by decide +kernel
theorem dX10_equal_31 : decode cX10_equal 31 = .ok (.aload_n 0, 1) := by decide +kernel
theorem dX10_equal_32 : decode cX10_equal 32 = .ok (.getfield 86, 3) := by decide +kernel
theorem dX10_equal_35 : decode cX10_equal 35 = .ok (.iload_n 3, 1) := by decide +kernel
theorem dX10_equal_36 : decode cX10_equal 36 = .ok (.iaload, 1) := by decide +kernel
theorem dX10_equal_37 : decode cX10_equal 37 = .ok (.invokevirtual 239, 3) := by decide +kernel
theorem dX10_equal_40 : decode cX10_equal 40 = .ok (.istore 4, 2) := by decide +kernel
theorem dX10_equal_42 : decode cX10_equal 42 = .ok (.aload_n 0, 1) := by decide +kernel
theorem dX10_equal_43 : decode cX10_equal 43 = .ok (.aload_n 0, 1) := by decide +kernel
theorem dX10_equal_44 : decode cX10_equal 44 = .ok (.getfield 86, 3) := by decide +kernel
theorem dX10_equal_47 : decode cX10_equal 47 = .ok (.iload_n 3, 1) := by decide +kernel
theorem dX10_equal_48 : decode cX10_equal 48 = .ok (.iconst 1, 1) := by decide +kernel
theorem dX10_equal_49 : decode cX10_equal 49 = .ok (.iadd, 1) := by decide +kernel
theorem dX10_equal_50 : decode cX10_equal 50 = .ok (.iaload, 1) := by decide +kernel
theorem dX10_equal_51 : decode cX10_equal 51 = .ok (.invokevirtual 239, 3) := by decide +kernel
theorem dX10_equal_54 : decode cX10_equal 54 = .ok (.istore 5, 2) := by decide +kernel
theorem dX10_equal_56 : decode cX10_equal 56 = .ok (.iload 4, 2) := by decide +kernel
theorem dX10_equal_58 : decode cX10_equal 58 = .ok (.iload 5, 2) := by decide +kernel
theorem dX10_equal_60 : decode cX10_equal 60 = .ok (.if_icmp .ne 6, 3) := by decide +kernel
theorem dX10_equal_63 : decode cX10_equal 63 = .ok (.goto (-47), 3) := by decide +kernel
theorem dX10_equal_66 : decode cX10_equal 66 = .ok (.aload_n 0, 1) := by decide +kernel
theorem dX10_equal_67 : decode cX10_equal 67 = .ok (.getfield 67, 3) := by decide +kernel
theorem dX10_equal_70 : decode cX10_equal 70 = .ok (.iload 4, 2) := by decide +kernel
theorem dX10_equal_72 : decode cX10_equal 72 = .ok (.iaload, 1) := by decide +kernel
theorem dX10_equal_73 : decode cX10_equal 73 = .ok (.iconst 3, 1) := by decide +kernel
theorem dX10_equal_74 : decode cX10_equal 74 = .ok (.if_icmp .eq 14, 3) := by decide +kernel
theorem dX10_equal_77 : decode cX10_equal 77 = .ok (.aload_n 0, 1) := by decide +kernel
theorem dX10_equal_78 : decode cX10_equal 78 = .ok (.getfield 67, 3) := by decide +kernel
theorem dX10_equal_81 : decode cX10_equal 81 = .ok (.iload 5, 2) := by decide +kernel
theorem dX10_equal_83 : decode cX10_equal 83 = .ok (.iaload, 1) := by decide +kernel
theorem dX10_equal_84 : decode cX10_equal 84 = .ok (.iconst 3, 1) := by decide +kernel
theorem dX10_equal_85 : decode cX10_equal 85 = .ok (.if_icmp .ne 67, 3) := by decide +kernel
theorem dX10_equal_88 : decode cX10_equal 88 = .ok (.aload_n 0, 1) := by decide +kernel
theorem dX10_equal_89 : decode cX10_equal 89 = .ok (.getfield 67, 3) := by decide +kernel
theorem dX10_equal_92 : decode cX10_equal 92 = .ok (.iload 4, 2) := by decide +kernel
theorem dX10_equal_94 : decode cX10_equal 94 = .ok (.iaload, 1) := by decide +kernel
theorem dX10_equal_95 : decode cX10_equal 95 = .ok (.iconst 3, 1) := by decide +kernel
theorem dX10_equal_96 : decode cX10_equal 96 = .ok (.if_icmp .ne 8, 3) := by decide +kernel
theorem dX10_equal_99 : decode cX10_equal 99 = .ok (.iload 4, 2) := by decide +kernel
theorem dX10_equal_101 : decode cX10_equal 101 = .ok (.goto 5, 3) := by decide +kernel
theorem dX10_equal_104 : decode cX10_equal 104 = .ok (.iload 5, 2) := by decide +kernel
theorem dX10_equal_106 : decode cX10_equal 106 = .ok (.istore 6, 2) := by decide +kernel
theorem dX10_equal_108 : decode cX10_equal 108 = .ok (.aload_n 0, 1) := by decide +kernel
theorem dX10_equal_109 : decode cX10_equal 109 = .ok (.getfield 67, 3) := by decide +kernel
theorem dX10_equal_112 : decode cX10_equal 112 = .ok (.iload 4, 2) := by decide +kernel
theorem dX10_equal_114 : decode cX10_equal 114 = .ok (.iaload, 1) := by decide +kernel
theorem dX10_equal_115 : decode cX10_equal 115 = .ok (.iconst 3, 1) := by decide +kernel
theorem dX10_equal_116 : decode cX10_equal 116 = .ok (.if_icmp .ne 8, 3) := by decide +kernel
theorem dX10_equal_119 : decode cX10_equal 119 = .ok (.iload 5, 2) := by decide +kernel
theorem dX10_equal_121 : decode cX10_equal 121 = .ok (.goto 5, 3) := by decide +kernel
theorem dX10_equal_124 : decode cX10_equal 124 = .ok (.iload 4, 2) := by decide +kernel
theorem dX10_equal_126 : decode cX10_equal 126 = .ok (.istore 7, 2) := by decide +kernel
theorem dX10_equal_128 : decode cX10_equal 128 = .ok (.aload_n 0, 1) := by decide +kernel
theorem dX10_equal_129 : decode cX10_equal 129 = .ok (.aload_n 0, 1) := by decide +kernel
theorem dX10_equal_130 : decode cX10_equal 130 = .ok (.iload 7, 2) := by decide +kernel
theorem dX10_equal_132 : decode cX10_equal 132 = .ok (.iload 6, 2) := by decide +kernel
theorem dX10_equal_134 : decode cX10_equal 134 = .ok (.invokevirtual 245, 3) := by decide +kernel
theorem dX10_equal_137 : decode cX10_equal 137 = .ok (.putfield 242, 3) := by decide +kernel
theorem dX10_equal_140 : decode cX10_equal 140 = .ok (.aload_n 0, 1) := by decide +kernel
theorem dX10_equal_141 : decode cX10_equal 141 = .ok (.getfield 70, 3) := by decide +kernel
theorem dX10_equal_144 : decode cX10_equal 144 = .ok (.iload 6, 2) := by decide +kernel
theorem dX10_equal_146 : decode cX10_equal 146 = .ok (.iload 7, 2) := by decide +kernel
theorem dX10_equal_148 : decode cX10_equal 148 = .ok (.iastore, 1) := by decide +kernel
theorem dX10_equal_149 : decode cX10_equal 149 = .ok (.goto 104, 3) := by decide +kernel
theorem dX10_equal_152 : decode cX10_equal 152 = .ok (.aload_n 0, 1) := by decide +kernel
theorem dX10_equal_153 : decode cX10_equal 153 = .ok (.getfield 67, 3) := by decide +kernel
theorem dX10_equal_156 : decode cX10_equal 156 = .ok (.iload 4, 2) := by decide +kernel
theorem dX10_equal_158 : decode cX10_equal 158 = .ok (.iaload, 1) := by decide +kernel
theorem dX10_equal_159 : decode cX10_equal 159 = .ok (.aload_n 0, 1) := by decide +kernel
theorem dX10_equal_160 : decode cX10_equal 160 = .ok (.getfield 67, 3) := by decide +kernel
theorem dX10_equal_163 : decode cX10_equal 163 = .ok (.iload 5, 2) := by decide +kernel
theorem dX10_equal_165 : decode cX10_equal 165 = .ok (.iaload, 1) := by decide +kernel
theorem dX10_equal_166 : decode cX10_equal 166 = .ok (.if_icmp .eq 11, 3) := by decide +kernel
theorem dX10_equal_169 : decode cX10_equal 169 = .ok (.aload_n 0, 1) := by decide +kernel
theorem dX10_equal_170 : decode cX10_equal 170 = .ok (.iconst 1, 1) := by decide +kernel
theorem dX10_equal_171 : decode cX10_equal 171 = .ok (.putfield 242, 3) := by decide +kernel
theorem dX10_equal_174 : decode cX10_equal 174 = .ok (.goto 79, 3) := by decide +kernel
theorem dX10_equal_177 : decode cX10_equal 177 = .ok (.aload_n 0, 1) := by decide +kernel
theorem dX10_equal_178 : decode cX10_equal 178 = .ok (.getfield 67, 3) := by decide +kernel
theorem dX10_equal_181 : decode cX10_equal 181 = .ok (.iload 4, 2) := by decide +kernel
theorem dX10_equal_183 : decode cX10_equal 183 = .ok (.iaload, 1) := by decide +kernel
theorem dX10_equal_184 : decode cX10_equal 184 = .ok (.iconst 2, 1) := by decide +kernel
theorem dX10_equal_185 : decode cX10_equal 185 = .ok (.if_icmp .ne 68, 3) := by decide +kernel
theorem dX10_equal_188 : decode cX10_equal 188 = .ok (.aload_n 0, 1) := by decide +kernel
theorem dX10_equal_189 : decode cX10_equal 189 = .ok (.getfield 70, 3) := by decide +kernel
theorem dX10_equal_192 : decode cX10_equal 192 = .ok (.iload 4, 2) := by decide +kernel
theorem dX10_equal_194 : decode cX10_equal 194 = .ok (.iload 5, 2) := by decide +kernel
theorem dX10_equal_196 : decode cX10_equal 196 = .ok (.iastore, 1) := by decide +kernel
theorem dX10_equal_197 : decode cX10_equal 197 = .ok (.iconst 0, 1) := by decide +kernel
theorem dX10_equal_198 : decode cX10_equal 198 = .ok (.istore 6, 2) := by decide +kernel
theorem dX10_equal_200 : decode cX10_equal 200 = .ok (.iload 6, 2) := by decide +kernel
theorem dX10_equal_202 : decode cX10_equal 202 = .ok (.iconst 4, 1) := by decide +kernel
theorem dX10_equal_203 : decode cX10_equal 203 = .ok (.if_icmp .ge 50, 3) := by decide +kernel
theorem dX10_equal_206 : decode cX10_equal 206 = .ok (.aload_n 0, 1) := by decide +kernel
theorem dX10_equal_207 : decode cX10_equal 207 = .ok (.getfield 86, 3) := by decide +kernel
theorem dX10_equal_210 : decode cX10_equal 210 = .ok (.iload_n 3, 1) := by decide +kernel
theorem dX10_equal_211 : decode cX10_equal 211 = .ok (.aload_n 0, 1) := by decide +kernel
theorem dX10_equal_212 : decode cX10_equal 212 = .ok (.getfield 73, 3) := by decide +kernel
theorem dX10_equal_215 : decode cX10_equal 215 = .ok (.iconst 4, 1) := by decide +kernel
theorem dX10_equal_216 : decode cX10_equal 216 = .ok (.iload 4, 2) := by decide +kernel
theorem dX10_equal_218 : decode cX10_equal 218 = .ok (.imul, 1) := by decide +kernel
theorem dX10_equal_219 : decode cX10_equal 219 = .ok (.iload 6, 2) := by decide +kernel
theorem dX10_equal_221 : decode cX10_equal 221 = .ok (.iadd, 1) := by decide +kernel
theorem dX10_equal_222 : decode cX10_equal 222 = .ok (.iaload, 1) := by decide +kernel
theorem dX10_equal_223 : decode cX10_equal 223 = .ok (.iastore, 1) := by decide +kernel
theorem dX10_equal_224 : decode cX10_equal 224 = .ok (.aload_n 0, 1) := by decide +kernel
theorem dX10_equal_225 : decode cX10_equal 225 = .ok (.getfield 86, 3) := by decide +kernel
theorem dX10_equal_228 : decode cX10_equal 228 = .ok (.iload_n 3, 1) := by decide +kernel
theorem dX10_equal_229 : decode cX10_equal 229 = .ok (.iconst 1, 1) := by decide +kernel
theorem dX10_equal_230 : decode cX10_equal 230 = .ok (.iadd, 1) := by decide +kernel
theorem dX10_equal_231 : decode cX10_equal 231 = .ok (.aload_n 0, 1) := by decide +kernel
theorem dX10_equal_232 : decode cX10_equal 232 = .ok (.getfield 73, 3) := by decide +kernel
theorem dX10_equal_235 : decode cX10_equal 235 = .ok (.iconst 4, 1) := by decide +kernel
theorem dX10_equal_236 : decode cX10_equal 236 = .ok (.iload 5, 2) := by decide +kernel
theorem dX10_equal_238 : decode cX10_equal 238 = .ok (.imul, 1) := by decide +kernel
theorem dX10_equal_239 : decode cX10_equal 239 = .ok (.iload 6, 2) := by decide +kernel
theorem dX10_equal_241 : decode cX10_equal 241 = .ok (.iadd, 1) := by decide +kernel
theorem dX10_equal_242 : decode cX10_equal 242 = .ok (.iaload, 1) := by decide +kernel
theorem dX10_equal_243 : decode cX10_equal 243 = .ok (.iastore, 1) := by decide +kernel
theorem dX10_equal_244 : decode cX10_equal 244 = .ok (.iinc 3 2, 3) := by decide +kernel
theorem dX10_equal_247 : decode cX10_equal 247 = .ok (.iinc 6 1, 3) := by decide +kernel
theorem dX10_equal_250 : decode cX10_equal 250 = .ok (.goto (-50), 3) := by decide +kernel
theorem dX10_equal_253 : decode cX10_equal 253 = .ok (.goto (-237), 3) := by decide +kernel
theorem dX10_equal_256 : decode cX10_equal 256 = .ok (.return_, 1) := by decide +kernel
theorem dX10_endless_0 : decode cX10_endless 0 = .ok (.sipush 640, 3) := by decide +kernel
theorem dX10_endless_3 : decode cX10_endless 3 = .ok (.iconst 1, 1) := by decide +kernel
theorem dX10_endless_4 : decode cX10_endless 4 = .ok (.aload_n 0, 1) := by decide +kernel
theorem dX10_endless_5 : decode cX10_endless 5 = .ok (.getfield 230, 3) := by decide +kernel
theorem dX10_endless_8 : decode cX10_endless 8 = .ok (.isub, 1) := by decide +kernel
theorem dX10_endless_9 : decode cX10_endless 9 = .ok (.imul, 1) := by decide +kernel
theorem dX10_endless_10 : decode cX10_endless 10 = .ok (.istore_n 1, 1) := by decide +kernel
theorem dX10_endless_11 : decode cX10_endless 11 = .ok (.iload_n 1, 1) := by decide +kernel
theorem dX10_endless_12 : decode cX10_endless 12 = .ok (.istore_n 2, 1) := by decide +kernel
theorem dX10_endless_13 : decode cX10_endless 13 = .ok (.iload_n 2, 1) := by decide +kernel
theorem dX10_endless_14 : decode cX10_endless 14 = .ok (.iload_n 1, 1) := by decide +kernel
theorem dX10_endless_15 : decode cX10_endless 15 = .ok (.aload_n 0, 1) := by decide +kernel
theorem dX10_endless_16 : decode cX10_endless 16 = .ok (.getfield 233, 3) := by decide +kernel
theorem dX10_endless_19 : decode cX10_endless 19 = .ok (.iadd, 1) := by decide +kernel
theorem dX10_endless_20 : decode cX10_endless 20 = .ok (.if_icmp .ge 30, 3) := by decide +kernel
theorem dX10_endless_23 : decode cX10_endless 23 = .ok (.aload_n 0, 1) := by decide +kernel
theorem dX10_endless_24 : decode cX10_endless 24 = .ok (.getfield 89, 3) := by decide +kernel
theorem dX10_endless_27 : decode cX10_endless 27 = .ok (.iload_n 2, 1) := by decide +kernel
theorem dX10_endless_28 : decode cX10_endless 28 = .ok (.aload_n 0, 1) := by decide +kernel
theorem dX10_endless_29 : decode cX10_endless 29 = .ok (.getfield 67, 3) := by decide +kernel
theorem dX10_endless_32 : decode cX10_endless 32 = .ok (.iload_n 2, 1) := by decide +kernel
theorem dX10_endless_33 : decode cX10_endless 33 = .ok (.iaload, 1) := by decide +kernel
theorem dX10_endless_34 : decode cX10_endless 34 = .ok (.iconst 2, 1) := by decide +kernel
theorem dX10_endless_35 : decode cX10_endless 35 = .ok (.if_icmp .eq 7, 3) := by decide +kernel
theorem dX10_endless_38 : decode cX10_endless 38 = .ok (.iconst 1, 1) := by decide +kernel
theorem dX10_endless_39 : decode cX10_endless 39 = .ok (.goto 4, 3) := by decide +kernel
theorem dX10_endless_42 : decode cX10_endless 42 = .ok (.iconst 0, 1) := by decide +kernel
theorem dX10_endless_43 : decode cX10_endless 43 = .ok (.bastore, 1) := by decide +kernel
theorem dX10_endless_44 : decode cX10_endless 44 = .ok (.iinc 2 1, 3) := by decide +kernel
theorem dX10_endless_47 : decode cX10_endless 47 = .ok (.goto (-34), 3) := by decide +kernel
theorem dX10_endless_50 : decode cX10_endless 50 = .ok (.iconst 1, 1) := by decide +kernel
theorem dX10_endless_51 : decode cX10_endless 51 = .ok (.istore_n 2, 1) := by decide +kernel
theorem dX10_endless_52 : decode cX10_endless 52 = .ok (.iload_n 2, 1) := by decide +kernel
theorem dX10_endless_53 : decode cX10_endless 53 = .ok (.ifCond .eq 107, 3) := by decide +kernel
theorem dX10_endless_56 : decode cX10_endless 56 = .ok (.iconst 0, 1) := by decide +kernel
theorem dX10_endless_57 : decode cX10_endless 57 = .ok (.istore_n 2, 1) := by decide +kernel
theorem dX10_endless_58 : decode cX10_endless 58 = .ok (.iload_n 1, 1) := by decide +kernel
theorem dX10_endless_59 : decode cX10_endless 59 = .ok (.istore_n 3, 1) := by decide +kernel
theorem dX10_endless_60 : decode cX10_endless 60 = .ok (.iload_n 3, 1) := by decide +kernel
theorem dX10_endless_61 : decode cX10_endless 61 = .ok (.iload_n 1, 1) := by decide +kernel
theorem dX10_endless_62 : decode cX10_endless 62 = .ok (.aload_n 0, 1) := by decide +kernel
theorem dX10_endless_63 : decode cX10_endless 63 = .ok (.getfield 233, 3) := by decide +kernel
theorem dX10_endless_66 : decode cX10_endless 66 = .ok (.iadd, 1) := by decide +kernel
theorem dX10_endless_67 : decode cX10_endless 67 = .ok (.if_icmp .ge 90, 3) := by decide +kernel
theorem dX10_endless_70 : decode cX10_endless 70 = .ok (.aload_n 0, 1) := by decide +kernel
theorem dX10_endless_71 : decode cX10_endless 71 = .ok (.getfield 89, 3) := by decide +kernel
theorem dX10_endless_74 : decode cX10_endless 74 = .ok (.iload_n 3, 1) := by decide +kernel
theorem dX10_endless_75 : decode cX10_endless 75 = .ok (.baload, 1) := by decide +kernel
theorem dX10_endless_76 : decode cX10_endless 76 = .ok (.ifCond .ne 16, 3) := by decide +kernel
theorem dX10_endless_79 : decode cX10_endless 79 = .ok (.aload_n 0, 1) := by decide +kernel
theorem dX10_endless_80 : decode cX10_endless 80 = .ok (.getfield 70, 3) := by decide +kernel
theorem dX10_endless_83 : decode cX10_endless 83 = .ok (.iload_n 3, 1) := by decide +kernel
theorem dX10_endless_84 : decode cX10_endless 84 = .ok (.iaload, 1) := by decide +kernel
theorem dX10_endless_85 : decode cX10_endless 85 = .ok (.ifCond .ge 7, 3) := by decide +kernel
theorem dX10_endless_88 : decode cX10_endless 88 = .ok (.iconst 1, 1) := by decide +kernel
theorem dX10_endless_89 : decode cX10_endless 89 = .ok (.goto 4, 3) := by decide +kernel
theorem dX10_endless_92 : decode cX10_endless 92 = .ok (.iconst 0, 1) := by decide +kernel
theorem dX10_endless_93 : decode cX10_endless 93 = .ok (.istore 4, 2) := by decide +kernel
theorem dX10_endless_95 : decode cX10_endless 95 = .ok (.iconst 0, 1) := by decide +kernel
theorem dX10_endless_96 : decode cX10_endless 96 = .ok (.istore 5, 2) := by decide +kernel
theorem dX10_endless_98 : decode cX10_endless 98 = .ok (.iload 5, 2) := by decide +kernel
theorem dX10_endless_100 : decode cX10_endless 100 = .ok (.iconst 4, 1) := by decide +kernel
theorem dX10_endless_101 : decode cX10_endless 101 = .ok (.if_icmp .ge 36, 3) := by decide +kernel
theorem dX10_endless_104 : decode cX10_endless 104 = .ok (.iload 4, 2) := by decide +kernel
theorem dX10_endless_106 : decode cX10_endless 106 = .ok (.ifCond .eq 31, 3) := by decide +kernel
theorem dX10_endless_109 : decode cX10_endless 109 = .ok (.aload_n 0, 1) := by decide +kernel
theorem dX10_endless_110 : decode cX10_endless 110 = .ok (.getfield 89, 3) := by decide +kernel
theorem dX10_endless_113 : decode cX10_endless 113 = .ok (.aload_n 0, 1) := by decide +kernel
theorem dX10_endless_114 : decode cX10_endless 114 = .ok (.aload_n 0, 1) := by decide +kernel
theorem dX10_endless_115 : decode cX10_endless 115 = .ok (.getfield 73, 3) := by decide +kernel
theorem dX10_endless_118 : decode cX10_endless 118 = .ok (.iconst 4, 1) := by decide +kernel
theorem dX10_endless_119 : decode cX10_endless 119 = .ok (.iload_n 3, 1) := by decide +kernel
theorem dX10_endless_120 : decode cX10_endless 120 = .ok (.imul, 1) := by decide +kernel
theorem dX10_endless_121 : decode cX10_endless 121 = .ok (.iload 5, 2) := by decide +kernel
theorem dX10_endless_123 : decode cX10_endless 123 = .ok (.iadd, 1) := by decide +kernel
theorem dX10_endless_124 : decode cX10_endless 124 = .ok (.iaload, 1) := by decide +kernel
theorem dX10_endless_125 : decode cX10_endless 125 = .ok (.invokevirtual 239, 3) := by decide +kernel
theorem dX10_endless_128 : decode cX10_endless 128 = .ok (.baload, 1) := by decide +kernel
theorem dX10_endless_129 : decode cX10_endless 129 = .ok (.istore 4, 2) := by decide +kernel
theorem dX10_endless_131 : decode cX10_endless 131 = .ok (.iinc 5 1, 3) := by decide +kernel
theorem dX10_endless_134 : decode cX10_endless 134 = .ok (.goto (-36), 3) := by decide +kernel
theorem dX10_endless_137 : decode cX10_endless 137 = .ok (.iload 4, 2) := by decide +kernel
theorem dX10_endless_139 : decode cX10_endless 139 = .ok (.ifCond .eq 12, 3) := by decide +kernel
theorem dX10_endless_142 : decode cX10_endless 142 = .ok (.aload_n 0, 1) := by decide +kernel
theorem dX10_endless_143 : decode cX10_endless 143 = .ok (.getfield 89, 3) := by decide +kernel
theorem dX10_endless_146 : decode cX10_endless 146 = .ok (.iload_n 3, 1) := by decide +kernel
theorem dX10_endless_147 : decode cX10_endless 147 = .ok (.iconst 1, 1) := by decide +kernel
theorem dX10_endless_148 : decode cX10_endless 148 = .ok (.bastore, 1) := by decide +kernel
theorem dX10_endless_149 : decode cX10_endless 149 = .ok (.iconst 1, 1) := by decide +kernel
theorem dX10_endless_150 : decode cX10_endless 150 = .ok (.istore_n 2, 1) := by decide +kernel
theorem dX10_endless_151 : decode cX10_endless 151 = .ok (.iinc 3 1, 3) := by decide +kernel
theorem dX10_endless_154 : decode cX10_endless 154 = .ok (.goto (-94), 3) := by decide +kernel
theorem dX10_endless_157 : decode cX10_endless 157 = .ok (.goto (-105), 3) := by decide +kernel
theorem dX10_endless_160 : decode cX10_endless 160 = .ok (.iconst 0, 1) := by decide +kernel
theorem dX10_endless_161 : decode cX10_endless 161 = .ok (.istore_n 3, 1) := by decide +kernel
theorem dX10_endless_162 : decode cX10_endless 162 = .ok (.iload_n 1, 1) := by decide +kernel
theorem dX10_endless_163 : decode cX10_endless 163 = .ok (.istore 4, 2) := by decide +kernel
theorem dX10_endless_165 : decode cX10_endless 165 = .ok (.iload 4, 2) := by decide +kernel
theorem dX10_endless_167 : decode cX10_endless 167 = .ok (.iload_n 1, 1) := by decide +kernel
theorem dX10_endless_168 : decode cX10_endless 168 = .ok (.aload_n 0, 1) := by decide +kernel
theorem dX10_endless_169 : decode cX10_endless 169 = .ok (.getfield 233, 3) := by decide +kernel
theorem dX10_endless_172 : decode cX10_endless 172 = .ok (.iadd, 1) := by decide +kernel
theorem dX10_endless_173 : decode cX10_endless 173 = .ok (.if_icmp .ge 39, 3) := by decide +kernel
theorem dX10_endless_176 : decode cX10_endless 176 = .ok (.iload_n 3, 1) := by decide +kernel
theorem dX10_endless_177 : decode cX10_endless 177 = .ok (.ifCond .ne 23, 3) := by decide +kernel
theorem dX10_endless_180 : decode cX10_endless 180 = .ok (.aload_n 0, 1) := by decide +kernel
theorem dX10_endless_181 : decode cX10_endless 181 = .ok (.getfield 89, 3) := by decide +kernel
theorem dX10_endless_184 : decode cX10_endless 184 = .ok (.iload 4, 2) := by decide +kernel
theorem dX10_endless_186 : decode cX10_endless 186 = .ok (.baload, 1) := by decide +kernel
theorem dX10_endless_187 : decode cX10_endless 187 = .ok (.ifCond .ne 17, 3) := by decide +kernel
theorem dX10_endless_190 : decode cX10_endless 190 = .ok (.aload_n 0, 1) := by decide +kernel
theorem dX10_endless_191 : decode cX10_endless 191 = .ok (.getfield 70, 3) := by decide +kernel
theorem dX10_endless_194 : decode cX10_endless 194 = .ok (.iload 4, 2) := by decide +kernel
theorem dX10_endless_196 : decode cX10_endless 196 = .ok (.iaload, 1) := by decide +kernel
theorem dX10_endless_197 : decode cX10_endless 197 = .ok (.ifCond .ge 7, 3) := by decide +kernel
theorem dX10_endless_200 : decode cX10_endless 200 = .ok (.iconst 1, 1) := by decide +kernel
theorem dX10_endless_201 : decode cX10_endless 201 = .ok (.goto 4, 3) := by decide +kernel
theorem dX10_endless_204 : decode cX10_endless 204 = .ok (.iconst 0, 1) := by decide +kernel
theorem dX10_endless_205 : decode cX10_endless 205 = .ok (.istore_n 3, 1) := by decide +kernel
theorem dX10_endless_206 : decode cX10_endless 206 = .ok (.iinc 4 1, 3) := by decide +kernel
theorem dX10_endless_209 : decode cX10_endless 209 = .ok (.goto (-44), 3) := by decide +kernel
theorem dX10_endless_212 : decode cX10_endless 212 = .ok (.iload_n 3, 1) := by decide +kernel
theorem dX10_endless_213 : decode cX10_endless 213 = .ok (.ireturn, 1) := by decide +kernel
theorem dX10_goal_0 : decode cX10_goal 0 = .ok (.aload_n 0, 1) := by decide +kernel
theorem dX10_goal_1 : decode cX10_goal 1 = .ok (.getfield 93, 3) := by decide +kernel
theorem dX10_goal_4 : decode cX10_goal 4 = .ok (.aload_n 0, 1) := by decide +kernel
theorem dX10_goal_5 : decode cX10_goal 5 = .ok (.getfield 249, 3) := by decide +kernel
theorem dX10_goal_8 : decode cX10_goal 8 = .ok (.iload_n 1, 1) := by decide +kernel
theorem dX10_goal_9 : decode cX10_goal 9 = .ok (.iastore, 1) := by decide +kernel
theorem dX10_goal_10 : decode cX10_goal 10 = .ok (.aload_n 0, 1) := by decide +kernel
theorem dX10_goal_11 : decode cX10_goal 11 = .ok (.getfield 96, 3) := by decide +kernel
theorem dX10_goal_14 : decode cX10_goal 14 = .ok (.aload_n 0, 1) := by decide +kernel
theorem dX10_goal_15 : decode cX10_goal 15 = .ok (.getfield 249, 3) := by decide +kernel
theorem dX10_goal_18 : decode cX10_goal 18 = .ok (.iload_n 2, 1) := by decide +kernel
theorem dX10_goal_19 : decode cX10_goal 19 = .ok (.iastore, 1) := by decide +kernel
theorem dX10_goal_20 : decode cX10_goal 20 = .ok (.aload_n 0, 1) := by decide +kernel
theorem dX10_goal_21 : decode cX10_goal 21 = .ok (.getfield 99, 3) := by decide +kernel
theorem dX10_goal_24 : decode cX10_goal 24 = .ok (.aload_n 0, 1) := by decide +kernel
theorem dX10_goal_25 : decode cX10_goal 25 = .ok (.getfield 249, 3) := by decide +kernel
theorem dX10_goal_28 : decode cX10_goal 28 = .ok (.iload_n 3, 1) := by decide +kernel
theorem dX10_goal_29 : decode cX10_goal 29 = .ok (.iastore, 1) := by decide +kernel
theorem dX10_goal_30 : decode cX10_goal 30 = .ok (.aload_n 0, 1) := by decide +kernel
theorem dX10_goal_31 : decode cX10_goal 31 = .ok (.getfield 102, 3) := by decide +kernel
theorem dX10_goal_34 : decode cX10_goal 34 = .ok (.aload_n 0, 1) := by decide +kernel
theorem dX10_goal_35 : decode cX10_goal 35 = .ok (.getfield 249, 3) := by decide +kernel
theorem dX10_goal_38 : decode cX10_goal 38 = .ok (.iload 4, 2) := by decide +kernel
theorem dX10_goal_40 : decode cX10_goal 40 = .ok (.iastore, 1) := by decide +kernel
theorem dX10_goal_41 : decode cX10_goal 41 = .ok (.aload_n 0, 1) := by decide +kernel
theorem dX10_goal_42 : decode cX10_goal 42 = .ok (.getfield 105, 3) := by decide +kernel
theorem dX10_goal_45 : decode cX10_goal 45 = .ok (.aload_n 0, 1) := by decide +kernel
theorem dX10_goal_46 : decode cX10_goal 46 = .ok (.getfield 249, 3) := by decide +kernel
theorem dX10_goal_49 : decode cX10_goal 49 = .ok (.iload 5, 2) := by decide +kernel
theorem dX10_goal_51 : decode cX10_goal 51 = .ok (.iastore, 1) := by decide +kernel
theorem dX10_goal_52 : decode cX10_goal 52 = .ok (.aload_n 0, 1) := by decide +kernel
theorem dX10_goal_53 : decode cX10_goal 53 = .ok (.dup, 1) := by decide +kernel
theorem dX10_goal_54 : decode cX10_goal 54 = .ok (.getfield 249, 3) := by decide +kernel
theorem dX10_goal_57 : decode cX10_goal 57 = .ok (.iconst 1, 1) := by decide +kernel
theorem dX10_goal_58 : decode cX10_goal 58 = .ok (.iadd, 1) := by decide +kernel
theorem dX10_goal_59 : decode cX10_goal 59 = .ok (.putfield 249, 3) := by decide +kernel
theorem dX10_goal_62 : decode cX10_goal 62 = .ok (.return_, 1) := by decide +kernel
theorem dX10_place_0 : decode cX10_place 0 = .ok (.aload_n 0, 1) := by decide +kernel
theorem dX10_place_1 : decode cX10_place 1 = .ok (.dup, 1) := by decide +kernel
theorem dX10_place_2 : decode cX10_place 2 = .ok (.getfield 252, 3) := by decide +kernel
theorem dX10_place_5 : decode cX10_place 5 = .ok (.iconst 1, 1) := by decide +kernel
theorem dX10_place_6 : decode cX10_place 6 = .ok (.iadd, 1) := by decide +kernel
theorem dX10_place_7 : decode cX10_place 7 = .ok (.putfield 252, 3) := by decide +kernel
theorem dX10_place_10 : decode cX10_place 10 = .ok (.aload_n 0, 1) := by decide +kernel
theorem dX10_place_11 : decode cX10_place 11 = .ok (.getfield 108, 3) := by decide +kernel
theorem dX10_place_14 : decode cX10_place 14 = .ok (.aload_n 0, 1) := by decide +kernel
theorem dX10_place_15 : decode cX10_place 15 = .ok (.getfield 252, 3) := by decide +kernel
theorem dX10_place_18 : decode cX10_place 18 = .ok (.iload_n 1, 1) := by decide +kernel
theorem dX10_place_19 : decode cX10_place 19 = .ok (.iastore, 1) := by decide +kernel
theorem dX10_place_20 : decode cX10_place 20 = .ok (.aload_n 0, 1) := by decide +kernel
theorem dX10_place_21 : decode cX10_place 21 = .ok (.getfield 111, 3) := by decide +kernel
theorem dX10_place_24 : decode cX10_place 24 = .ok (.aload_n 0, 1) := by decide +kernel
theorem dX10_place_25 : decode cX10_place 25 = .ok (.getfield 252, 3) := by decide +kernel
theorem dX10_place_28 : decode cX10_place 28 = .ok (.iload_n 2, 1) := by decide +kernel
theorem dX10_place_29 : decode cX10_place 29 = .ok (.iastore, 1) := by decide +kernel
theorem dX10_place_30 : decode cX10_place 30 = .ok (.aload_n 0, 1) := by decide +kernel
theorem dX10_place_31 : decode cX10_place 31 = .ok (.getfield 114, 3) := by decide +kernel
theorem dX10_place_34 : decode cX10_place 34 = .ok (.aload_n 0, 1) := by decide +kernel
theorem dX10_place_35 : decode cX10_place 35 = .ok (.getfield 252, 3) := by decide +kernel
theorem dX10_place_38 : decode cX10_place 38 = .ok (.iload_n 3, 1) := by decide +kernel
theorem dX10_place_39 : decode cX10_place 39 = .ok (.iastore, 1) := by decide +kernel
theorem dX10_place_40 : decode cX10_place 40 = .ok (.aload_n 0, 1) := by decide +kernel
theorem dX10_place_41 : decode cX10_place 41 = .ok (.getfield 252, 3) := by decide +kernel
theorem dX10_place_44 : decode cX10_place 44 = .ok (.ireturn, 1) := by decide +kernel
theorem dX10_variable_0 : decode cX10_variable 0 = .ok (.iload_n 2, 1) := by decide +kernel
theorem dX10_variable_1 : decode cX10_variable 1 = .ok (.istore 4, 2) := by decide +kernel
theorem dX10_variable_3 : decode cX10_variable 3 = .ok (.iconst 0, 1) := by decide +kernel
theorem dX10_variable_4 : decode cX10_variable 4 = .ok (.istore 5, 2) := by decide +kernel
theorem dX10_variable_6 : decode cX10_variable 6 = .ok (.iload 5, 2) := by decide +kernel
theorem dX10_variable_8 : decode cX10_variable 8 = .ok (.iload_n 1, 1) := by decide +kernel
theorem dX10_variable_9 : decode cX10_variable 9 = .ok (.if_icmp .ge 18, 3) := by decide +kernel
theorem dX10_variable_12 : decode cX10_variable 12 = .ok (.aload_n 0, 1) := by decide +kernel
theorem dX10_variable_13 : decode cX10_variable 13 = .ok (.getfield 114, 3) := by decide +kernel
theorem dX10_variable_16 : decode cX10_variable 16 = .ok (.iload 4, 2) := by decide +kernel
theorem dX10_variable_18 : decode cX10_variable 18 = .ok (.iaload, 1) := by decide +kernel
theorem dX10_variable_19 : decode cX10_variable 19 = .ok (.istore 4, 2) := by decide +kernel
theorem dX10_variable_21 : decode cX10_variable 21 = .ok (.iinc 5 1, 3) := by decide +kernel
theorem dX10_variable_24 : decode cX10_variable 24 = .ok (.goto (-18), 3) := by decide +kernel
theorem dX10_variable_27 : decode cX10_variable 27 = .ok (.aload_n 0, 1) := by decide +kernel
theorem dX10_variable_28 : decode cX10_variable 28 = .ok (.getfield 111, 3) := by decide +kernel
theorem dX10_variable_31 : decode cX10_variable 31 = .ok (.iload 4, 2) := by decide +kernel
theorem dX10_variable_33 : decode cX10_variable 33 = .ok (.iaload, 1) := by decide +kernel
theorem dX10_variable_34 : decode cX10_variable 34 = .ok (.iconst (-1), 1) := by decide +kernel
theorem dX10_variable_35 : decode cX10_variable 35 = .ok (.if_icmp .ne 18, 3) := by decide +kernel
theorem dX10_variable_38 : decode cX10_variable 38 = .ok (.aload_n 0, 1) := by decide +kernel
theorem dX10_variable_39 : decode cX10_variable 39 = .ok (.iload_n 3, 1) := by decide +kernel
theorem dX10_variable_40 : decode cX10_variable 40 = .ok (.aload_n 0, 1) := by decide +kernel
theorem dX10_variable_41 : decode cX10_variable 41 = .ok (.getfield 108, 3) := by decide +kernel
theorem dX10_variable_44 : decode cX10_variable 44 = .ok (.iload 4, 2) := by decide +kernel
theorem dX10_variable_46 : decode cX10_variable 46 = .ok (.iaload, 1) := by decide +kernel
theorem dX10_variable_47 : decode cX10_variable 47 = .ok (.invokevirtual 255, 3) := by decide +kernel
theorem dX10_variable_50 : decode cX10_variable 50 = .ok (.goto 36, 3) := by decide +kernel
theorem dX10_variable_53 : decode cX10_variable 53 = .ok (.aload_n 0, 1) := by decide +kernel
theorem dX10_variable_54 : decode cX10_variable 54 = .ok (.invokevirtual 258, 3) := by decide +kernel
theorem dX10_variable_57 : decode cX10_variable 57 = .ok (.istore 5, 2) := by decide +kernel
theorem dX10_variable_59 : decode cX10_variable 59 = .ok (.aload_n 0, 1) := by decide +kernel
theorem dX10_variable_60 : decode cX10_variable 60 = .ok (.iload_n 3, 1) := by decide +kernel
theorem dX10_variable_61 : decode cX10_variable 61 = .ok (.aload_n 0, 1) := by decide +kernel
theorem dX10_variable_62 : decode cX10_variable 62 = .ok (.aload_n 0, 1) := by decide +kernel
theorem dX10_variable_63 : decode cX10_variable 63 = .ok (.getfield 108, 3) := by decide +kernel
theorem dX10_variable_66 : decode cX10_variable 66 = .ok (.iload 4, 2) := by decide +kernel
theorem dX10_variable_68 : decode cX10_variable 68 = .ok (.iaload, 1) := by decide +kernel
theorem dX10_variable_69 : decode cX10_variable 69 = .ok (.iload 5, 2) := by decide +kernel
theorem dX10_variable_71 : decode cX10_variable 71 = .ok (.aload_n 0, 1) := by decide +kernel
theorem dX10_variable_72 : decode cX10_variable 72 = .ok (.getfield 111, 3) := by decide +kernel
theorem dX10_variable_75 : decode cX10_variable 75 = .ok (.iload 4, 2) := by decide +kernel
theorem dX10_variable_77 : decode cX10_variable 77 = .ok (.iaload, 1) := by decide +kernel
theorem dX10_variable_78 : decode cX10_variable 78 = .ok (.iload 5, 2) := by decide +kernel
theorem dX10_variable_80 : decode cX10_variable 80 = .ok (.invokevirtual 261, 3) := by decide +kernel
theorem dX10_variable_83 : decode cX10_variable 83 = .ok (.invokevirtual 255, 3) := by decide +kernel
theorem dX10_variable_86 : decode cX10_variable 86 = .ok (.return_, 1) := by decide +kernel
theorem dX10_function_0 : decode cX10_function 0 = .ok (.aload_n 0, 1) := by decide +kernel
theorem dX10_function_1 : decode cX10_function 1 = .ok (.invokevirtual 258, 3) := by decide +kernel
theorem dX10_function_4 : decode cX10_function 4 = .ok (.istore 5, 2) := by decide +kernel
theorem dX10_function_6 : decode cX10_function 6 = .ok (.aload_n 0, 1) := by decide +kernel
theorem dX10_function_7 : decode cX10_function 7 = .ok (.invokevirtual 258, 3) := by decide +kernel
theorem dX10_function_10 : decode cX10_function 10 = .ok (.istore 6, 2) := by decide +kernel
theorem dX10_function_12 : decode cX10_function 12 = .ok (.aload_n 0, 1) := by decide +kernel
theorem dX10_function_13 : decode cX10_function 13 = .ok (.invokevirtual 258, 3) := by decide +kernel
theorem dX10_function_16 : decode cX10_function 16 = .ok (.istore 7, 2) := by decide +kernel
theorem dX10_function_18 : decode cX10_function 18 = .ok (.aload_n 0, 1) := by decide +kernel
theorem dX10_function_19 : decode cX10_function 19 = .ok (.invokevirtual 258, 3) := by decide +kernel
theorem dX10_function_22 : decode cX10_function 22 = .ok (.istore 8, 2) := by decide +kernel
theorem dX10_function_24 : decode cX10_function 24 = .ok (.aload_n 0, 1) := by decide +kernel
theorem dX10_function_25 : decode cX10_function 25 = .ok (.iload 5, 2) := by decide +kernel
theorem dX10_function_27 : decode cX10_function 27 = .ok (.iload 6, 2) := by decide +kernel
theorem dX10_function_29 : decode cX10_function 29 = .ok (.iload 7, 2) := by decide +kernel
theorem dX10_function_31 : decode cX10_function 31 = .ok (.iload 8, 2) := by decide +kernel
theorem dX10_function_33 : decode cX10_function 33 = .ok (.invokevirtual 261, 3) := by decide +kernel
theorem dX10_function_36 : decode cX10_function 36 = .ok (.istore 9, 2) := by decide +kernel
theorem dX10_function_38 : decode cX10_function 38 = .ok (.aload_n 0, 1) := by decide +kernel
theorem dX10_function_39 : decode cX10_function 39 = .ok (.iload 4, 2) := by decide +kernel
theorem dX10_function_41 : decode cX10_function 41 = .ok (.iload 9, 2) := by decide +kernel
theorem dX10_function_43 : decode cX10_function 43 = .ok (.invokevirtual 255, 3) := by decide +kernel
theorem dX10_function_46 : decode cX10_function 46 = .ok (.iload_n 1, 1) := by decide +kernel
theorem dX10_function_47 : decode cX10_function 47 = .ok (.bipush 11, 2) := by decide +kernel
theorem dX10_function_49 : decode cX10_function 49 = .ok (.if_icmp .ne 14, 3) := by decide +kernel
theorem dX10_function_52 : decode cX10_function 52 = .ok (.aload_n 0, 1) := by decide +kernel
theorem dX10_function_53 : decode cX10_function 53 = .ok (.iload 9, 2) := by decide +kernel
theorem dX10_function_55 : decode cX10_function 55 = .ok (.iconst (-1), 1) := by decide +kernel
theorem dX10_function_56 : decode cX10_function 56 = .ok (.iload_n 3, 1) := by decide +kernel
theorem dX10_function_57 : decode cX10_function 57 = .ok (.invokevirtual 264, 3) := by decide +kernel
theorem dX10_function_60 : decode cX10_function 60 = .ok (.goto 4, 3) := by decide +kernel
theorem dX10_function_63 : decode cX10_function 63 = .ok (.iload_n 3, 1) := by decide +kernel
theorem dX10_function_64 : decode cX10_function 64 = .ok (.istore 10, 2) := by decide +kernel
theorem dX10_function_66 : decode cX10_function 66 = .ok (.aload_n 0, 1) := by decide +kernel
theorem dX10_function_67 : decode cX10_function 67 = .ok (.aload_n 0, 1) := by decide +kernel
theorem dX10_function_68 : decode cX10_function 68 = .ok (.getfield 13, 3) := by decide +kernel
theorem dX10_function_71 : decode cX10_function 71 = .ok (.iload_n 2, 1) := by decide +kernel
theorem dX10_function_72 : decode cX10_function 72 = .ok (.iaload, 1) := by decide +kernel
theorem dX10_function_73 : decode cX10_function 73 = .ok (.aload_n 0, 1) := by decide +kernel
theorem dX10_function_74 : decode cX10_function 74 = .ok (.iload 5, 2) := by decide +kernel
theorem dX10_function_76 : decode cX10_function 76 = .ok (.iconst (-1), 1) := by decide +kernel
theorem dX10_function_77 : decode cX10_function 77 = .ok (.iload 10, 2) := by decide +kernel
theorem dX10_function_79 : decode cX10_function 79 = .ok (.invokevirtual 264, 3) := by decide +kernel
theorem dX10_function_82 : decode cX10_function 82 = .ok (.iload 7, 2) := by decide +kernel
theorem dX10_function_84 : decode cX10_function 84 = .ok (.iload 6, 2) := by decide +kernel
theorem dX10_function_86 : decode cX10_function 86 = .ok (.iload 8, 2) := by decide +kernel
theorem dX10_function_88 : decode cX10_function 88 = .ok (.invokevirtual 267, 3) := by decide +kernel
theorem dX10_function_91 : decode cX10_function 91 = .ok (.return_, 1) := by decide +kernel
theorem dX10_solve_0 : decode cX10_solve 0 = .ok (.aload_n 0, 1) := by decide +kernel
theorem dX10_solve_1 : decode cX10_solve 1 = .ok (.dup, 1) := by decide +kernel
theorem dX10_solve_2 : decode cX10_solve 2 = .ok (.getfield 249, 3) := by decide +kernel
theorem dX10_solve_5 : decode cX10_solve 5 = .ok (.iconst 1, 1) := by decide +kernel
theorem dX10_solve_6 : decode cX10_solve 6 = .ok (.isub, 1) := by decide +kernel
theorem dX10_solve_7 : decode cX10_solve 7 = .ok (.putfield 249, 3) := by decide +kernel
theorem dX10_solve_10 : decode cX10_solve 10 = .ok (.aload_n 0, 1) := by decide +kernel
theorem dX10_solve_11 : decode cX10_solve 11 = .ok (.getfield 93, 3) := by decide +kernel
theorem dX10_solve_14 : decode cX10_solve 14 = .ok (.aload_n 0, 1) := by decide +kernel
theorem dX10_solve_15 : decode cX10_solve 15 = .ok (.getfield 249, 3) := by decide +kernel
theorem dX10_solve_18 : decode cX10_solve 18 = .ok (.iaload, 1) := by decide +kernel
theorem dX10_solve_19 : decode cX10_solve 19 = .ok (.istore_n 1, 1) := by decide +kernel
theorem dX10_solve_20 : decode cX10_solve 20 = .ok (.aload_n 0, 1) := by decide +kernel
theorem dX10_solve_21 : decode cX10_solve 21 = .ok (.getfield 96, 3) := by decide +kernel
theorem dX10_solve_24 : decode cX10_solve 24 = .ok (.aload_n 0, 1) := by decide +kernel
theorem dX10_solve_25 : decode cX10_solve 25 = .ok (.getfield 249, 3) := by decide +kernel
theorem dX10_solve_28 : decode cX10_solve 28 = .ok (.iaload, 1) := by decide +kernel
theorem dX10_solve_29 : decode cX10_solve 29 = .ok (.istore_n 2, 1) := by decide +kernel
theorem dX10_solve_30 : decode cX10_solve 30 = .ok (.aload_n 0, 1) := by decide +kernel
theorem dX10_solve_31 : decode cX10_solve 31 = .ok (.getfield 99, 3) := by decide +kernel
theorem dX10_solve_34 : decode cX10_solve 34 = .ok (.aload_n 0, 1) := by decide +kernel
theorem dX10_solve_35 : decode cX10_solve 35 = .ok (.getfield 249, 3) := by decide +kernel
theorem dX10_solve_38 : decode cX10_solve 38 = .ok (.iaload, 1) := by decide +kernel
theorem dX10_solve_39 : decode cX10_solve 39 = .ok (.istore_n 3, 1) := by decide +kernel
theorem dX10_solve_40 : decode cX10_solve 40 = .ok (.aload_n 0, 1) := by decide +kernel
theorem dX10_solve_41 : decode cX10_solve 41 = .ok (.getfield 102, 3) := by decide +kernel
theorem dX10_solve_44 : decode cX10_solve 44 = .ok (.aload_n 0, 1) := by decide +kernel
theorem dX10_solve_45 : decode cX10_solve 45 = .ok (.getfield 249, 3) := by decide +kernel
theorem dX10_solve_48 : decode cX10_solve 48 = .ok (.iaload, 1) := by decide +kernel
theorem dX10_solve_49 : decode cX10_solve 49 = .ok (.istore 4, 2) := by decide +kernel
theorem dX10_solve_51 : decode cX10_solve 51 = .ok (.aload_n 0, 1) := by decide +kernel
theorem dX10_solve_52 : decode cX10_solve 52 = .ok (.getfield 105, 3) := by decide +kernel
theorem dX10_solve_55 : decode cX10_solve 55 = .ok (.aload_n 0, 1) := by decide +kernel
theorem dX10_solve_56 : decode cX10_solve 56 = .ok (.getfield 249, 3) := by decide +kernel
theorem dX10_solve_59 : decode cX10_solve 59 = .ok (.iaload, 1) := by decide +kernel
theorem dX10_solve_60 : decode cX10_solve 60 = .ok (.istore 5, 2) := by decide +kernel
theorem dX10_solve_62 : decode cX10_solve 62 = .ok (.aload_n 0, 1) := by decide +kernel
theorem dX10_solve_63 : decode cX10_solve 63 = .ok (.getfield 7, 3) := by decide +kernel
theorem dX10_solve_66 : decode cX10_solve 66 = .ok (.iload_n 1, 1) := by decide +kernel
theorem dX10_solve_67 : decode cX10_solve 67 = .ok (.iaload, 1) := by decide +kernel
theorem dX10_solve_68 : decode cX10_solve 68 = .ok (.istore 6, 2) := by decide +kernel
theorem dX10_solve_70 : decode cX10_solve 70 = .ok (.iload 6, 2) := by decide +kernel
theorem dX10_solve_72 : decode cX10_solve 72 = .ok (.iconst 0, 1) := by decide +kernel
theorem dX10_solve_73 : decode cX10_solve 73 = .ok (.iconst 3, 1) := by decide +kernel
theorem dX10_solve_74 : decode cX10_solve 74 = .ok (.invokestatic 123, 3) := by decide +kernel
theorem dX10_solve_77 : decode cX10_solve 77 = .ok (.ifCond .ne 17, 3) := by decide +kernel
theorem dX10_solve_80 : decode cX10_solve 80 = .ok (.iload 6, 2) := by decide +kernel
theorem dX10_solve_82 : decode cX10_solve 82 = .ok (.bipush 11, 2) := by decide +kernel
theorem dX10_solve_84 : decode cX10_solve 84 = .ok (.if_icmp .eq 10, 3) := by decide +kernel
theorem dX10_solve_87 : decode cX10_solve 87 = .ok (.iload 6, 2) := by decide +kernel
theorem dX10_solve_89 : decode cX10_solve 89 = .ok (.bipush 9, 2) := by decide +kernel
theorem dX10_solve_91 : decode cX10_solve 91 = .ok (.if_icmp .ne 11, 3) := by decide +kernel
theorem dX10_solve_94 : decode cX10_solve 94 = .ok (.aload_n 0, 1) := by decide +kernel
theorem dX10_solve_95 : decode cX10_solve 95 = .ok (.iload 4, 2) := by decide +kernel
theorem dX10_solve_97 : decode cX10_solve 97 = .ok (.iload 5, 2) := by decide +kernel
theorem dX10_solve_99 : decode cX10_solve 99 = .ok (.invokevirtual 255, 3) := by decide +kernel
theorem dX10_solve_102 : decode cX10_solve 102 = .ok (.iload 6, 2) := by decide +kernel
theorem dX10_solve_104 : decode cX10_solve 104 = .ok (.tableswitch 171 0 11 #[64, 64, 86, 101, 171, 171, 171, 171, 171, 113, 138, 101], 64) := by decide +kernel
theorem dX10_solve_168 : decode cX10_solve 168 = .ok (.aload_n 0, 1) := by decide +kernel
theorem dX10_solve_169 : decode cX10_solve 169 = .ok (.iload_n 3, 1) := by decide +kernel
theorem dX10_solve_170 : decode cX10_solve 170 = .ok (.aload_n 0, 1) := by decide +kernel
theorem dX10_solve_171 : decode cX10_solve 171 = .ok (.iload 6, 2) := by decide +kernel
theorem dX10_solve_173 : decode cX10_solve 173 = .ok (.ifCond .ne 7, 3) := by decide +kernel
theorem dX10_solve_176 : decode cX10_solve 176 = .ok (.iconst 0, 1) := by decide +kernel
theorem dX10_solve_177 : decode cX10_solve 177 = .ok (.goto 4, 3) := by decide +kernel
theorem dX10_solve_180 : decode cX10_solve 180 = .ok (.iconst 1, 1) := by decide +kernel
theorem dX10_solve_181 : decode cX10_solve 181 = .ok (.invokevirtual 236, 3) := by decide +kernel
theorem dX10_solve_184 : decode cX10_solve 184 = .ok (.invokevirtual 255, 3) := by decide +kernel
theorem dX10_solve_187 : decode cX10_solve 187 = .ok (.goto 96, 3) := by decide +kernel
theorem dX10_solve_190 : decode cX10_solve 190 = .ok (.aload_n 0, 1) := by decide +kernel
theorem dX10_solve_191 : decode cX10_solve 191 = .ok (.aload_n 0, 1) := by decide +kernel
theorem dX10_solve_192 : decode cX10_solve 192 = .ok (.getfield 13, 3) := by decide +kernel
theorem dX10_solve_195 : decode cX10_solve 195 = .ok (.iload_n 1, 1) := by decide +kernel
theorem dX10_solve_196 : decode cX10_solve 196 = .ok (.iaload, 1) := by decide +kernel
theorem dX10_solve_197 : decode cX10_solve 197 = .ok (.iload_n 2, 1) := by decide +kernel
theorem dX10_solve_198 : decode cX10_solve 198 = .ok (.iload_n 3, 1) := by decide +kernel
theorem dX10_solve_199 : decode cX10_solve 199 = .ok (.invokevirtual 270, 3) := by decide +kernel
theorem dX10_solve_202 : decode cX10_solve 202 = .ok (.goto 81, 3) := by decide +kernel
theorem dX10_solve_205 : decode cX10_solve 205 = .ok (.aload_n 0, 1) := by decide +kernel
theorem dX10_solve_206 : decode cX10_solve 206 = .ok (.iload 6, 2) := by decide +kernel
theorem dX10_solve_208 : decode cX10_solve 208 = .ok (.iload_n 1, 1) := by decide +kernel
theorem dX10_solve_209 : decode cX10_solve 209 = .ok (.iload_n 2, 1) := by decide +kernel
theorem dX10_solve_210 : decode cX10_solve 210 = .ok (.iload_n 3, 1) := by decide +kernel
theorem dX10_solve_211 : decode cX10_solve 211 = .ok (.invokevirtual 274, 3) := by decide +kernel
theorem dX10_solve_214 : decode cX10_solve 214 = .ok (.goto 69, 3) := by decide +kernel
theorem dX10_solve_217 : decode cX10_solve 217 = .ok (.aload_n 0, 1) := by decide +kernel
theorem dX10_solve_218 : decode cX10_solve 218 = .ok (.invokevirtual 258, 3) := by decide +kernel
theorem dX10_solve_221 : decode cX10_solve 221 = .ok (.istore 7, 2) := by decide +kernel
theorem dX10_solve_223 : decode cX10_solve 223 = .ok (.aload_n 0, 1) := by decide +kernel
theorem dX10_solve_224 : decode cX10_solve 224 = .ok (.aload_n 0, 1) := by decide +kernel
theorem dX10_solve_225 : decode cX10_solve 225 = .ok (.getfield 13, 3) := by decide +kernel
theorem dX10_solve_228 : decode cX10_solve 228 = .ok (.iload_n 1, 1) := by decide +kernel
theorem dX10_solve_229 : decode cX10_solve 229 = .ok (.iaload, 1) := by decide +kernel
theorem dX10_solve_230 : decode cX10_solve 230 = .ok (.iload_n 2, 1) := by decide +kernel
theorem dX10_solve_231 : decode cX10_solve 231 = .ok (.iload 7, 2) := by decide +kernel
theorem dX10_solve_233 : decode cX10_solve 233 = .ok (.iload 7, 2) := by decide +kernel
theorem dX10_solve_235 : decode cX10_solve 235 = .ok (.iload_n 3, 1) := by decide +kernel
theorem dX10_solve_236 : decode cX10_solve 236 = .ok (.invokevirtual 267, 3) := by decide +kernel
theorem dX10_solve_239 : decode cX10_solve 239 = .ok (.goto 44, 3) := by decide +kernel
theorem dX10_solve_242 : decode cX10_solve 242 = .ok (.aload_n 0, 1) := by decide +kernel
theorem dX10_solve_243 : decode cX10_solve 243 = .ok (.invokevirtual 258, 3) := by decide +kernel
theorem dX10_solve_246 : decode cX10_solve 246 = .ok (.istore 8, 2) := by decide +kernel
theorem dX10_solve_248 : decode cX10_solve 248 = .ok (.aload_n 0, 1) := by decide +kernel
theorem dX10_solve_249 : decode cX10_solve 249 = .ok (.aload_n 0, 1) := by decide +kernel
theorem dX10_solve_250 : decode cX10_solve 250 = .ok (.getfield 13, 3) := by decide +kernel
theorem dX10_solve_253 : decode cX10_solve 253 = .ok (.iload_n 1, 1) := by decide +kernel
theorem dX10_solve_254 : decode cX10_solve 254 = .ok (.iaload, 1) := by decide +kernel
theorem dX10_solve_255 : decode cX10_solve 255 = .ok (.aload_n 0, 1) := by decide +kernel
theorem dX10_solve_256 : decode cX10_solve 256 = .ok (.iload_n 3, 1) := by decide +kernel
theorem dX10_solve_257 : decode cX10_solve 257 = .ok (.iload 4, 2) := by decide +kernel
theorem dX10_solve_259 : decode cX10_solve 259 = .ok (.iload_n 2, 1) := by decide +kernel
theorem dX10_solve_260 : decode cX10_solve 260 = .ok (.invokevirtual 264, 3) := by decide +kernel
theorem dX10_solve_263 : decode cX10_solve 263 = .ok (.iload 8, 2) := by decide +kernel
theorem dX10_solve_265 : decode cX10_solve 265 = .ok (.iload 8, 2) := by decide +kernel
theorem dX10_solve_267 : decode cX10_solve 267 = .ok (.iload 5, 2) := by decide +kernel
theorem dX10_solve_269 : decode cX10_solve 269 = .ok (.invokevirtual 267, 3) := by decide +kernel
theorem dX10_solve_272 : decode cX10_solve 272 = .ok (.goto 11, 3) := by decide +kernel
theorem dX10_solve_275 : decode cX10_solve 275 = .ok (.aload_n 0, 1) := by decide +kernel
theorem dX10_solve_276 : decode cX10_solve 276 = .ok (.iload 6, 2) := by decide +kernel
theorem dX10_solve_278 : decode cX10_solve 278 = .ok (.iload_n 1, 1) := by decide +kernel
theorem dX10_solve_279 : decode cX10_solve 279 = .ok (.iload_n 2, 1) := by decide +kernel
theorem dX10_solve_280 : decode cX10_solve 280 = .ok (.invokevirtual 278, 3) := by decide +kernel
theorem dX10_solve_283 : decode cX10_solve 283 = .ok (.return_, 1) := by decide +kernel
theorem dX10_solveTwo_0 : decode cX10_solveTwo 0 = .ok (.aload_n 0, 1) := by decide +kernel
theorem dX10_solveTwo_1 : decode cX10_solveTwo 1 = .ok (.getfield 99, 3) := by decide +kernel
theorem dX10_solveTwo_4 : decode cX10_solveTwo 4 = .ok (.aload_n 0, 1) := by decide +kernel
theorem dX10_solveTwo_5 : decode cX10_solveTwo 5 = .ok (.getfield 249, 3) := by decide +kernel
theorem dX10_solveTwo_8 : decode cX10_solveTwo 8 = .ok (.iaload, 1) := by decide +kernel
theorem dX10_solveTwo_9 : decode cX10_solveTwo 9 = .ok (.istore 4, 2) := by decide +kernel
theorem dX10_solveTwo_11 : decode cX10_solveTwo 11 = .ok (.aload_n 0, 1) := by decide +kernel
theorem dX10_solveTwo_12 : decode cX10_solveTwo 12 = .ok (.getfield 102, 3) := by decide +kernel
theorem dX10_solveTwo_15 : decode cX10_solveTwo 15 = .ok (.aload_n 0, 1) := by decide +kernel
theorem dX10_solveTwo_16 : decode cX10_solveTwo 16 = .ok (.getfield 249, 3) := by decide +kernel
theorem dX10_solveTwo_19 : decode cX10_solveTwo 19 = .ok (.iaload, 1) := by decide +kernel
theorem dX10_solveTwo_20 : decode cX10_solveTwo 20 = .ok (.istore 5, 2) := by decide +kernel
theorem dX10_solveTwo_22 : decode cX10_solveTwo 22 = .ok (.aload_n 0, 1) := by decide +kernel
theorem dX10_solveTwo_23 : decode cX10_solveTwo 23 = .ok (.getfield 105, 3) := by decide +kernel
theorem dX10_solveTwo_26 : decode cX10_solveTwo 26 = .ok (.aload_n 0, 1) := by decide +kernel
theorem dX10_solveTwo_27 : decode cX10_solveTwo 27 = .ok (.getfield 249, 3) := by decide +kernel
theorem dX10_solveTwo_30 : decode cX10_solveTwo 30 = .ok (.iaload, 1) := by decide +kernel
theorem dX10_solveTwo_31 : decode cX10_solveTwo 31 = .ok (.istore 6, 2) := by decide +kernel
theorem dX10_solveTwo_33 : decode cX10_solveTwo 33 = .ok (.aload_n 0, 1) := by decide +kernel
theorem dX10_solveTwo_34 : decode cX10_solveTwo 34 = .ok (.invokevirtual 258, 3) := by decide +kernel
theorem dX10_solveTwo_37 : decode cX10_solveTwo 37 = .ok (.istore 7, 2) := by decide +kernel
theorem dX10_solveTwo_39 : decode cX10_solveTwo 39 = .ok (.iload_n 1, 1) := by decide +kernel
theorem dX10_solveTwo_40 : decode cX10_solveTwo 40 = .ok (.iconst 4, 1) := by decide +kernel
theorem dX10_solveTwo_41 : decode cX10_solveTwo 41 = .ok (.if_icmp .ne 62, 3) := by decide +kernel
theorem dX10_solveTwo_44 : decode cX10_solveTwo 44 = .ok (.aload_n 0, 1) := by decide +kernel
theorem dX10_solveTwo_45 : decode cX10_solveTwo 45 = .ok (.invokevirtual 258, 3) := by decide +kernel
theorem dX10_solveTwo_48 : decode cX10_solveTwo 48 = .ok (.istore 8, 2) := by decide +kernel
theorem dX10_solveTwo_50 : decode cX10_solveTwo 50 = .ok (.aload_n 0, 1) := by decide +kernel
theorem dX10_solveTwo_51 : decode cX10_solveTwo 51 = .ok (.invokevirtual 258, 3) := by decide +kernel
theorem dX10_solveTwo_54 : decode cX10_solveTwo 54 = .ok (.istore 9, 2) := by decide +kernel
theorem dX10_solveTwo_56 : decode cX10_solveTwo 56 = .ok (.aload_n 0, 1) := by decide +kernel
theorem dX10_solveTwo_57 : decode cX10_solveTwo 57 = .ok (.aload_n 0, 1) := by decide +kernel
theorem dX10_solveTwo_58 : decode cX10_solveTwo 58 = .ok (.getfield 13, 3) := by decide +kernel
theorem dX10_solveTwo_61 : decode cX10_solveTwo 61 = .ok (.iload_n 2, 1) := by decide +kernel
theorem dX10_solveTwo_62 : decode cX10_solveTwo 62 = .ok (.iaload, 1) := by decide +kernel
theorem dX10_solveTwo_63 : decode cX10_solveTwo 63 = .ok (.iload_n 3, 1) := by decide +kernel
theorem dX10_solveTwo_64 : decode cX10_solveTwo 64 = .ok (.aload_n 0, 1) := by decide +kernel
theorem dX10_solveTwo_65 : decode cX10_solveTwo 65 = .ok (.iload 8, 2) := by decide +kernel
theorem dX10_solveTwo_67 : decode cX10_solveTwo 67 = .ok (.iload 5, 2) := by decide +kernel
theorem dX10_solveTwo_69 : decode cX10_solveTwo 69 = .ok (.iload 4, 2) := by decide +kernel
theorem dX10_solveTwo_71 : decode cX10_solveTwo 71 = .ok (.iload 9, 2) := by decide +kernel
theorem dX10_solveTwo_73 : decode cX10_solveTwo 73 = .ok (.invokevirtual 261, 3) := by decide +kernel
theorem dX10_solveTwo_76 : decode cX10_solveTwo 76 = .ok (.iload 7, 2) := by decide +kernel
theorem dX10_solveTwo_78 : decode cX10_solveTwo 78 = .ok (.iload 6, 2) := by decide +kernel
theorem dX10_solveTwo_80 : decode cX10_solveTwo 80 = .ok (.invokevirtual 267, 3) := by decide +kernel
theorem dX10_solveTwo_83 : decode cX10_solveTwo 83 = .ok (.aload_n 0, 1) := by decide +kernel
theorem dX10_solveTwo_84 : decode cX10_solveTwo 84 = .ok (.aload_n 0, 1) := by decide +kernel
theorem dX10_solveTwo_85 : decode cX10_solveTwo 85 = .ok (.getfield 16, 3) := by decide +kernel
theorem dX10_solveTwo_88 : decode cX10_solveTwo 88 = .ok (.iload_n 2, 1) := by decide +kernel
theorem dX10_solveTwo_89 : decode cX10_solveTwo 89 = .ok (.iaload, 1) := by decide +kernel
theorem dX10_solveTwo_90 : decode cX10_solveTwo 90 = .ok (.iload_n 3, 1) := by decide +kernel
theorem dX10_solveTwo_91 : decode cX10_solveTwo 91 = .ok (.iload 8, 2) := by decide +kernel
theorem dX10_solveTwo_93 : decode cX10_solveTwo 93 = .ok (.iload 9, 2) := by decide +kernel
theorem dX10_solveTwo_95 : decode cX10_solveTwo 95 = .ok (.iload 7, 2) := by decide +kernel
theorem dX10_solveTwo_97 : decode cX10_solveTwo 97 = .ok (.invokevirtual 267, 3) := by decide +kernel
theorem dX10_solveTwo_100 : decode cX10_solveTwo 100 = .ok (.goto 182, 3) := by decide +kernel
theorem dX10_solveTwo_103 : decode cX10_solveTwo 103 = .ok (.iload_n 1, 1) := by decide +kernel
theorem dX10_solveTwo_104 : decode cX10_solveTwo 104 = .ok (.bipush 8, 2) := by decide +kernel
theorem dX10_solveTwo_106 : decode cX10_solveTwo 106 = .ok (.if_icmp .ne 53, 3) := by decide +kernel
theorem dX10_solveTwo_109 : decode cX10_solveTwo 109 = .ok (.aload_n 0, 1) := by decide +kernel
theorem dX10_solveTwo_110 : decode cX10_solveTwo 110 = .ok (.invokevirtual 258, 3) := by decide +kernel
theorem dX10_solveTwo_113 : decode cX10_solveTwo 113 = .ok (.istore 8, 2) := by decide +kernel
theorem dX10_solveTwo_115 : decode cX10_solveTwo 115 = .ok (.aload_n 0, 1) := by decide +kernel
theorem dX10_solveTwo_116 : decode cX10_solveTwo 116 = .ok (.aload_n 0, 1) := by decide +kernel
theorem dX10_solveTwo_117 : decode cX10_solveTwo 117 = .ok (.getfield 13, 3) := by decide +kernel
theorem dX10_solveTwo_120 : decode cX10_solveTwo 120 = .ok (.iload_n 2, 1) := by decide +kernel
theorem dX10_solveTwo_121 : decode cX10_solveTwo 121 = .ok (.iaload, 1) := by decide +kernel
theorem dX10_solveTwo_122 : decode cX10_solveTwo 122 = .ok (.iload_n 3, 1) := by decide +kernel
theorem dX10_solveTwo_123 : decode cX10_solveTwo 123 = .ok (.iload 8, 2) := by decide +kernel
theorem dX10_solveTwo_125 : decode cX10_solveTwo 125 = .ok (.iload 7, 2) := by decide +kernel
theorem dX10_solveTwo_127 : decode cX10_solveTwo 127 = .ok (.iload 6, 2) := by decide +kernel
theorem dX10_solveTwo_129 : decode cX10_solveTwo 129 = .ok (.invokevirtual 267, 3) := by decide +kernel
theorem dX10_solveTwo_132 : decode cX10_solveTwo 132 = .ok (.aload_n 0, 1) := by decide +kernel
theorem dX10_solveTwo_133 : decode cX10_solveTwo 133 = .ok (.aload_n 0, 1) := by decide +kernel
theorem dX10_solveTwo_134 : decode cX10_solveTwo 134 = .ok (.getfield 16, 3) := by decide +kernel
theorem dX10_solveTwo_137 : decode cX10_solveTwo 137 = .ok (.iload_n 2, 1) := by decide +kernel
theorem dX10_solveTwo_138 : decode cX10_solveTwo 138 = .ok (.iaload, 1) := by decide +kernel
theorem dX10_solveTwo_139 : decode cX10_solveTwo 139 = .ok (.aload_n 0, 1) := by decide +kernel
theorem dX10_solveTwo_140 : decode cX10_solveTwo 140 = .ok (.iload 8, 2) := by decide +kernel
theorem dX10_solveTwo_142 : decode cX10_solveTwo 142 = .ok (.iconst (-1), 1) := by decide +kernel
theorem dX10_solveTwo_143 : decode cX10_solveTwo 143 = .ok (.iload_n 3, 1) := by decide +kernel
theorem dX10_solveTwo_144 : decode cX10_solveTwo 144 = .ok (.invokevirtual 264, 3) := by decide +kernel
theorem dX10_solveTwo_147 : decode cX10_solveTwo 147 = .ok (.iload 4, 2) := by decide +kernel
theorem dX10_solveTwo_149 : decode cX10_solveTwo 149 = .ok (.iload 5, 2) := by decide +kernel
theorem dX10_solveTwo_151 : decode cX10_solveTwo 151 = .ok (.iload 7, 2) := by decide +kernel
theorem dX10_solveTwo_153 : decode cX10_solveTwo 153 = .ok (.invokevirtual 267, 3) := by decide +kernel
theorem dX10_solveTwo_156 : decode cX10_solveTwo 156 = .ok (.goto 126, 3) := by decide +kernel
theorem dX10_solveTwo_159 : decode cX10_solveTwo 159 = .ok (.iload_n 1, 1) := by decide +kernel
theorem dX10_solveTwo_160 : decode cX10_solveTwo 160 = .ok (.bipush 7, 2) := by decide +kernel
theorem dX10_solveTwo_162 : decode cX10_solveTwo 162 = .ok (.if_icmp .ne 60, 3) := by decide +kernel
theorem dX10_solveTwo_165 : decode cX10_solveTwo 165 = .ok (.aload_n 0, 1) := by decide +kernel
theorem dX10_solveTwo_166 : decode cX10_solveTwo 166 = .ok (.aload_n 0, 1) := by decide +kernel
theorem dX10_solveTwo_167 : decode cX10_solveTwo 167 = .ok (.getfield 13, 3) := by decide +kernel
theorem dX10_solveTwo_170 : decode cX10_solveTwo 170 = .ok (.iload_n 2, 1) := by decide +kernel
theorem dX10_solveTwo_171 : decode cX10_solveTwo 171 = .ok (.iaload, 1) := by decide +kernel
theorem dX10_solveTwo_172 : decode cX10_solveTwo 172 = .ok (.iload_n 3, 1) := by decide +kernel
theorem dX10_solveTwo_173 : decode cX10_solveTwo 173 = .ok (.aload_n 0, 1) := by decide +kernel
theorem dX10_solveTwo_174 : decode cX10_solveTwo 174 = .ok (.iconst 1, 1) := by decide +kernel
theorem dX10_solveTwo_175 : decode cX10_solveTwo 175 = .ok (.invokevirtual 236, 3) := by decide +kernel
theorem dX10_solveTwo_178 : decode cX10_solveTwo 178 = .ok (.iload 7, 2) := by decide +kernel
theorem dX10_solveTwo_180 : decode cX10_solveTwo 180 = .ok (.iload 6, 2) := by decide +kernel
theorem dX10_solveTwo_182 : decode cX10_solveTwo 182 = .ok (.invokevirtual 267, 3) := by decide +kernel
theorem dX10_solveTwo_185 : decode cX10_solveTwo 185 = .ok (.aload_n 0, 1) := by decide +kernel
theorem dX10_solveTwo_186 : decode cX10_solveTwo 186 = .ok (.aload_n 0, 1) := by decide +kernel
theorem dX10_solveTwo_187 : decode cX10_solveTwo 187 = .ok (.getfield 16, 3) := by decide +kernel
theorem dX10_solveTwo_190 : decode cX10_solveTwo 190 = .ok (.iload_n 2, 1) := by decide +kernel
theorem dX10_solveTwo_191 : decode cX10_solveTwo 191 = .ok (.iaload, 1) := by decide +kernel
theorem dX10_solveTwo_192 : decode cX10_solveTwo 192 = .ok (.iload_n 3, 1) := by decide +kernel
theorem dX10_solveTwo_193 : decode cX10_solveTwo 193 = .ok (.iload 4, 2) := by decide +kernel
theorem dX10_solveTwo_195 : decode cX10_solveTwo 195 = .ok (.iload 5, 2) := by decide +kernel
theorem dX10_solveTwo_197 : decode cX10_solveTwo 197 = .ok (.iload 7, 2) := by decide +kernel
theorem dX10_solveTwo_199 : decode cX10_solveTwo 199 = .ok (.invokevirtual 267, 3) := by decide +kernel
theorem dX10_solveTwo_202 : decode cX10_solveTwo 202 = .ok (.aload_n 0, 1) := by decide +kernel
theorem dX10_solveTwo_203 : decode cX10_solveTwo 203 = .ok (.aload_n 0, 1) := by decide +kernel
theorem dX10_solveTwo_204 : decode cX10_solveTwo 204 = .ok (.getfield 19, 3) := by decide +kernel
theorem dX10_solveTwo_207 : decode cX10_solveTwo 207 = .ok (.iload_n 2, 1) := by decide +kernel
theorem dX10_solveTwo_208 : decode cX10_solveTwo 208 = .ok (.iaload, 1) := by decide +kernel
theorem dX10_solveTwo_209 : decode cX10_solveTwo 209 = .ok (.iload_n 3, 1) := by decide +kernel
theorem dX10_solveTwo_210 : decode cX10_solveTwo 210 = .ok (.iload 4, 2) := by decide +kernel
theorem dX10_solveTwo_212 : decode cX10_solveTwo 212 = .ok (.iload 5, 2) := by decide +kernel
theorem dX10_solveTwo_214 : decode cX10_solveTwo 214 = .ok (.iload 7, 2) := by decide +kernel
theorem dX10_solveTwo_216 : decode cX10_solveTwo 216 = .ok (.invokevirtual 267, 3) := by decide +kernel
theorem dX10_solveTwo_219 : decode cX10_solveTwo 219 = .ok (.goto 63, 3) := by decide +kernel
theorem dX10_solveTwo_222 : decode cX10_solveTwo 222 = .ok (.aload_n 0, 1) := by decide +kernel
theorem dX10_solveTwo_223 : decode cX10_solveTwo 223 = .ok (.iload 4, 2) := by decide +kernel
theorem dX10_solveTwo_225 : decode cX10_solveTwo 225 = .ok (.aload_n 0, 1) := by decide +kernel
theorem dX10_solveTwo_226 : decode cX10_solveTwo 226 = .ok (.iload_n 1, 1) := by decide +kernel
theorem dX10_solveTwo_227 : decode cX10_solveTwo 227 = .ok (.iconst 5, 1) := by decide +kernel
theorem dX10_solveTwo_228 : decode cX10_solveTwo 228 = .ok (.if_icmp .ne 7, 3) := by decide +kernel
theorem dX10_solveTwo_231 : decode cX10_solveTwo 231 = .ok (.iconst 0, 1) := by decide +kernel
theorem dX10_solveTwo_232 : decode cX10_solveTwo 232 = .ok (.goto 4, 3) := by decide +kernel
theorem dX10_solveTwo_235 : decode cX10_solveTwo 235 = .ok (.iconst 1, 1) := by decide +kernel
theorem dX10_solveTwo_236 : decode cX10_solveTwo 236 = .ok (.invokevirtual 236, 3) := by decide +kernel
theorem dX10_solveTwo_239 : decode cX10_solveTwo 239 = .ok (.invokevirtual 255, 3) := by decide +kernel
theorem dX10_solveTwo_242 : decode cX10_solveTwo 242 = .ok (.aload_n 0, 1) := by decide +kernel
theorem dX10_solveTwo_243 : decode cX10_solveTwo 243 = .ok (.aload_n 0, 1) := by decide +kernel
theorem dX10_solveTwo_244 : decode cX10_solveTwo 244 = .ok (.getfield 13, 3) := by decide +kernel
theorem dX10_solveTwo_247 : decode cX10_solveTwo 247 = .ok (.iload_n 2, 1) := by decide +kernel
theorem dX10_solveTwo_248 : decode cX10_solveTwo 248 = .ok (.iaload, 1) := by decide +kernel
theorem dX10_solveTwo_249 : decode cX10_solveTwo 249 = .ok (.iload_n 3, 1) := by decide +kernel
theorem dX10_solveTwo_250 : decode cX10_solveTwo 250 = .ok (.aload_n 0, 1) := by decide +kernel
theorem dX10_solveTwo_251 : decode cX10_solveTwo 251 = .ok (.iconst 0, 1) := by decide +kernel
theorem dX10_solveTwo_252 : decode cX10_solveTwo 252 = .ok (.invokevirtual 236, 3) := by decide +kernel
theorem dX10_solveTwo_255 : decode cX10_solveTwo 255 = .ok (.iload 7, 2) := by decide +kernel
theorem dX10_solveTwo_257 : decode cX10_solveTwo 257 = .ok (.iload 6, 2) := by decide +kernel
theorem dX10_solveTwo_259 : decode cX10_solveTwo 259 = .ok (.invokevirtual 267, 3) := by decide +kernel
theorem dX10_solveTwo_262 : decode cX10_solveTwo 262 = .ok (.aload_n 0, 1) := by decide +kernel
theorem dX10_solveTwo_263 : decode cX10_solveTwo 263 = .ok (.aload_n 0, 1) := by decide +kernel
theorem dX10_solveTwo_264 : decode cX10_solveTwo 264 = .ok (.getfield 16, 3) := by decide +kernel
theorem dX10_solveTwo_267 : decode cX10_solveTwo 267 = .ok (.iload_n 2, 1) := by decide +kernel
theorem dX10_solveTwo_268 : decode cX10_solveTwo 268 = .ok (.iaload, 1) := by decide +kernel
theorem dX10_solveTwo_269 : decode cX10_solveTwo 269 = .ok (.iload_n 3, 1) := by decide +kernel
theorem dX10_solveTwo_270 : decode cX10_solveTwo 270 = .ok (.aload_n 0, 1) := by decide +kernel
theorem dX10_solveTwo_271 : decode cX10_solveTwo 271 = .ok (.iconst 0, 1) := by decide +kernel
theorem dX10_solveTwo_272 : decode cX10_solveTwo 272 = .ok (.invokevirtual 236, 3) := by decide +kernel
theorem dX10_solveTwo_275 : decode cX10_solveTwo 275 = .ok (.iload 5, 2) := by decide +kernel
theorem dX10_solveTwo_277 : decode cX10_solveTwo 277 = .ok (.iload 7, 2) := by decide +kernel
theorem dX10_solveTwo_279 : decode cX10_solveTwo 279 = .ok (.invokevirtual 267, 3) := by decide +kernel
theorem dX10_solveTwo_282 : decode cX10_solveTwo 282 = .ok (.return_, 1) := by decide +kernel
theorem dX10_numberLetters_0 : decode cX10_numberLetters 0 = .ok (.sipush 640, 3) := by decide +kernel
theorem dX10_numberLetters_3 : decode cX10_numberLetters 3 = .ok (.iconst 1, 1) := by decide +kernel
theorem dX10_numberLetters_4 : decode cX10_numberLetters 4 = .ok (.aload_n 0, 1) := by decide +kernel
theorem dX10_numberLetters_5 : decode cX10_numberLetters 5 = .ok (.getfield 230, 3) := by decide +kernel
theorem dX10_numberLetters_8 : decode cX10_numberLetters 8 = .ok (.isub, 1) := by decide +kernel
theorem dX10_numberLetters_9 : decode cX10_numberLetters 9 = .ok (.imul, 1) := by decide +kernel
theorem dX10_numberLetters_10 : decode cX10_numberLetters 10 = .ok (.istore_n 2, 1) := by decide +kernel
theorem dX10_numberLetters_11 : decode cX10_numberLetters 11 = .ok (.iload_n 2, 1) := by decide +kernel
theorem dX10_numberLetters_12 : decode cX10_numberLetters 12 = .ok (.istore_n 3, 1) := by decide +kernel
theorem dX10_numberLetters_13 : decode cX10_numberLetters 13 = .ok (.iload_n 3, 1) := by decide +kernel
theorem dX10_numberLetters_14 : decode cX10_numberLetters 14 = .ok (.iload_n 2, 1) := by decide +kernel
theorem dX10_numberLetters_15 : decode cX10_numberLetters 15 = .ok (.aload_n 0, 1) := by decide +kernel
theorem dX10_numberLetters_16 : decode cX10_numberLetters 16 = .ok (.getfield 233, 3) := by decide +kernel
theorem dX10_numberLetters_19 : decode cX10_numberLetters 19 = .ok (.iadd, 1) := by decide +kernel
theorem dX10_numberLetters_20 : decode cX10_numberLetters 20 = .ok (.if_icmp .ge 16, 3) := by decide +kernel
theorem dX10_numberLetters_23 : decode cX10_numberLetters 23 = .ok (.aload_n 0, 1) := by decide +kernel
theorem dX10_numberLetters_24 : decode cX10_numberLetters 24 = .ok (.getfield 89, 3) := by decide +kernel
theorem dX10_numberLetters_27 : decode cX10_numberLetters 27 = .ok (.iload_n 3, 1) := by decide +kernel
theorem dX10_numberLetters_28 : decode cX10_numberLetters 28 = .ok (.iconst 0, 1) := by decide +kernel
theorem dX10_numberLetters_29 : decode cX10_numberLetters 29 = .ok (.bastore, 1) := by decide +kernel
theorem dX10_numberLetters_30 : decode cX10_numberLetters 30 = .ok (.iinc 3 1, 3) := by decide +kernel
theorem dX10_numberLetters_33 : decode cX10_numberLetters 33 = .ok (.goto (-20), 3) := by decide +kernel
theorem dX10_numberLetters_36 : decode cX10_numberLetters 36 = .ok (.iconst 0, 1) := by decide +kernel
theorem dX10_numberLetters_37 : decode cX10_numberLetters 37 = .ok (.istore_n 3, 1) := by decide +kernel
theorem dX10_numberLetters_38 : decode cX10_numberLetters 38 = .ok (.iconst 0, 1) := by decide +kernel
theorem dX10_numberLetters_39 : decode cX10_numberLetters 39 = .ok (.istore 4, 2) := by decide +kernel
theorem dX10_numberLetters_41 : decode cX10_numberLetters 41 = .ok (.aload_n 0, 1) := by decide +kernel
theorem dX10_numberLetters_42 : decode cX10_numberLetters 42 = .ok (.getfield 83, 3) := by decide +kernel
theorem dX10_numberLetters_45 : decode cX10_numberLetters 45 = .ok (.iload_n 3, 1) := by decide +kernel
theorem dX10_numberLetters_46 : decode cX10_numberLetters 46 = .ok (.iload_n 1, 1) := by decide +kernel
theorem dX10_numberLetters_47 : decode cX10_numberLetters 47 = .ok (.iastore, 1) := by decide +kernel
theorem dX10_numberLetters_48 : decode cX10_numberLetters 48 = .ok (.iinc 3 1, 3) := by decide +kernel
theorem dX10_numberLetters_51 : decode cX10_numberLetters 51 = .ok (.iload_n 3, 1) := by decide +kernel
theorem dX10_numberLetters_52 : decode cX10_numberLetters 52 = .ok (.ifCond .le 108, 3) := by decide +kernel
theorem dX10_numberLetters_55 : decode cX10_numberLetters 55 = .ok (.iinc 3 (-1), 3) := by decide +kernel
theorem dX10_numberLetters_58 : decode cX10_numberLetters 58 = .ok (.aload_n 0, 1) := by decide +kernel
theorem dX10_numberLetters_59 : decode cX10_numberLetters 59 = .ok (.aload_n 0, 1) := by decide +kernel
theorem dX10_numberLetters_60 : decode cX10_numberLetters 60 = .ok (.getfield 83, 3) := by decide +kernel
theorem dX10_numberLetters_63 : decode cX10_numberLetters 63 = .ok (.iload_n 3, 1) := by decide +kernel
theorem dX10_numberLetters_64 : decode cX10_numberLetters 64 = .ok (.iaload, 1) := by decide +kernel
theorem dX10_numberLetters_65 : decode cX10_numberLetters 65 = .ok (.invokevirtual 239, 3) := by decide +kernel
theorem dX10_numberLetters_68 : decode cX10_numberLetters 68 = .ok (.istore 5, 2) := by decide +kernel
theorem dX10_numberLetters_70 : decode cX10_numberLetters 70 = .ok (.aload_n 0, 1) := by decide +kernel
theorem dX10_numberLetters_71 : decode cX10_numberLetters 71 = .ok (.getfield 89, 3) := by decide +kernel
theorem dX10_numberLetters_74 : decode cX10_numberLetters 74 = .ok (.iload 5, 2) := by decide +kernel
theorem dX10_numberLetters_76 : decode cX10_numberLetters 76 = .ok (.baload, 1) := by decide +kernel
theorem dX10_numberLetters_77 : decode cX10_numberLetters 77 = .ok (.ifCond .ne 80, 3) := by decide +kernel
theorem dX10_numberLetters_80 : decode cX10_numberLetters 80 = .ok (.aload_n 0, 1) := by decide +kernel
theorem dX10_numberLetters_81 : decode cX10_numberLetters 81 = .ok (.getfield 89, 3) := by decide +kernel
theorem dX10_numberLetters_84 : decode cX10_numberLetters 84 = .ok (.iload 5, 2) := by decide +kernel
theorem dX10_numberLetters_86 : decode cX10_numberLetters 86 = .ok (.iconst 1, 1) := by decide +kernel
theorem dX10_numberLetters_87 : decode cX10_numberLetters 87 = .ok (.bastore, 1) := by decide +kernel
theorem dX10_numberLetters_88 : decode cX10_numberLetters 88 = .ok (.aload_n 0, 1) := by decide +kernel
theorem dX10_numberLetters_89 : decode cX10_numberLetters 89 = .ok (.getfield 67, 3) := by decide +kernel
theorem dX10_numberLetters_92 : decode cX10_numberLetters 92 = .ok (.iload 5, 2) := by decide +kernel
theorem dX10_numberLetters_94 : decode cX10_numberLetters 94 = .ok (.iaload, 1) := by decide +kernel
theorem dX10_numberLetters_95 : decode cX10_numberLetters 95 = .ok (.iconst 3, 1) := by decide +kernel
theorem dX10_numberLetters_96 : decode cX10_numberLetters 96 = .ok (.if_icmp .ne 15, 3) := by decide +kernel
theorem dX10_numberLetters_99 : decode cX10_numberLetters 99 = .ok (.aload_n 0, 1) := by decide +kernel
theorem dX10_numberLetters_100 : decode cX10_numberLetters 100 = .ok (.getfield 76, 3) := by decide +kernel
theorem dX10_numberLetters_103 : decode cX10_numberLetters 103 = .ok (.iload 5, 2) := by decide +kernel
theorem dX10_numberLetters_105 : decode cX10_numberLetters 105 = .ok (.iload 4, 2) := by decide +kernel
theorem dX10_numberLetters_107 : decode cX10_numberLetters 107 = .ok (.iastore, 1) := by decide +kernel
theorem dX10_numberLetters_108 : decode cX10_numberLetters 108 = .ok (.iinc 4 1, 3) := by decide +kernel
theorem dX10_numberLetters_111 : decode cX10_numberLetters 111 = .ok (.iconst 3, 1) := by decide +kernel
theorem dX10_numberLetters_112 : decode cX10_numberLetters 112 = .ok (.istore 6, 2) := by decide +kernel
theorem dX10_numberLetters_114 : decode cX10_numberLetters 114 = .ok (.iload 6, 2) := by decide +kernel
theorem dX10_numberLetters_116 : decode cX10_numberLetters 116 = .ok (.ifCond .lt 41, 3) := by decide +kernel
theorem dX10_numberLetters_119 : decode cX10_numberLetters 119 = .ok (.aload_n 0, 1) := by decide +kernel
theorem dX10_numberLetters_120 : decode cX10_numberLetters 120 = .ok (.getfield 67, 3) := by decide +kernel
theorem dX10_numberLetters_123 : decode cX10_numberLetters 123 = .ok (.iload 5, 2) := by decide +kernel
theorem dX10_numberLetters_125 : decode cX10_numberLetters 125 = .ok (.iaload, 1) := by decide +kernel
theorem dX10_numberLetters_126 : decode cX10_numberLetters 126 = .ok (.iconst 2, 1) := by decide +kernel
theorem dX10_numberLetters_127 : decode cX10_numberLetters 127 = .ok (.if_icmp .ne 30, 3) := by decide +kernel
theorem dX10_numberLetters_130 : decode cX10_numberLetters 130 = .ok (.aload_n 0, 1) := by decide +kernel
theorem dX10_numberLetters_131 : decode cX10_numberLetters 131 = .ok (.getfield 83, 3) := by decide +kernel
theorem dX10_numberLetters_134 : decode cX10_numberLetters 134 = .ok (.iload_n 3, 1) := by decide +kernel
theorem dX10_numberLetters_135 : decode cX10_numberLetters 135 = .ok (.aload_n 0, 1) := by decide +kernel
theorem dX10_numberLetters_136 : decode cX10_numberLetters 136 = .ok (.getfield 73, 3) := by decide +kernel
theorem dX10_numberLetters_139 : decode cX10_numberLetters 139 = .ok (.iconst 4, 1) := by decide +kernel
theorem dX10_numberLetters_140 : decode cX10_numberLetters 140 = .ok (.iload 5, 2) := by decide +kernel
theorem dX10_numberLetters_142 : decode cX10_numberLetters 142 = .ok (.imul, 1) := by decide +kernel
theorem dX10_numberLetters_143 : decode cX10_numberLetters 143 = .ok (.iload 6, 2) := by decide +kernel
theorem dX10_numberLetters_145 : decode cX10_numberLetters 145 = .ok (.iadd, 1) := by decide +kernel
theorem dX10_numberLetters_146 : decode cX10_numberLetters 146 = .ok (.iaload, 1) := by decide +kernel
theorem dX10_numberLetters_147 : decode cX10_numberLetters 147 = .ok (.iastore, 1) := by decide +kernel
theorem dX10_numberLetters_148 : decode cX10_numberLetters 148 = .ok (.iinc 3 1, 3) := by decide +kernel
theorem dX10_numberLetters_151 : decode cX10_numberLetters 151 = .ok (.iinc 6 (-1), 3) := by decide +kernel
theorem dX10_numberLetters_154 : decode cX10_numberLetters 154 = .ok (.goto (-40), 3) := by decide +kernel
theorem dX10_numberLetters_157 : decode cX10_numberLetters 157 = .ok (.goto (-106), 3) := by decide +kernel
theorem dX10_numberLetters_160 : decode cX10_numberLetters 160 = .ok (.return_, 1) := by decide +kernel
theorem dX10_told_0 : decode cX10_told 0 = .ok (.iload_n 0, 1) := by decide +kernel
theorem dX10_told_1 : decode cX10_told 1 = .ok (.iconst 3, 1) := by decide +kernel
theorem dX10_told_2 : decode cX10_told 2 = .ok (.if_icmp .ne 9, 3) := by decide +kernel
theorem dX10_told_5 : decode cX10_told 5 = .ok (.iconst 3, 1) := by decide +kernel
theorem dX10_told_6 : decode cX10_told 6 = .ok (.iload_n 1, 1) := by decide +kernel
theorem dX10_told_7 : decode cX10_told 7 = .ok (.iadd, 1) := by decide +kernel
theorem dX10_told_8 : decode cX10_told 8 = .ok (.goto 4, 3) := by decide +kernel
theorem dX10_told_11 : decode cX10_told 11 = .ok (.iload_n 0, 1) := by decide +kernel
theorem dX10_told_12 : decode cX10_told 12 = .ok (.ireturn, 1) := by decide +kernel
theorem dX10_type_0 : decode cX10_type 0 = .ok (.aload_n 0, 1) := by decide +kernel
theorem dX10_type_1 : decode cX10_type 1 = .ok (.iconst 0, 1) := by decide +kernel
theorem dX10_type_2 : decode cX10_type 2 = .ok (.putfield 117, 3) := by decide +kernel
theorem dX10_type_5 : decode cX10_type 5 = .ok (.aload_n 0, 1) := by decide +kernel
theorem dX10_type_6 : decode cX10_type 6 = .ok (.iload_n 1, 1) := by decide +kernel
theorem dX10_type_7 : decode cX10_type 7 = .ok (.invokevirtual 127, 3) := by decide +kernel
theorem dX10_type_10 : decode cX10_type 10 = .ok (.ifCond .eq 12, 3) := by decide +kernel
theorem dX10_type_13 : decode cX10_type 13 = .ok (.aload_n 0, 1) := by decide +kernel
theorem dX10_type_14 : decode cX10_type 14 = .ok (.getfield 28, 3) := by decide +kernel
theorem dX10_type_17 : decode cX10_type 17 = .ok (.iload_n 1, 1) := by decide +kernel
theorem dX10_type_18 : decode cX10_type 18 = .ok (.iaload, 1) := by decide +kernel
theorem dX10_type_19 : decode cX10_type 19 = .ok (.ifCond .le 9, 3) := by decide +kernel
theorem dX10_type_22 : decode cX10_type 22 = .ok (.aload_n 0, 1) := by decide +kernel
theorem dX10_type_23 : decode cX10_type 23 = .ok (.iconst 1, 1) := by decide +kernel
theorem dX10_type_24 : decode cX10_type 24 = .ok (.invokevirtual 138, 3) := by decide +kernel
theorem dX10_type_27 : decode cX10_type 27 = .ok (.ireturn, 1) := by decide +kernel
theorem dX10_type_28 : decode cX10_type 28 = .ok (.aload_n 0, 1) := by decide +kernel
theorem dX10_type_29 : decode cX10_type 29 = .ok (.iconst 0, 1) := by decide +kernel
theorem dX10_type_30 : decode cX10_type 30 = .ok (.putfield 233, 3) := by decide +kernel
theorem dX10_type_33 : decode cX10_type 33 = .ok (.aload_n 0, 1) := by decide +kernel
theorem dX10_type_34 : decode cX10_type 34 = .ok (.iconst 0, 1) := by decide +kernel
theorem dX10_type_35 : decode cX10_type 35 = .ok (.putfield 249, 3) := by decide +kernel
theorem dX10_type_38 : decode cX10_type 38 = .ok (.aload_n 0, 1) := by decide +kernel
theorem dX10_type_39 : decode cX10_type 39 = .ok (.iconst 0, 1) := by decide +kernel
theorem dX10_type_40 : decode cX10_type 40 = .ok (.putfield 252, 3) := by decide +kernel
theorem dX10_type_43 : decode cX10_type 43 = .ok (.aload_n 0, 1) := by decide +kernel
theorem dX10_type_44 : decode cX10_type 44 = .ok (.iconst 0, 1) := by decide +kernel
theorem dX10_type_45 : decode cX10_type 45 = .ok (.putfield 242, 3) := by decide +kernel
theorem dX10_type_48 : decode cX10_type 48 = .ok (.aload_n 0, 1) := by decide +kernel
theorem dX10_type_49 : decode cX10_type 49 = .ok (.invokevirtual 258, 3) := by decide +kernel
theorem dX10_type_52 : decode cX10_type 52 = .ok (.istore_n 2, 1) := by decide +kernel
theorem dX10_type_53 : decode cX10_type 53 = .ok (.aload_n 0, 1) := by decide +kernel
theorem dX10_type_54 : decode cX10_type 54 = .ok (.invokevirtual 258, 3) := by decide +kernel
theorem dX10_type_57 : decode cX10_type 57 = .ok (.istore_n 3, 1) := by decide +kernel
theorem dX10_type_58 : decode cX10_type 58 = .ok (.aload_n 0, 1) := by decide +kernel
theorem dX10_type_59 : decode cX10_type 59 = .ok (.iload_n 1, 1) := by decide +kernel
theorem dX10_type_60 : decode cX10_type 60 = .ok (.iconst 0, 1) := by decide +kernel
theorem dX10_type_61 : decode cX10_type 61 = .ok (.iload_n 2, 1) := by decide +kernel
theorem dX10_type_62 : decode cX10_type 62 = .ok (.iload_n 2, 1) := by decide +kernel
theorem dX10_type_63 : decode cX10_type 63 = .ok (.iload_n 3, 1) := by decide +kernel
theorem dX10_type_64 : decode cX10_type 64 = .ok (.invokevirtual 267, 3) := by decide +kernel
theorem dX10_type_67 : decode cX10_type 67 = .ok (.aload_n 0, 1) := by decide +kernel
theorem dX10_type_68 : decode cX10_type 68 = .ok (.getfield 249, 3) := by decide +kernel
theorem dX10_type_71 : decode cX10_type 71 = .ok (.ifCond .le 17, 3) := by decide +kernel
theorem dX10_type_74 : decode cX10_type 74 = .ok (.aload_n 0, 1) := by decide +kernel
theorem dX10_type_75 : decode cX10_type 75 = .ok (.getfield 242, 3) := by decide +kernel
theorem dX10_type_78 : decode cX10_type 78 = .ok (.ifCond .ne 10, 3) := by decide +kernel
theorem dX10_type_81 : decode cX10_type 81 = .ok (.aload_n 0, 1) := by decide +kernel
theorem dX10_type_82 : decode cX10_type 82 = .ok (.invokevirtual 281, 3) := by decide +kernel
theorem dX10_type_85 : decode cX10_type 85 = .ok (.goto (-18), 3) := by decide +kernel
theorem dX10_type_88 : decode cX10_type 88 = .ok (.aload_n 0, 1) := by decide +kernel
theorem dX10_type_89 : decode cX10_type 89 = .ok (.aload_n 0, 1) := by decide +kernel
theorem dX10_type_90 : decode cX10_type 90 = .ok (.getfield 242, 3) := by decide +kernel
theorem dX10_type_93 : decode cX10_type 93 = .ok (.ifCond .ne 10, 3) := by decide +kernel
theorem dX10_type_96 : decode cX10_type 96 = .ok (.aload_n 0, 1) := by decide +kernel
theorem dX10_type_97 : decode cX10_type 97 = .ok (.invokevirtual 284, 3) := by decide +kernel
theorem dX10_type_100 : decode cX10_type 100 = .ok (.ifCond .eq 7, 3) := by decide +kernel
theorem dX10_type_103 : decode cX10_type 103 = .ok (.iconst 1, 1) := by decide +kernel
theorem dX10_type_104 : decode cX10_type 104 = .ok (.goto 4, 3) := by decide +kernel
theorem dX10_type_107 : decode cX10_type 107 = .ok (.iconst 0, 1) := by decide +kernel
theorem dX10_type_108 : decode cX10_type 108 = .ok (.putfield 242, 3) := by decide +kernel
theorem dX10_type_111 : decode cX10_type 111 = .ok (.aload_n 0, 1) := by decide +kernel
theorem dX10_type_112 : decode cX10_type 112 = .ok (.getfield 242, 3) := by decide +kernel
theorem dX10_type_115 : decode cX10_type 115 = .ok (.ifCond .eq 19, 3) := by decide +kernel
theorem dX10_type_118 : decode cX10_type 118 = .ok (.aload_n 0, 1) := by decide +kernel
theorem dX10_type_119 : decode cX10_type 119 = .ok (.dup, 1) := by decide +kernel
theorem dX10_type_120 : decode cX10_type 120 = .ok (.getfield 288, 3) := by decide +kernel
theorem dX10_type_123 : decode cX10_type 123 = .ok (.iconst 1, 1) := by decide +kernel
theorem dX10_type_124 : decode cX10_type 124 = .ok (.iadd, 1) := by decide +kernel
theorem dX10_type_125 : decode cX10_type 125 = .ok (.putfield 288, 3) := by decide +kernel
theorem dX10_type_128 : decode cX10_type 128 = .ok (.aload_n 0, 1) := by decide +kernel
theorem dX10_type_129 : decode cX10_type 129 = .ok (.iconst 2, 1) := by decide +kernel
theorem dX10_type_130 : decode cX10_type 130 = .ok (.invokevirtual 138, 3) := by decide +kernel
theorem dX10_type_133 : decode cX10_type 133 = .ok (.ireturn, 1) := by decide +kernel
theorem dX10_type_134 : decode cX10_type 134 = .ok (.aload_n 0, 1) := by decide +kernel
theorem dX10_type_135 : decode cX10_type 135 = .ok (.iload_n 3, 1) := by decide +kernel
theorem dX10_type_136 : decode cX10_type 136 = .ok (.invokevirtual 291, 3) := by decide +kernel
theorem dX10_type_139 : decode cX10_type 139 = .ok (.aload_n 0, 1) := by decide +kernel
theorem dX10_type_140 : decode cX10_type 140 = .ok (.iconst 1, 1) := by decide +kernel
theorem dX10_type_141 : decode cX10_type 141 = .ok (.aload_n 0, 1) := by decide +kernel
theorem dX10_type_142 : decode cX10_type 142 = .ok (.getfield 230, 3) := by decide +kernel
theorem dX10_type_145 : decode cX10_type 145 = .ok (.isub, 1) := by decide +kernel
theorem dX10_type_146 : decode cX10_type 146 = .ok (.putfield 230, 3) := by decide +kernel
theorem dX10_type_149 : decode cX10_type 149 = .ok (.aload_n 0, 1) := by decide +kernel
theorem dX10_type_150 : decode cX10_type 150 = .ok (.aload_n 0, 1) := by decide +kernel
theorem dX10_type_151 : decode cX10_type 151 = .ok (.iload_n 3, 1) := by decide +kernel
theorem dX10_type_152 : decode cX10_type 152 = .ok (.invokevirtual 239, 3) := by decide +kernel
theorem dX10_type_155 : decode cX10_type 155 = .ok (.putfield 79, 3) := by decide +kernel
theorem dX10_type_158 : decode cX10_type 158 = .ok (.aload_n 0, 1) := by decide +kernel
theorem dX10_type_159 : decode cX10_type 159 = .ok (.dup, 1) := by decide +kernel
theorem dX10_type_160 : decode cX10_type 160 = .ok (.getfield 295, 3) := by decide +kernel
theorem dX10_type_163 : decode cX10_type 163 = .ok (.iconst 1, 1) := by decide +kernel
theorem dX10_type_164 : decode cX10_type 164 = .ok (.iadd, 1) := by decide +kernel
theorem dX10_type_165 : decode cX10_type 165 = .ok (.putfield 295, 3) := by decide +kernel
theorem dX10_type_168 : decode cX10_type 168 = .ok (.aload_n 0, 1) := by decide +kernel
theorem dX10_type_169 : decode cX10_type 169 = .ok (.getfield 67, 3) := by decide +kernel
theorem dX10_type_172 : decode cX10_type 172 = .ok (.aload_n 0, 1) := by decide +kernel
theorem dX10_type_173 : decode cX10_type 173 = .ok (.getfield 79, 3) := by decide +kernel
theorem dX10_type_176 : decode cX10_type 176 = .ok (.iaload, 1) := by decide +kernel
theorem dX10_type_177 : decode cX10_type 177 = .ok (.ireturn, 1) := by decide +kernel
theorem dX10_part_0 : decode cX10_part 0 = .ok (.aload_n 0, 1) := by decide +kernel
theorem dX10_part_1 : decode cX10_part 1 = .ok (.iconst 0, 1) := by decide +kernel
theorem dX10_part_2 : decode cX10_part 2 = .ok (.putfield 117, 3) := by decide +kernel
theorem dX10_part_5 : decode cX10_part 5 = .ok (.aload_n 0, 1) := by decide +kernel
theorem dX10_part_6 : decode cX10_part 6 = .ok (.getfield 79, 3) := by decide +kernel
theorem dX10_part_9 : decode cX10_part 9 = .ok (.ifCond .lt 7, 3) := by decide +kernel
theorem dX10_part_12 : decode cX10_part 12 = .ok (.iload_n 1, 1) := by decide +kernel
theorem dX10_part_13 : decode cX10_part 13 = .ok (.ifCond .ge 5, 3) := by decide +kernel
theorem dX10_part_16 : decode cX10_part 16 = .ok (.iconst (-1), 1) := by decide +kernel
theorem dX10_part_17 : decode cX10_part 17 = .ok (.ireturn, 1) := by decide +kernel
theorem dX10_part_18 : decode cX10_part 18 = .ok (.aload_n 0, 1) := by decide +kernel
theorem dX10_part_19 : decode cX10_part 19 = .ok (.getfield 79, 3) := by decide +kernel
theorem dX10_part_22 : decode cX10_part 22 = .ok (.istore_n 2, 1) := by decide +kernel
theorem dX10_part_23 : decode cX10_part 23 = .ok (.iload_n 1, 1) := by decide +kernel
theorem dX10_part_24 : decode cX10_part 24 = .ok (.istore_n 3, 1) := by decide +kernel
theorem dX10_part_25 : decode cX10_part 25 = .ok (.iload_n 3, 1) := by decide +kernel
theorem dX10_part_26 : decode cX10_part 26 = .ok (.ifCond .le 57, 3) := by decide +kernel
theorem dX10_part_29 : decode cX10_part 29 = .ok (.iload_n 3, 1) := by decide +kernel
theorem dX10_part_30 : decode cX10_part 30 = .ok (.bipush 10, 2) := by decide +kernel
theorem dX10_part_32 : decode cX10_part 32 = .ok (.irem, 1) := by decide +kernel
theorem dX10_part_33 : decode cX10_part 33 = .ok (.istore 4, 2) := by decide +kernel
theorem dX10_part_35 : decode cX10_part 35 = .ok (.iload 4, 2) := by decide +kernel
theorem dX10_part_37 : decode cX10_part 37 = .ok (.iconst 1, 1) := by decide +kernel
theorem dX10_part_38 : decode cX10_part 38 = .ok (.iconst 4, 1) := by decide +kernel
theorem dX10_part_39 : decode cX10_part 39 = .ok (.invokestatic 123, 3) := by decide +kernel
theorem dX10_part_42 : decode cX10_part 42 = .ok (.ifCond .eq 13, 3) := by decide +kernel
theorem dX10_part_45 : decode cX10_part 45 = .ok (.aload_n 0, 1) := by decide +kernel
theorem dX10_part_46 : decode cX10_part 46 = .ok (.getfield 67, 3) := by decide +kernel
theorem dX10_part_49 : decode cX10_part 49 = .ok (.iload_n 2, 1) := by decide +kernel
theorem dX10_part_50 : decode cX10_part 50 = .ok (.iaload, 1) := by decide +kernel
theorem dX10_part_51 : decode cX10_part 51 = .ok (.iconst 2, 1) := by decide +kernel
theorem dX10_part_52 : decode cX10_part 52 = .ok (.if_icmp .eq 5, 3) := by decide +kernel
theorem dX10_part_55 : decode cX10_part 55 = .ok (.iconst (-1), 1) := by decide +kernel
theorem dX10_part_56 : decode cX10_part 56 = .ok (.ireturn, 1) := by decide +kernel
theorem dX10_part_57 : decode cX10_part 57 = .ok (.aload_n 0, 1) := by decide +kernel
theorem dX10_part_58 : decode cX10_part 58 = .ok (.aload_n 0, 1) := by decide +kernel
theorem dX10_part_59 : decode cX10_part 59 = .ok (.getfield 73, 3) := by decide +kernel
theorem dX10_part_62 : decode cX10_part 62 = .ok (.iconst 4, 1) := by decide +kernel
theorem dX10_part_63 : decode cX10_part 63 = .ok (.iload_n 2, 1) := by decide +kernel
theorem dX10_part_64 : decode cX10_part 64 = .ok (.imul, 1) := by decide +kernel
theorem dX10_part_65 : decode cX10_part 65 = .ok (.iload 4, 2) := by decide +kernel
theorem dX10_part_67 : decode cX10_part 67 = .ok (.iadd, 1) := by decide +kernel
theorem dX10_part_68 : decode cX10_part 68 = .ok (.iconst 1, 1) := by decide +kernel
theorem dX10_part_69 : decode cX10_part 69 = .ok (.isub, 1) := by decide +kernel
theorem dX10_part_70 : decode cX10_part 70 = .ok (.iaload, 1) := by decide +kernel
theorem dX10_part_71 : decode cX10_part 71 = .ok (.invokevirtual 239, 3) := by decide +kernel
theorem dX10_part_74 : decode cX10_part 74 = .ok (.istore_n 2, 1) := by decide +kernel
theorem dX10_part_75 : decode cX10_part 75 = .ok (.iload_n 3, 1) := by decide +kernel
theorem dX10_part_76 : decode cX10_part 76 = .ok (.bipush 10, 2) := by decide +kernel
theorem dX10_part_78 : decode cX10_part 78 = .ok (.idiv, 1) := by decide +kernel
theorem dX10_part_79 : decode cX10_part 79 = .ok (.istore_n 3, 1) := by decide +kernel
theorem dX10_part_80 : decode cX10_part 80 = .ok (.goto (-55), 3) := by decide +kernel
theorem dX10_part_83 : decode cX10_part 83 = .ok (.aload_n 0, 1) := by decide +kernel
theorem dX10_part_84 : decode cX10_part 84 = .ok (.getfield 67, 3) := by decide +kernel
theorem dX10_part_87 : decode cX10_part 87 = .ok (.iload_n 2, 1) := by decide +kernel
theorem dX10_part_88 : decode cX10_part 88 = .ok (.iaload, 1) := by decide +kernel
theorem dX10_part_89 : decode cX10_part 89 = .ok (.aload_n 0, 1) := by decide +kernel
theorem dX10_part_90 : decode cX10_part 90 = .ok (.getfield 76, 3) := by decide +kernel
theorem dX10_part_93 : decode cX10_part 93 = .ok (.iload_n 2, 1) := by decide +kernel
theorem dX10_part_94 : decode cX10_part 94 = .ok (.iaload, 1) := by decide +kernel
theorem dX10_part_95 : decode cX10_part 95 = .ok (.invokestatic 298, 3) := by decide +kernel
theorem dX10_part_98 : decode cX10_part 98 = .ok (.ireturn, 1) := by decide +kernel
theorem dX10_count_0 : decode cX10_count 0 = .ok (.aload_n 0, 1) := by decide +kernel
theorem dX10_count_1 : decode cX10_count 1 = .ok (.iconst 0, 1) := by decide +kernel
theorem dX10_count_2 : decode cX10_count 2 = .ok (.putfield 117, 3) := by decide +kernel
theorem dX10_count_5 : decode cX10_count 5 = .ok (.iload_n 1, 1) := by decide +kernel
theorem dX10_count_6 : decode cX10_count 6 = .ok (.tableswitch 68 0 5 #[38, 43, 48, 53, 58, 63], 38) := by decide +kernel
theorem dX10_count_44 : decode cX10_count 44 = .ok (.aload_n 0, 1) := by decide +kernel
theorem dX10_count_45 : decode cX10_count 45 = .ok (.getfield 120, 3) := by decide +kernel
theorem dX10_count_48 : decode cX10_count 48 = .ok (.ireturn, 1) := by decide +kernel
theorem dX10_count_49 : decode cX10_count 49 = .ok (.aload_n 0, 1) := by decide +kernel
theorem dX10_count_50 : decode cX10_count 50 = .ok (.getfield 224, 3) := by decide +kernel
theorem dX10_count_53 : decode cX10_count 53 = .ok (.ireturn, 1) := by decide +kernel
theorem dX10_count_54 : decode cX10_count 54 = .ok (.aload_n 0, 1) := by decide +kernel
theorem dX10_count_55 : decode cX10_count 55 = .ok (.getfield 209, 3) := by decide +kernel
theorem dX10_count_58 : decode cX10_count 58 = .ok (.ireturn, 1) := by decide +kernel
theorem dX10_count_59 : decode cX10_count 59 = .ok (.aload_n 0, 1) := by decide +kernel
theorem dX10_count_60 : decode cX10_count 60 = .ok (.getfield 212, 3) := by decide +kernel
theorem dX10_count_63 : decode cX10_count 63 = .ok (.ireturn, 1) := by decide +kernel
theorem dX10_count_64 : decode cX10_count 64 = .ok (.aload_n 0, 1) := by decide +kernel
theorem dX10_count_65 : decode cX10_count 65 = .ok (.getfield 295, 3) := by decide +kernel
theorem dX10_count_68 : decode cX10_count 68 = .ok (.ireturn, 1) := by decide +kernel
theorem dX10_count_69 : decode cX10_count 69 = .ok (.aload_n 0, 1) := by decide +kernel
theorem dX10_count_70 : decode cX10_count 70 = .ok (.getfield 288, 3) := by decide +kernel
theorem dX10_count_73 : decode cX10_count 73 = .ok (.ireturn, 1) := by decide +kernel
theorem dX10_count_74 : decode cX10_count 74 = .ok (.iconst (-1), 1) := by decide +kernel
theorem dX10_count_75 : decode cX10_count 75 = .ok (.ireturn, 1) := by decide +kernel
theorem dX10_mean_0 : decode cX10_mean 0 = .ok (.aload_n 0, 1) := by decide +kernel
theorem dX10_mean_1 : decode cX10_mean 1 = .ok (.iconst 0, 1) := by decide +kernel
theorem dX10_mean_2 : decode cX10_mean 2 = .ok (.putfield 117, 3) := by decide +kernel
theorem dX10_mean_5 : decode cX10_mean 5 = .ok (.aload_n 0, 1) := by decide +kernel
theorem dX10_mean_6 : decode cX10_mean 6 = .ok (.getfield 224, 3) := by decide +kernel
theorem dX10_mean_9 : decode cX10_mean 9 = .ok (.ifCond .ne 5, 3) := by decide +kernel
theorem dX10_mean_12 : decode cX10_mean 12 = .ok (.fconst 0, 1) := by decide +kernel
theorem dX10_mean_13 : decode cX10_mean 13 = .ok (.freturn, 1) := by decide +kernel
theorem dX10_mean_14 : decode cX10_mean 14 = .ok (.aload_n 0, 1) := by decide +kernel
theorem dX10_mean_15 : decode cX10_mean 15 = .ok (.getfield 227, 3) := by decide +kernel
theorem dX10_mean_18 : decode cX10_mean 18 = .ok (.i2f, 1) := by decide +kernel
theorem dX10_mean_19 : decode cX10_mean 19 = .ok (.fstore_n 1, 1) := by decide +kernel
theorem dX10_mean_20 : decode cX10_mean 20 = .ok (.aload_n 0, 1) := by decide +kernel
theorem dX10_mean_21 : decode cX10_mean 21 = .ok (.getfield 224, 3) := by decide +kernel
theorem dX10_mean_24 : decode cX10_mean 24 = .ok (.i2f, 1) := by decide +kernel
theorem dX10_mean_25 : decode cX10_mean 25 = .ok (.fstore_n 2, 1) := by decide +kernel
theorem dX10_mean_26 : decode cX10_mean 26 = .ok (.fload_n 1, 1) := by decide +kernel
theorem dX10_mean_27 : decode cX10_mean 27 = .ok (.fload_n 2, 1) := by decide +kernel
theorem dX10_mean_28 : decode cX10_mean 28 = .ok (.fdiv, 1) := by decide +kernel
theorem dX10_mean_29 : decode cX10_mean 29 = .ok (.freturn, 1) := by decide +kernel
end
section
set_option maxRecDepth 20000 in
theorem ggX10_isTerm_X10_in : GoodIn wsX10_isTerm wsX10_in := goodIn_r _ [5] (by decide +kernel) (by decide +kernel)
set_option maxRecDepth 20000 in
theorem gX10_isTerm_X10_in : GoodIn wsX10_isTerm (va_wsS RX10 123 yX10_in wsX10_in) := goodIn_app (goodIn_of _ (by decide +kernel)) ggX10_isTerm_X10_in
set_option maxRecDepth 20000 in
theorem ggX10_hasB_X10_in : GoodIn wsX10_hasB wsX10_in := goodIn_r _ [4] (by decide +kernel) (by decide +kernel)
set_option maxRecDepth 20000 in
theorem gX10_hasB_X10_in : GoodIn wsX10_hasB (va_wsS RX10 123 yX10_in wsX10_in) := goodIn_app (goodIn_of _ (by decide +kernel)) ggX10_hasB_X10_in
set_option maxRecDepth 20000 in
theorem ggX10_hasA_X10_in : GoodIn wsX10_hasA wsX10_in := goodIn_r _ [4] (by decide +kernel) (by decide +kernel)
set_option maxRecDepth 20000 in
theorem gX10_hasA_X10_in : GoodIn wsX10_hasA (va_wsS RX10 123 yX10_in wsX10_in) := goodIn_app (goodIn_of _ (by decide +kernel)) ggX10_hasA_X10_in
set_option maxRecDepth 20000 in
theorem ggX10_fits_X10_in : GoodIn wsX10_fits wsX10_in := goodIn_r _ [4] (by decide +kernel) (by decide +kernel)
set_option maxRecDepth 20000 in
theorem gX10_fits_X10_in : GoodIn wsX10_fits (va_wsS RX10 123 yX10_in wsX10_in) := goodIn_app (goodIn_of _ (by decide +kernel)) ggX10_fits_X10_in
set_option maxRecDepth 20000 in
theorem ggX10_fits_X10_isTerm : GoodIn wsX10_fits wsX10_isTerm := goodIn_r _ [8, 9, 1, 2, 3, 4, 13, 14, 15, 16, 17, 18, 19, 20, 21, 22, 23, 24, 25, 26, 27, 28, 29, 30, 31, 32, 33, 34, 35, 36, 37, 38, 39, 40, 41, 42, 43, 44, 45, 46, 47, 48, 49, 50, 51, 52, 53, 54, 55, 56, 57, 58, 59, 60, 61, 62, 63, 64, 65, 66, 67, 68, 69, 70, 71, 72] (by decide +kernel) (by decide +kernel)
set_option maxRecDepth 20000 in
theorem gX10_fits_X10_isTerm : GoodIn wsX10_fits (wsV RX10 127 RX10 yX10_isTerm wsX10_isTerm) := goodIn_app (goodIn_of _ (by decide +kernel)) ggX10_fits_X10_isTerm
set_option maxRecDepth 20000 in
theorem ggX10_fits_X10_hasB : GoodIn wsX10_fits wsX10_hasB := goodIn_r _ [12, 1, 2, 3, 4] (by decide +kernel) (by decide +kernel)
set_option maxRecDepth 20000 in
theorem gX10_fits_X10_hasB : GoodIn wsX10_fits (va_wsS RX10 131 yX10_hasB wsX10_hasB) := goodIn_app (goodIn_of _ (by decide +kernel)) ggX10_fits_X10_hasB
set_option maxRecDepth 20000 in
theorem ggX10_make_X10_in : GoodIn wsX10_make wsX10_in := goodIn_r _ [13] (by decide +kernel) (by decide +kernel)
set_option maxRecDepth 20000 in
theorem gX10_make_X10_in : GoodIn wsX10_make (va_wsS RX10 123 yX10_in wsX10_in) := goodIn_app (goodIn_of _ (by decide +kernel)) ggX10_make_X10_in
set_option maxRecDepth 20000 in
theorem ggX10_make_X10_fits : GoodIn wsX10_make wsX10_fits := goodIn_r _ [17, 10, 11, 12, 13, 18, 19, 20, 21, 4, 22, 23, 24, 39, 40, 41, 42, 43, 44, 45, 46, 47, 48, 49, 50, 51, 52, 53, 54, 55, 56, 57, 58, 59, 60, 61, 62, 63, 64, 65, 66, 67, 68, 69, 70, 71, 72, 73, 74, 75, 76, 77, 78, 79, 80, 81, 82, 83, 84, 85, 86, 87, 88, 89, 90, 91, 92, 93, 94, 95, 96, 97, 98] (by decide +kernel) (by decide +kernel)
set_option maxRecDepth 20000 in
theorem gX10_make_X10_fits : GoodIn wsX10_make (wsV RX10 134 RX10 yX10_fits wsX10_fits) := goodIn_app (goodIn_of _ (by decide +kernel)) ggX10_make_X10_fits
set_option maxRecDepth 20000 in
theorem ggX10_make_X10_fail : GoodIn wsX10_make wsX10_fail := goodIn_r _ [28, 1, 39, 40, 41, 42, 43, 44, 45, 46, 47, 48, 49, 50, 51, 52, 53, 54, 55, 56, 57, 58, 59, 60, 61, 62, 63, 64, 65, 66, 67, 68, 69, 70, 71, 72, 73, 74, 75, 76, 77, 78, 79, 80, 81, 82, 83, 84, 85, 86, 87, 88, 89, 90, 91, 92, 93, 94, 95, 96, 97, 98] (by decide +kernel) (by decide +kernel)
set_option maxRecDepth 20000 in
theorem gX10_make_X10_fail : GoodIn wsX10_make (wsV RX10 138 RX10 yX10_fail wsX10_fail) := goodIn_app (goodIn_of _ (by decide +kernel)) ggX10_make_X10_fail
set_option maxRecDepth 20000 in
theorem ggX10_make_X10_hasA : GoodIn wsX10_make wsX10_hasA := goodIn_r _ [31, 10, 11, 12, 13] (by decide +kernel) (by decide +kernel)
set_option maxRecDepth 20000 in
theorem gX10_make_X10_hasA : GoodIn wsX10_make (va_wsS RX10 142 yX10_hasA wsX10_hasA) := goodIn_app (goodIn_of _ (by decide +kernel)) ggX10_make_X10_hasA
set_option maxRecDepth 20000 in
theorem ggX10_make_X10_hasB : GoodIn wsX10_make wsX10_hasB := goodIn_r _ [24, 10, 11, 12, 13] (by decide +kernel) (by decide +kernel)
set_option maxRecDepth 20000 in
theorem gX10_make_X10_hasB : GoodIn wsX10_make (va_wsS RX10 131 yX10_hasB wsX10_hasB) := goodIn_app (goodIn_of _ (by decide +kernel)) ggX10_make_X10_hasB
set_option maxRecDepth 20000 in
theorem ggX10_make_X10_greater : GoodIn wsX10_make wsX10_greater := goodIn_r _ [34] (by decide +kernel) (by decide +kernel)
set_option maxRecDepth 20000 in
theorem gX10_make_X10_greater : GoodIn wsX10_make (va_wsS RX10 145 yX10_greater wsX10_greater) := goodIn_app (goodIn_of _ (by decide +kernel)) ggX10_make_X10_greater
set_option maxRecDepth 20000 in
theorem ggX10_make_X10_needs : GoodIn wsX10_make wsX10_needs := goodIn_r _ [38, 9, 32, 33, 12, 34, 39, 40, 41, 42, 43, 44, 45, 46, 47, 48, 49, 50, 51, 52, 53, 54, 55, 56, 57, 58, 59, 60, 61, 62, 63, 64, 65, 66, 67, 68, 69, 70, 71, 72, 73, 74, 75, 76, 77, 78, 79, 80, 81, 82, 83, 84, 85, 86, 87, 88, 89, 90, 91, 92, 93, 94, 95, 96, 97, 98] (by decide +kernel) (by decide +kernel)
set_option maxRecDepth 20000 in
theorem gX10_make_X10_needs : GoodIn wsX10_make (wsV RX10 149 RX10 yX10_needs wsX10_needs) := goodIn_app (goodIn_of _ (by decide +kernel)) ggX10_make_X10_needs
set_option maxRecDepth 20000 in
theorem ggX10_needs_X10_greater : GoodIn wsX10_needs wsX10_greater := goodIn_r _ [5] (by decide +kernel) (by decide +kernel)
set_option maxRecDepth 20000 in
theorem gX10_needs_X10_greater : GoodIn wsX10_needs (va_wsS RX10 145 yX10_greater wsX10_greater) := goodIn_app (goodIn_of _ (by decide +kernel)) ggX10_needs_X10_greater
set_option maxRecDepth 20000 in
theorem ggX10_open_X10_isTerm : GoodIn wsX10_open wsX10_isTerm := goodIn_r _ [7, 8, 9, 10, 6, 11, 12, 13, 14, 15, 16, 17, 18, 19, 20, 21, 22, 23, 24, 25, 26, 27, 28, 29, 30, 31, 32, 33, 34, 35, 36, 37, 38, 39, 40, 41, 42, 43, 44, 45, 46, 47, 48, 49, 50, 51, 52, 53, 54, 55, 56, 57, 58, 59, 60, 61, 62, 63, 64, 65, 66, 67, 68, 69, 70, 71] (by decide +kernel) (by decide +kernel)
set_option maxRecDepth 20000 in
theorem gX10_open_X10_isTerm : GoodIn wsX10_open (wsV RX10 127 RX10 yX10_isTerm wsX10_isTerm) := goodIn_app (goodIn_of _ (by decide +kernel)) ggX10_open_X10_isTerm
set_option maxRecDepth 20000 in
theorem ggX10_begin_X10_give : GoodIn wsX10_begin wsX10_give := goodIn_r _ [14, 15, 16, 40, 41, 42, 43, 44, 45, 46, 47, 48, 49, 50, 51, 52, 53, 54, 55, 56, 57, 58, 59, 60, 61, 62, 63, 64, 65, 66, 67, 68, 69, 70, 71, 72, 73, 74, 75, 76, 77, 78, 79, 80, 81, 82, 83, 84, 85, 86, 87, 88, 89, 90, 91, 92, 93, 94, 95, 96, 97, 98, 99] (by decide +kernel) (by decide +kernel)
set_option maxRecDepth 20000 in
theorem gX10_begin_X10_give : GoodIn wsX10_begin (wsV RX10 174 RX10 yX10_give wsX10_give) := goodIn_app (goodIn_of _ (by decide +kernel)) ggX10_begin_X10_give
set_option maxRecDepth 20000 in
theorem ggX10_begin_X10_closure : GoodIn wsX10_begin wsX10_closure := goodIn_r _ [20, 21, 22, 23, 40, 41, 42, 43, 44, 45, 46, 47, 48, 49, 50, 51, 52, 53, 54, 55, 56, 57, 58, 59, 60, 61, 62, 63, 64, 65, 66, 67, 68, 69, 70, 71, 72, 73, 74, 75, 76, 77, 78, 79, 80, 81, 82, 83, 84, 85, 86, 87, 88, 89, 90, 91, 92, 93, 94, 95, 96, 97, 98, 99] (by decide +kernel) (by decide +kernel)
set_option maxRecDepth 20000 in
theorem gX10_begin_X10_closure : GoodIn wsX10_begin (wsV RX10 178 RX10 yX10_closure wsX10_closure) := goodIn_app (goodIn_of _ (by decide +kernel)) ggX10_begin_X10_closure
set_option maxRecDepth 20000 in
theorem ggX10_begin_X10_bind : GoodIn wsX10_begin wsX10_bind := goodIn_r _ [27, 28, 5, 6, 4, 40, 41, 42, 43, 44, 45, 46, 47, 48, 49, 50, 51, 52, 53, 54, 55, 56, 57, 58, 59, 60, 61, 62, 63, 64, 65, 66, 67, 68, 69, 70, 71, 72, 73, 74, 75, 76, 77, 78, 79, 80, 81, 82, 83, 84, 85, 86, 87, 88, 89, 90, 91, 92, 93, 94, 95, 96, 97, 98, 99] (by decide +kernel) (by decide +kernel)
set_option maxRecDepth 20000 in
theorem gX10_begin_X10_bind : GoodIn wsX10_begin (wsV RX10 184 RX10 yX10_bind wsX10_bind) := goodIn_app (goodIn_of _ (by decide +kernel)) ggX10_begin_X10_bind
set_option maxRecDepth 20000 in
theorem ggX10_begin_X10_then : GoodIn wsX10_begin wsX10_then := goodIn_r _ [32, 33, 34, 35, 36, 37, 38, 39, 9, 40, 41, 42, 43, 44, 45, 46, 47, 48, 49, 50, 51, 52, 53, 54, 55, 56, 57, 58, 59, 60, 61, 62, 63, 64, 65, 66, 67, 68, 69, 70, 71, 72, 73, 74, 75, 76, 77, 78, 79, 80, 81, 82, 83, 84, 85, 86, 87, 88, 89, 90, 91, 92, 93, 94, 95, 96, 97, 98, 99] (by decide +kernel) (by decide +kernel)
set_option maxRecDepth 20000 in
theorem gX10_begin_X10_then : GoodIn wsX10_begin (wsV RX10 188 RX10 yX10_then wsX10_then) := goodIn_app (goodIn_of _ (by decide +kernel)) ggX10_begin_X10_then
set_option maxRecDepth 20000 in
theorem ggX10_call_X10_bind : GoodIn wsX10_call wsX10_bind := goodIn_r _ [16, 17, 18, 19, 20, 21, 22, 23, 24, 25, 26, 27, 28, 29, 30, 31, 32, 33, 34, 35, 36, 37, 38, 39, 40, 41, 42, 43, 44, 45, 46, 47, 48, 49, 50, 51, 52, 53, 54, 55, 56, 57, 58, 59, 60, 61, 62, 63, 64, 65, 66, 67, 68, 69, 70, 71, 72, 73, 74, 75, 76, 77, 78, 79, 80] (by decide +kernel) (by decide +kernel)
set_option maxRecDepth 20000 in
theorem gX10_call_X10_bind : GoodIn wsX10_call (wsV RX10 184 RX10 yX10_bind wsX10_bind) := goodIn_app (goodIn_of _ (by decide +kernel)) ggX10_call_X10_bind
set_option maxRecDepth 20000 in
theorem ggX10_goOn_X10_bind : GoodIn wsX10_goOn wsX10_bind := goodIn_r _ [18, 19, 20, 21, 22, 42, 43, 44, 45, 46, 47, 48, 49, 50, 51, 52, 53, 54, 55, 56, 57, 58, 59, 60, 61, 62, 63, 64, 65, 66, 67, 68, 69, 70, 71, 72, 73, 74, 75, 76, 77, 78, 79, 80, 81, 82, 83, 84, 85, 86, 87, 88, 89, 90, 91, 92, 93, 94, 95, 96, 97, 98, 99, 100, 101] (by decide +kernel) (by decide +kernel)
set_option maxRecDepth 20000 in
theorem gX10_goOn_X10_bind : GoodIn wsX10_goOn (wsV RX10 184 RX10 yX10_bind wsX10_bind) := goodIn_app (goodIn_of _ (by decide +kernel)) ggX10_goOn_X10_bind
set_option maxRecDepth 20000 in
theorem ggX10_goOn_X10_then : GoodIn wsX10_goOn wsX10_then := goodIn_r _ [26, 27, 3, 2, 6, 4, 13, 5, 1, 42, 43, 44, 45, 46, 47, 48, 49, 50, 51, 52, 53, 54, 55, 56, 57, 58, 59, 60, 61, 62, 63, 64, 65, 66, 67, 68, 69, 70, 71, 72, 73, 74, 75, 76, 77, 78, 79, 80, 81, 82, 83, 84, 85, 86, 87, 88, 89, 90, 91, 92, 93, 94, 95, 96, 97, 98, 99, 100, 101] (by decide +kernel) (by decide +kernel)
set_option maxRecDepth 20000 in
theorem gX10_goOn_X10_then : GoodIn wsX10_goOn (wsV RX10 188 RX10 yX10_then wsX10_then) := goodIn_app (goodIn_of _ (by decide +kernel)) ggX10_goOn_X10_then
set_option maxRecDepth 20000 in
theorem ggX10_goOn_X10_call : GoodIn wsX10_goOn wsX10_call := goodIn_r _ [31, 32, 33, 1, 9, 34, 35, 36, 8, 10, 7, 37, 14, 15, 16, 17, 18, 19, 20, 21, 22, 42, 43, 44, 45, 46, 47, 48, 49, 50, 51, 52, 53, 54, 55, 56, 57, 58, 59, 60, 61, 62, 63, 64, 65, 66, 67, 68, 69, 70, 71, 72, 73, 74, 75, 76, 77, 78, 79, 80, 81, 82, 83, 84, 85, 86, 87, 88, 89, 90, 91, 92, 93, 94, 95, 96, 97, 98, 99, 100, 101] (by decide +kernel) (by decide +kernel)
set_option maxRecDepth 20000 in
theorem gX10_goOn_X10_call : GoodIn wsX10_goOn (wsV RX10 196 RX10 yX10_call wsX10_call) := goodIn_app (goodIn_of _ (by decide +kernel)) ggX10_goOn_X10_call
set_option maxRecDepth 20000 in
theorem ggX10_goOn_X10_give : GoodIn wsX10_goOn wsX10_give := goodIn_r _ [41, 8, 10, 42, 43, 44, 45, 46, 47, 48, 49, 50, 51, 52, 53, 54, 55, 56, 57, 58, 59, 60, 61, 62, 63, 64, 65, 66, 67, 68, 69, 70, 71, 72, 73, 74, 75, 76, 77, 78, 79, 80, 81, 82, 83, 84, 85, 86, 87, 88, 89, 90, 91, 92, 93, 94, 95, 96, 97, 98, 99, 100, 101] (by decide +kernel) (by decide +kernel)
set_option maxRecDepth 20000 in
theorem gX10_goOn_X10_give : GoodIn wsX10_goOn (wsV RX10 174 RX10 yX10_give wsX10_give) := goodIn_app (goodIn_of _ (by decide +kernel)) ggX10_goOn_X10_give
set_option maxRecDepth 20000 in
theorem ggX10_run_X10_begin : GoodIn wsX10_run wsX10_begin := goodIn_r _ [13, 14, 7, 15, 16, 17, 18, 8, 4, 5, 19, 20, 21, 12, 22, 23, 24, 25, 26, 27, 28, 2, 29, 30, 31, 32, 33, 34, 1, 35, 36, 37, 38, 3, 39, 40, 41, 42, 43, 44, 55, 56, 57, 58, 59, 60, 61, 62, 63, 64, 65, 66, 67, 68, 69, 70, 71, 72, 73, 74, 75, 76, 77, 78, 79, 80, 81, 82, 83, 84, 85, 86, 87, 88, 89, 90, 91, 92, 93, 94, 95, 96, 97, 98, 99, 100, 101, 102, 103, 104, 105, 106, 107, 108, 109, 110, 111, 112, 113, 114] (by decide +kernel) (by decide +kernel)
set_option maxRecDepth 20000 in
theorem gX10_run_X10_begin : GoodIn wsX10_run (wsV RX10 199 RX10 yX10_begin wsX10_begin) := goodIn_app (goodIn_of _ (by decide +kernel)) ggX10_run_X10_begin
set_option maxRecDepth 20000 in
theorem ggX10_run_X10_goOn : GoodIn wsX10_run wsX10_goOn := goodIn_r _ [48, 5, 40, 39, 42, 44, 41, 7, 23, 6, 24, 49, 50, 43, 31, 32, 33, 12, 34, 1, 17, 18, 16, 35, 36, 37, 38, 3, 51, 52, 53, 54, 8, 4, 29, 14, 30, 15, 19, 20, 21, 22, 55, 56, 57, 58, 59, 60, 61, 62, 63, 64, 65, 66, 67, 68, 69, 70, 71, 72, 73, 74, 75, 76, 77, 78, 79, 80, 81, 82, 83, 84, 85, 86, 87, 88, 89, 90, 91, 92, 93, 94, 95, 96, 97, 98, 99, 100, 101, 102, 103, 104, 105, 106, 107, 108, 109, 110, 111, 112, 113, 114] (by decide +kernel) (by decide +kernel)
set_option maxRecDepth 20000 in
theorem gX10_run_X10_goOn : GoodIn wsX10_run (wsV RX10 202 RX10 yX10_goOn wsX10_goOn) := goodIn_app (goodIn_of _ (by decide +kernel)) ggX10_run_X10_goOn
set_option maxRecDepth 20000 in
theorem ggX10_work_X10_isTerm : GoodIn wsX10_work wsX10_isTerm := goodIn_r _ [16, 17, 18, 19, 15, 20, 80, 81, 82, 83, 84, 85, 86, 87, 88, 89, 90, 91, 92, 93, 94, 95, 96, 97, 98, 99, 100, 101, 102, 103, 104, 105, 106, 107, 108, 109, 110, 111, 112, 113, 114, 115, 116, 117, 118, 119, 120, 121, 122, 123, 124, 125, 126, 127, 128, 129, 130, 131, 132, 133, 134, 135, 136, 137, 138, 139] (by decide +kernel) (by decide +kernel)
set_option maxRecDepth 20000 in
theorem gX10_work_X10_isTerm : GoodIn wsX10_work (wsV RX10 127 RX10 yX10_isTerm wsX10_isTerm) := goodIn_app (goodIn_of _ (by decide +kernel)) ggX10_work_X10_isTerm
set_option maxRecDepth 20000 in
theorem ggX10_work_X10_fail : GoodIn wsX10_work wsX10_fail := goodIn_r _ [24, 1, 80, 81, 82, 83, 84, 85, 86, 87, 88, 89, 90, 91, 92, 93, 94, 95, 96, 97, 98, 99, 100, 101, 102, 103, 104, 105, 106, 107, 108, 109, 110, 111, 112, 113, 114, 115, 116, 117, 118, 119, 120, 121, 122, 123, 124, 125, 126, 127, 128, 129, 130, 131, 132, 133, 134, 135, 136, 137, 138, 139] (by decide +kernel) (by decide +kernel)
set_option maxRecDepth 20000 in
theorem gX10_work_X10_fail : GoodIn wsX10_work (wsV RX10 138 RX10 yX10_fail wsX10_fail) := goodIn_app (goodIn_of _ (by decide +kernel)) ggX10_work_X10_fail
set_option maxRecDepth 20000 in
theorem ggX10_work_X10_in : GoodIn wsX10_work wsX10_in := goodIn_r _ [20] (by decide +kernel) (by decide +kernel)
set_option maxRecDepth 20000 in
theorem gX10_work_X10_in : GoodIn wsX10_work (va_wsS RX10 123 yX10_in wsX10_in) := goodIn_app (goodIn_of _ (by decide +kernel)) ggX10_work_X10_in
set_option maxRecDepth 20000 in
theorem ggX10_work_X10_run : GoodIn wsX10_work wsX10_run := goodIn_r _ [28, 29, 30, 31, 32, 33, 34, 35, 36, 37, 38, 39, 15, 40, 41, 42, 43, 44, 45, 46, 47, 48, 49, 5, 7, 50, 51, 52, 53, 54, 55, 56, 57, 58, 59, 60, 61, 62, 63, 64, 65, 66, 67, 68, 69, 70, 71, 72, 73, 74, 75, 76, 77, 78, 79, 80, 81, 82, 83, 84, 85, 86, 87, 88, 89, 90, 91, 92, 93, 94, 95, 96, 97, 98, 99, 100, 101, 102, 103, 104, 105, 106, 107, 108, 109, 110, 111, 112, 113, 114, 115, 116, 117, 118, 119, 120, 121, 122, 123, 124, 125, 126, 127, 128, 129, 130, 131, 132, 133, 134, 135, 136, 137, 138, 139] (by decide +kernel) (by decide +kernel)
set_option maxRecDepth 20000 in
theorem gX10_work_X10_run : GoodIn wsX10_work (wsV RX10 206 RX10 yX10_run wsX10_run) := goodIn_app (goodIn_of _ (by decide +kernel)) ggX10_work_X10_run
set_option maxRecDepth 20000 in
theorem ggX10_letterCell_X10_cell : GoodIn wsX10_letterCell wsX10_cell := goodIn_r _ [5, 6, 7, 8, 9, 10, 11, 12, 13, 14, 15, 16, 17, 18, 19, 20, 21, 22, 23, 24, 25, 26, 27, 28, 29, 30, 31, 32, 33, 34, 35, 36, 37, 38, 39, 40, 41, 42, 43, 44, 45, 46, 47, 48, 49, 50, 51, 52, 53, 54, 55, 56, 57, 58, 59, 60, 61, 62, 63, 64, 65, 66, 67, 68, 69] (by decide +kernel) (by decide +kernel)
set_option maxRecDepth 20000 in
theorem gX10_letterCell_X10_cell : GoodIn wsX10_letterCell (wsV RX10 236 RX10 yX10_cell wsX10_cell) := goodIn_app (goodIn_of _ (by decide +kernel)) ggX10_letterCell_X10_cell
set_option maxRecDepth 20000 in
theorem ggX10_functionCell_X10_cell : GoodIn wsX10_functionCell wsX10_cell := goodIn_r _ [6, 7, 8, 9, 10, 11, 12, 13, 14, 15, 16, 17, 18, 19, 20, 21, 22, 23, 24, 25, 26, 27, 28, 29, 30, 31, 32, 33, 34, 35, 36, 37, 38, 39, 40, 41, 42, 43, 44, 45, 46, 47, 48, 49, 50, 51, 52, 53, 54, 55, 56, 57, 58, 59, 60, 61, 62, 63, 64, 65, 66, 67, 68, 69, 70] (by decide +kernel) (by decide +kernel)
set_option maxRecDepth 20000 in
theorem gX10_functionCell_X10_cell : GoodIn wsX10_functionCell (wsV RX10 236 RX10 yX10_cell wsX10_cell) := goodIn_app (goodIn_of _ (by decide +kernel)) ggX10_functionCell_X10_cell
set_option maxRecDepth 20000 in
theorem ggX10_contains_X10_end : GoodIn wsX10_contains wsX10_end := goodIn_r _ [11, 12, 13, 14, 15, 16, 17, 18, 19, 20, 21, 22, 23, 24, 25, 26, 27, 28, 29, 30, 31, 32, 33, 34, 35, 36, 37, 38, 39, 40, 41, 42, 43, 44, 45, 46, 47, 48, 49, 50, 51, 52, 53, 54, 55, 56, 57, 58, 59, 60, 61, 62, 63, 64, 65, 66, 67, 68, 69, 70, 71, 72] (by decide +kernel) (by decide +kernel)
set_option maxRecDepth 20000 in
theorem gX10_contains_X10_end : GoodIn wsX10_contains (wsV RX10 239 RX10 yX10_end wsX10_end) := goodIn_app (goodIn_of _ (by decide +kernel)) ggX10_contains_X10_end
set_option maxRecDepth 20000 in
theorem ggX10_equal_X10_end : GoodIn wsX10_equal wsX10_end := goodIn_r _ [10, 4, 19, 20, 21, 22, 23, 24, 25, 26, 27, 28, 29, 30, 31, 32, 33, 34, 35, 36, 37, 38, 39, 40, 41, 42, 43, 44, 45, 46, 47, 48, 49, 50, 51, 52, 53, 54, 55, 56, 57, 58, 59, 60, 61, 62, 63, 64, 65, 66, 67, 68, 69, 70, 71, 72, 73, 74, 75, 76, 77, 78] (by decide +kernel) (by decide +kernel)
set_option maxRecDepth 20000 in
theorem gX10_equal_X10_end : GoodIn wsX10_equal (wsV RX10 239 RX10 yX10_end wsX10_end) := goodIn_app (goodIn_of _ (by decide +kernel)) ggX10_equal_X10_end
set_option maxRecDepth 20000 in
theorem ggX10_equal_X10_contains : GoodIn wsX10_equal wsX10_contains := goodIn_r _ [14, 15, 16, 17, 18, 3, 5, 6, 7, 8, 9, 10, 4, 19, 20, 21, 22, 23, 24, 25, 26, 27, 28, 29, 30, 31, 32, 33, 34, 35, 36, 37, 38, 39, 40, 41, 42, 43, 44, 45, 46, 47, 48, 49, 50, 51, 52, 53, 54, 55, 56, 57, 58, 59, 60, 61, 62, 63, 64, 65, 66, 67, 68, 69, 70, 71, 72, 73, 74, 75, 76, 77, 78] (by decide +kernel) (by decide +kernel)
set_option maxRecDepth 20000 in
theorem gX10_equal_X10_contains : GoodIn wsX10_equal (wsV RX10 245 RX10 yX10_contains wsX10_contains) := goodIn_app (goodIn_of _ (by decide +kernel)) ggX10_equal_X10_contains
set_option maxRecDepth 20000 in
theorem ggX10_endless_X10_end : GoodIn wsX10_endless wsX10_end := goodIn_r _ [11, 5, 12, 13, 14, 15, 16, 17, 18, 19, 20, 21, 22, 23, 24, 25, 26, 27, 28, 29, 30, 31, 32, 33, 34, 35, 36, 37, 38, 39, 40, 41, 42, 43, 44, 45, 46, 47, 48, 49, 50, 51, 52, 53, 54, 55, 56, 57, 58, 59, 60, 61, 62, 63, 64, 65, 66, 67, 68, 69, 70, 71] (by decide +kernel) (by decide +kernel)
set_option maxRecDepth 20000 in
theorem gX10_endless_X10_end : GoodIn wsX10_endless (wsV RX10 239 RX10 yX10_end wsX10_end) := goodIn_app (goodIn_of _ (by decide +kernel)) ggX10_endless_X10_end
set_option maxRecDepth 20000 in
theorem ggX10_variable_X10_equal : GoodIn wsX10_variable wsX10_equal := goodIn_r _ [8, 9, 10, 11, 12, 13, 14, 15, 16, 7, 17, 18, 19, 20, 21, 22, 23, 24, 25, 38, 39, 40, 41, 42, 43, 44, 45, 46, 47, 48, 49, 50, 51, 52, 53, 54, 55, 56, 57, 58, 59, 60, 61, 62, 63, 64, 65, 66, 67, 68, 69, 70, 71, 72, 73, 74, 75, 76, 77, 78, 79, 80, 81, 82, 83, 84, 85, 86, 87, 88, 89, 90, 91, 92, 93, 94, 95, 96, 97] (by decide +kernel) (by decide +kernel)
set_option maxRecDepth 20000 in
theorem gX10_variable_X10_equal : GoodIn wsX10_variable (wsV RX10 255 RX10 yX10_equal wsX10_equal) := goodIn_app (goodIn_of _ (by decide +kernel)) ggX10_variable_X10_equal
set_option maxRecDepth 20000 in
theorem ggX10_variable_X10_letterCell : GoodIn wsX10_variable wsX10_letterCell := goodIn_r _ [29, 30, 31, 32, 7, 33, 22, 23, 11, 12, 38, 39, 40, 41, 42, 43, 44, 45, 46, 47, 48, 49, 50, 51, 52, 53, 54, 55, 56, 57, 58, 59, 60, 61, 62, 63, 64, 65, 66, 67, 68, 69, 70, 71, 72, 73, 74, 75, 76, 77, 78, 79, 80, 81, 82, 83, 84, 85, 86, 87, 88, 89, 90, 91, 92, 93, 94, 95, 96, 97] (by decide +kernel) (by decide +kernel)
set_option maxRecDepth 20000 in
theorem gX10_variable_X10_letterCell : GoodIn wsX10_variable (wsV RX10 258 RX10 yX10_letterCell wsX10_letterCell) := goodIn_app (goodIn_of _ (by decide +kernel)) ggX10_variable_X10_letterCell
set_option maxRecDepth 20000 in
theorem ggX10_variable_X10_functionCell : GoodIn wsX10_variable wsX10_functionCell := goodIn_r _ [37, 13, 30, 31, 32, 7, 33, 22, 23, 11, 12, 38, 39, 40, 41, 42, 43, 44, 45, 46, 47, 48, 49, 50, 51, 52, 53, 54, 55, 56, 57, 58, 59, 60, 61, 62, 63, 64, 65, 66, 67, 68, 69, 70, 71, 72, 73, 74, 75, 76, 77, 78, 79, 80, 81, 82, 83, 84, 85, 86, 87, 88, 89, 90, 91, 92, 93, 94, 95, 96, 97] (by decide +kernel) (by decide +kernel)
set_option maxRecDepth 20000 in
theorem gX10_variable_X10_functionCell : GoodIn wsX10_variable (wsV RX10 261 RX10 yX10_functionCell wsX10_functionCell) := goodIn_app (goodIn_of _ (by decide +kernel)) ggX10_variable_X10_functionCell
set_option maxRecDepth 20000 in
theorem ggX10_function_X10_letterCell : GoodIn wsX10_function wsX10_letterCell := goodIn_r _ [6, 7, 8, 9, 5, 10, 11, 12, 13, 14, 54, 55, 56, 57, 58, 59, 60, 61, 62, 63, 64, 65, 66, 67, 68, 69, 70, 71, 72, 73, 74, 75, 76, 77, 78, 79, 80, 81, 82, 83, 84, 85, 86, 87, 88, 89, 90, 91, 92, 93, 94, 95, 96, 97, 98, 99, 100, 101, 102, 103, 104, 105, 106, 107, 108, 109, 110, 111, 112, 113] (by decide +kernel) (by decide +kernel)
set_option maxRecDepth 20000 in
theorem gX10_function_X10_letterCell : GoodIn wsX10_function (wsV RX10 258 RX10 yX10_letterCell wsX10_letterCell) := goodIn_app (goodIn_of _ (by decide +kernel)) ggX10_function_X10_letterCell
set_option maxRecDepth 20000 in
theorem ggX10_function_X10_functionCell : GoodIn wsX10_function wsX10_functionCell := goodIn_r _ [18, 19, 7, 8, 9, 5, 10, 11, 12, 13, 14, 54, 55, 56, 57, 58, 59, 60, 61, 62, 63, 64, 65, 66, 67, 68, 69, 70, 71, 72, 73, 74, 75, 76, 77, 78, 79, 80, 81, 82, 83, 84, 85, 86, 87, 88, 89, 90, 91, 92, 93, 94, 95, 96, 97, 98, 99, 100, 101, 102, 103, 104, 105, 106, 107, 108, 109, 110, 111, 112, 113] (by decide +kernel) (by decide +kernel)
set_option maxRecDepth 20000 in
theorem gX10_function_X10_functionCell : GoodIn wsX10_function (wsV RX10 261 RX10 yX10_functionCell wsX10_functionCell) := goodIn_app (goodIn_of _ (by decide +kernel)) ggX10_function_X10_functionCell
set_option maxRecDepth 20000 in
theorem ggX10_function_X10_equal : GoodIn wsX10_function wsX10_equal := goodIn_r _ [23, 24, 25, 13, 14, 19, 26, 27, 28, 5, 29, 30, 31, 32, 33, 11, 12, 34, 35, 54, 55, 56, 57, 58, 59, 60, 61, 62, 63, 64, 65, 66, 67, 68, 69, 70, 71, 72, 73, 74, 75, 76, 77, 78, 79, 80, 81, 82, 83, 84, 85, 86, 87, 88, 89, 90, 91, 92, 93, 94, 95, 96, 97, 98, 99, 100, 101, 102, 103, 104, 105, 106, 107, 108, 109, 110, 111, 112, 113] (by decide +kernel) (by decide +kernel)
set_option maxRecDepth 20000 in
theorem gX10_function_X10_equal : GoodIn wsX10_function (wsV RX10 255 RX10 yX10_equal wsX10_equal) := goodIn_app (goodIn_of _ (by decide +kernel)) ggX10_function_X10_equal
set_option maxRecDepth 20000 in
theorem ggX10_function_X10_place : GoodIn wsX10_function wsX10_place := goodIn_r _ [39, 40, 41, 42, 43, 54, 55, 56, 57, 58, 59, 60, 61, 62, 63, 64, 65, 66, 67, 68, 69, 70, 71, 72, 73, 74, 75, 76, 77, 78, 79, 80, 81, 82, 83, 84, 85, 86, 87, 88, 89, 90, 91, 92, 93, 94, 95, 96, 97, 98, 99, 100, 101, 102, 103, 104, 105, 106, 107, 108, 109, 110, 111, 112, 113] (by decide +kernel) (by decide +kernel)
set_option maxRecDepth 20000 in
theorem gX10_function_X10_place : GoodIn wsX10_function (wsV RX10 264 RX10 yX10_place wsX10_place) := goodIn_app (goodIn_of _ (by decide +kernel)) ggX10_function_X10_place
set_option maxRecDepth 20000 in
theorem ggX10_function_X10_goal : GoodIn wsX10_function wsX10_goal := goodIn_r _ [47, 48, 49, 50, 51, 52, 53, 54, 55, 56, 57, 58, 59, 60, 61, 62, 63, 64, 65, 66, 67, 68, 69, 70, 71, 72, 73, 74, 75, 76, 77, 78, 79, 80, 81, 82, 83, 84, 85, 86, 87, 88, 89, 90, 91, 92, 93, 94, 95, 96, 97, 98, 99, 100, 101, 102, 103, 104, 105, 106, 107, 108, 109, 110, 111, 112, 113] (by decide +kernel) (by decide +kernel)
set_option maxRecDepth 20000 in
theorem gX10_function_X10_goal : GoodIn wsX10_function (wsV RX10 267 RX10 yX10_goal wsX10_goal) := goodIn_app (goodIn_of _ (by decide +kernel)) ggX10_function_X10_goal
set_option maxRecDepth 20000 in
theorem ggX10_solve_X10_in : GoodIn wsX10_solve wsX10_in := goodIn_r _ [12] (by decide +kernel) (by decide +kernel)
set_option maxRecDepth 20000 in
theorem gX10_solve_X10_in : GoodIn wsX10_solve (va_wsS RX10 123 yX10_in wsX10_in) := goodIn_app (goodIn_of _ (by decide +kernel)) ggX10_solve_X10_in
set_option maxRecDepth 20000 in
theorem ggX10_solve_X10_equal : GoodIn wsX10_solve wsX10_equal := goodIn_r _ [16, 17, 18, 19, 20, 21, 22, 23, 24, 11, 25, 26, 27, 28, 29, 30, 31, 32, 33, 72, 73, 74, 75, 76, 77, 78, 79, 80, 81, 82, 83, 84, 85, 86, 87, 88, 89, 90, 91, 92, 93, 94, 95, 96, 97, 98, 99, 100, 101, 102, 103, 104, 105, 106, 107, 108, 109, 110, 111, 112, 113, 114, 115, 116, 117, 118, 119, 120, 121, 122, 123, 124, 125, 126, 127, 128, 129, 130, 131] (by decide +kernel) (by decide +kernel)
set_option maxRecDepth 20000 in
theorem gX10_solve_X10_equal : GoodIn wsX10_solve (wsV RX10 255 RX10 yX10_equal wsX10_equal) := goodIn_app (goodIn_of _ (by decide +kernel)) ggX10_solve_X10_equal
set_option maxRecDepth 20000 in
theorem ggX10_solve_X10_cell : GoodIn wsX10_solve wsX10_cell := goodIn_r _ [37, 30, 31, 19, 20, 72, 73, 74, 75, 76, 77, 78, 79, 80, 81, 82, 83, 84, 85, 86, 87, 88, 89, 90, 91, 92, 93, 94, 95, 96, 97, 98, 99, 100, 101, 102, 103, 104, 105, 106, 107, 108, 109, 110, 111, 112, 113, 114, 115, 116, 117, 118, 119, 120, 121, 122, 123, 124, 125, 126, 127, 128, 129, 130, 131] (by decide +kernel) (by decide +kernel)
set_option maxRecDepth 20000 in
theorem gX10_solve_X10_cell : GoodIn wsX10_solve (wsV RX10 236 RX10 yX10_cell wsX10_cell) := goodIn_app (goodIn_of _ (by decide +kernel)) ggX10_solve_X10_cell
set_option maxRecDepth 20000 in
theorem ggX10_solve_X10_variable : GoodIn wsX10_solve wsX10_variable := goodIn_r _ [41, 42, 43, 44, 13, 14, 15, 11, 16, 17, 18, 19, 20, 21, 22, 23, 24, 25, 26, 27, 28, 29, 30, 31, 32, 33, 45, 46, 47, 48, 34, 35, 36, 37, 49, 50, 51, 52, 72, 73, 74, 75, 76, 77, 78, 79, 80, 81, 82, 83, 84, 85, 86, 87, 88, 89, 90, 91, 92, 93, 94, 95, 96, 97, 98, 99, 100, 101, 102, 103, 104, 105, 106, 107, 108, 109, 110, 111, 112, 113, 114, 115, 116, 117, 118, 119, 120, 121, 122, 123, 124, 125, 126, 127, 128, 129, 130, 131] (by decide +kernel) (by decide +kernel)
set_option maxRecDepth 20000 in
theorem gX10_solve_X10_variable : GoodIn wsX10_solve (wsV RX10 270 RX10 yX10_variable wsX10_variable) := goodIn_app (goodIn_of _ (by decide +kernel)) ggX10_solve_X10_variable
set_option maxRecDepth 20000 in
theorem ggX10_solve_X10_function : GoodIn wsX10_solve wsX10_function := goodIn_r _ [56, 8, 45, 46, 47, 11, 48, 34, 35, 36, 37, 30, 31, 19, 20, 49, 50, 51, 52, 21, 13, 14, 15, 16, 17, 18, 22, 23, 24, 25, 26, 27, 28, 29, 32, 33, 57, 58, 59, 60, 61, 44, 43, 42, 62, 63, 64, 65, 2, 1, 3, 4, 5, 6, 72, 73, 74, 75, 76, 77, 78, 79, 80, 81, 82, 83, 84, 85, 86, 87, 88, 89, 90, 91, 92, 93, 94, 95, 96, 97, 98, 99, 100, 101, 102, 103, 104, 105, 106, 107, 108, 109, 110, 111, 112, 113, 114, 115, 116, 117, 118, 119, 120, 121, 122, 123, 124, 125, 126, 127, 128, 129, 130, 131] (by decide +kernel) (by decide +kernel)
set_option maxRecDepth 20000 in
theorem gX10_solve_X10_function : GoodIn wsX10_solve (wsV RX10 274 RX10 yX10_function wsX10_function) := goodIn_app (goodIn_of _ (by decide +kernel)) ggX10_solve_X10_function
set_option maxRecDepth 20000 in
theorem ggX10_solve_X10_letterCell : GoodIn wsX10_solve wsX10_letterCell := goodIn_r _ [48, 34, 35, 36, 11, 37, 30, 31, 19, 20, 72, 73, 74, 75, 76, 77, 78, 79, 80, 81, 82, 83, 84, 85, 86, 87, 88, 89, 90, 91, 92, 93, 94, 95, 96, 97, 98, 99, 100, 101, 102, 103, 104, 105, 106, 107, 108, 109, 110, 111, 112, 113, 114, 115, 116, 117, 118, 119, 120, 121, 122, 123, 124, 125, 126, 127, 128, 129, 130, 131] (by decide +kernel) (by decide +kernel)
set_option maxRecDepth 20000 in
theorem gX10_solve_X10_letterCell : GoodIn wsX10_solve (wsV RX10 258 RX10 yX10_letterCell wsX10_letterCell) := goodIn_app (goodIn_of _ (by decide +kernel)) ggX10_solve_X10_letterCell
set_option maxRecDepth 20000 in
theorem ggX10_solve_X10_goal : GoodIn wsX10_solve wsX10_goal := goodIn_r _ [65, 2, 1, 3, 4, 5, 6, 72, 73, 74, 75, 76, 77, 78, 79, 80, 81, 82, 83, 84, 85, 86, 87, 88, 89, 90, 91, 92, 93, 94, 95, 96, 97, 98, 99, 100, 101, 102, 103, 104, 105, 106, 107, 108, 109, 110, 111, 112, 113, 114, 115, 116, 117, 118, 119, 120, 121, 122, 123, 124, 125, 126, 127, 128, 129, 130, 131] (by decide +kernel) (by decide +kernel)
set_option maxRecDepth 20000 in
theorem gX10_solve_X10_goal : GoodIn wsX10_solve (wsV RX10 267 RX10 yX10_goal wsX10_goal) := goodIn_app (goodIn_of _ (by decide +kernel)) ggX10_solve_X10_goal
set_option maxRecDepth 20000 in
theorem ggX10_solve_X10_place : GoodIn wsX10_solve wsX10_place := goodIn_r _ [60, 61, 44, 43, 42, 72, 73, 74, 75, 76, 77, 78, 79, 80, 81, 82, 83, 84, 85, 86, 87, 88, 89, 90, 91, 92, 93, 94, 95, 96, 97, 98, 99, 100, 101, 102, 103, 104, 105, 106, 107, 108, 109, 110, 111, 112, 113, 114, 115, 116, 117, 118, 119, 120, 121, 122, 123, 124, 125, 126, 127, 128, 129, 130, 131] (by decide +kernel) (by decide +kernel)
set_option maxRecDepth 20000 in
theorem gX10_solve_X10_place : GoodIn wsX10_solve (wsV RX10 264 RX10 yX10_place wsX10_place) := goodIn_app (goodIn_of _ (by decide +kernel)) ggX10_solve_X10_place
set_option maxRecDepth 20000 in
theorem ggX10_solve_X10_solveTwo : GoodIn wsX10_solve wsX10_solveTwo := goodIn_r _ [69, 4, 1, 5, 6, 8, 70, 71, 45, 46, 47, 11, 48, 34, 35, 36, 37, 30, 31, 19, 20, 49, 50, 51, 52, 21, 62, 63, 64, 65, 2, 3, 57, 58, 59, 60, 61, 44, 43, 42, 13, 14, 15, 16, 17, 18, 22, 23, 24, 25, 26, 27, 28, 29, 32, 33, 72, 73, 74, 75, 76, 77, 78, 79, 80, 81, 82, 83, 84, 85, 86, 87, 88, 89, 90, 91, 92, 93, 94, 95, 96, 97, 98, 99, 100, 101, 102, 103, 104, 105, 106, 107, 108, 109, 110, 111, 112, 113, 114, 115, 116, 117, 118, 119, 120, 121, 122, 123, 124, 125, 126, 127, 128, 129, 130, 131] (by decide +kernel) (by decide +kernel)
set_option maxRecDepth 20000 in
theorem gX10_solve_X10_solveTwo : GoodIn wsX10_solve (wsV RX10 278 RX10 yX10_solveTwo wsX10_solveTwo) := goodIn_app (goodIn_of _ (by decide +kernel)) ggX10_solve_X10_solveTwo
set_option maxRecDepth 20000 in
theorem ggX10_solveTwo_X10_letterCell : GoodIn wsX10_solveTwo wsX10_letterCell := goodIn_r _ [12, 13, 14, 15, 11, 16, 17, 18, 19, 20, 56, 57, 58, 59, 60, 61, 62, 63, 64, 65, 66, 67, 68, 69, 70, 71, 72, 73, 74, 75, 76, 77, 78, 79, 80, 81, 82, 83, 84, 85, 86, 87, 88, 89, 90, 91, 92, 93, 94, 95, 96, 97, 98, 99, 100, 101, 102, 103, 104, 105, 106, 107, 108, 109, 110, 111, 112, 113, 114, 115] (by decide +kernel) (by decide +kernel)
set_option maxRecDepth 20000 in
theorem gX10_solveTwo_X10_letterCell : GoodIn wsX10_solveTwo (wsV RX10 258 RX10 yX10_letterCell wsX10_letterCell) := goodIn_app (goodIn_of _ (by decide +kernel)) ggX10_solveTwo_X10_letterCell
set_option maxRecDepth 20000 in
theorem ggX10_solveTwo_X10_functionCell : GoodIn wsX10_solveTwo wsX10_functionCell := goodIn_r _ [24, 25, 13, 14, 15, 11, 16, 17, 18, 19, 20, 56, 57, 58, 59, 60, 61, 62, 63, 64, 65, 66, 67, 68, 69, 70, 71, 72, 73, 74, 75, 76, 77, 78, 79, 80, 81, 82, 83, 84, 85, 86, 87, 88, 89, 90, 91, 92, 93, 94, 95, 96, 97, 98, 99, 100, 101, 102, 103, 104, 105, 106, 107, 108, 109, 110, 111, 112, 113, 114, 115] (by decide +kernel) (by decide +kernel)
set_option maxRecDepth 20000 in
theorem gX10_solveTwo_X10_functionCell : GoodIn wsX10_solveTwo (wsV RX10 261 RX10 yX10_functionCell wsX10_functionCell) := goodIn_app (goodIn_of _ (by decide +kernel)) ggX10_solveTwo_X10_functionCell
set_option maxRecDepth 20000 in
theorem ggX10_solveTwo_X10_goal : GoodIn wsX10_solveTwo wsX10_goal := goodIn_r _ [29, 30, 2, 31, 1, 3, 4, 56, 57, 58, 59, 60, 61, 62, 63, 64, 65, 66, 67, 68, 69, 70, 71, 72, 73, 74, 75, 76, 77, 78, 79, 80, 81, 82, 83, 84, 85, 86, 87, 88, 89, 90, 91, 92, 93, 94, 95, 96, 97, 98, 99, 100, 101, 102, 103, 104, 105, 106, 107, 108, 109, 110, 111, 112, 113, 114, 115] (by decide +kernel) (by decide +kernel)
set_option maxRecDepth 20000 in
theorem gX10_solveTwo_X10_goal : GoodIn wsX10_solveTwo (wsV RX10 267 RX10 yX10_goal wsX10_goal) := goodIn_app (goodIn_of _ (by decide +kernel)) ggX10_solveTwo_X10_goal
set_option maxRecDepth 20000 in
theorem ggX10_solveTwo_X10_place : GoodIn wsX10_solveTwo wsX10_place := goodIn_r _ [35, 36, 37, 38, 39, 56, 57, 58, 59, 60, 61, 62, 63, 64, 65, 66, 67, 68, 69, 70, 71, 72, 73, 74, 75, 76, 77, 78, 79, 80, 81, 82, 83, 84, 85, 86, 87, 88, 89, 90, 91, 92, 93, 94, 95, 96, 97, 98, 99, 100, 101, 102, 103, 104, 105, 106, 107, 108, 109, 110, 111, 112, 113, 114, 115] (by decide +kernel) (by decide +kernel)
set_option maxRecDepth 20000 in
theorem gX10_solveTwo_X10_place : GoodIn wsX10_solveTwo (wsV RX10 264 RX10 yX10_place wsX10_place) := goodIn_app (goodIn_of _ (by decide +kernel)) ggX10_solveTwo_X10_place
set_option maxRecDepth 20000 in
theorem ggX10_solveTwo_X10_cell : GoodIn wsX10_solveTwo wsX10_cell := goodIn_r _ [16, 17, 18, 19, 20, 56, 57, 58, 59, 60, 61, 62, 63, 64, 65, 66, 67, 68, 69, 70, 71, 72, 73, 74, 75, 76, 77, 78, 79, 80, 81, 82, 83, 84, 85, 86, 87, 88, 89, 90, 91, 92, 93, 94, 95, 96, 97, 98, 99, 100, 101, 102, 103, 104, 105, 106, 107, 108, 109, 110, 111, 112, 113, 114, 115] (by decide +kernel) (by decide +kernel)
set_option maxRecDepth 20000 in
theorem gX10_solveTwo_X10_cell : GoodIn wsX10_solveTwo (wsV RX10 236 RX10 yX10_cell wsX10_cell) := goodIn_app (goodIn_of _ (by decide +kernel)) ggX10_solveTwo_X10_cell
set_option maxRecDepth 20000 in
theorem ggX10_solveTwo_X10_equal : GoodIn wsX10_solveTwo wsX10_equal := goodIn_r _ [43, 44, 45, 19, 20, 25, 46, 47, 48, 11, 49, 50, 51, 52, 53, 17, 18, 54, 55, 56, 57, 58, 59, 60, 61, 62, 63, 64, 65, 66, 67, 68, 69, 70, 71, 72, 73, 74, 75, 76, 77, 78, 79, 80, 81, 82, 83, 84, 85, 86, 87, 88, 89, 90, 91, 92, 93, 94, 95, 96, 97, 98, 99, 100, 101, 102, 103, 104, 105, 106, 107, 108, 109, 110, 111, 112, 113, 114, 115] (by decide +kernel) (by decide +kernel)
set_option maxRecDepth 20000 in
theorem gX10_solveTwo_X10_equal : GoodIn wsX10_solveTwo (wsV RX10 255 RX10 yX10_equal wsX10_equal) := goodIn_app (goodIn_of _ (by decide +kernel)) ggX10_solveTwo_X10_equal
set_option maxRecDepth 20000 in
theorem ggX10_numberLetters_X10_end : GoodIn wsX10_numberLetters wsX10_end := goodIn_r _ [12, 13, 14, 15, 16, 17, 18, 19, 20, 21, 22, 23, 24, 25, 26, 27, 28, 29, 30, 31, 32, 33, 34, 35, 36, 37, 38, 39, 40, 41, 42, 43, 44, 45, 46, 47, 48, 49, 50, 51, 52, 53, 54, 55, 56, 57, 58, 59, 60, 61, 62, 63, 64, 65, 66, 67, 68, 69, 70, 71, 72, 73] (by decide +kernel) (by decide +kernel)
set_option maxRecDepth 20000 in
theorem gX10_numberLetters_X10_end : GoodIn wsX10_numberLetters (wsV RX10 239 RX10 yX10_end wsX10_end) := goodIn_app (goodIn_of _ (by decide +kernel)) ggX10_numberLetters_X10_end
set_option maxRecDepth 20000 in
theorem ggX10_type_X10_isTerm : GoodIn wsX10_type wsX10_isTerm := goodIn_r _ [16, 17, 18, 19, 15, 20, 99, 100, 101, 102, 103, 104, 105, 106, 107, 108, 109, 110, 111, 112, 113, 114, 115, 116, 117, 118, 119, 120, 121, 122, 123, 124, 125, 126, 127, 128, 129, 130, 131, 132, 133, 134, 135, 136, 137, 138, 139, 140, 141, 142, 143, 144, 145, 146, 147, 148, 149, 150, 151, 152, 153, 154, 155, 156, 157, 158] (by decide +kernel) (by decide +kernel)
set_option maxRecDepth 20000 in
theorem gX10_type_X10_isTerm : GoodIn wsX10_type (wsV RX10 127 RX10 yX10_isTerm wsX10_isTerm) := goodIn_app (goodIn_of _ (by decide +kernel)) ggX10_type_X10_isTerm
set_option maxRecDepth 20000 in
theorem ggX10_type_X10_fail : GoodIn wsX10_type wsX10_fail := goodIn_r _ [24, 1, 99, 100, 101, 102, 103, 104, 105, 106, 107, 108, 109, 110, 111, 112, 113, 114, 115, 116, 117, 118, 119, 120, 121, 122, 123, 124, 125, 126, 127, 128, 129, 130, 131, 132, 133, 134, 135, 136, 137, 138, 139, 140, 141, 142, 143, 144, 145, 146, 147, 148, 149, 150, 151, 152, 153, 154, 155, 156, 157, 158] (by decide +kernel) (by decide +kernel)
set_option maxRecDepth 20000 in
theorem gX10_type_X10_fail : GoodIn wsX10_type (wsV RX10 138 RX10 yX10_fail wsX10_fail) := goodIn_app (goodIn_of _ (by decide +kernel)) ggX10_type_X10_fail
set_option maxRecDepth 20000 in
theorem ggX10_type_X10_letterCell : GoodIn wsX10_type wsX10_letterCell := goodIn_r _ [28, 29, 30, 31, 15, 32, 8, 3, 11, 33, 99, 100, 101, 102, 103, 104, 105, 106, 107, 108, 109, 110, 111, 112, 113, 114, 115, 116, 117, 118, 119, 120, 121, 122, 123, 124, 125, 126, 127, 128, 129, 130, 131, 132, 133, 134, 135, 136, 137, 138, 139, 140, 141, 142, 143, 144, 145, 146, 147, 148, 149, 150, 151, 152, 153, 154, 155, 156, 157, 158] (by decide +kernel) (by decide +kernel)
set_option maxRecDepth 20000 in
theorem gX10_type_X10_letterCell : GoodIn wsX10_type (wsV RX10 258 RX10 yX10_letterCell wsX10_letterCell) := goodIn_app (goodIn_of _ (by decide +kernel)) ggX10_type_X10_letterCell
set_option maxRecDepth 20000 in
theorem ggX10_type_X10_goal : GoodIn wsX10_type wsX10_goal := goodIn_r _ [37, 38, 4, 39, 40, 41, 42, 99, 100, 101, 102, 103, 104, 105, 106, 107, 108, 109, 110, 111, 112, 113, 114, 115, 116, 117, 118, 119, 120, 121, 122, 123, 124, 125, 126, 127, 128, 129, 130, 131, 132, 133, 134, 135, 136, 137, 138, 139, 140, 141, 142, 143, 144, 145, 146, 147, 148, 149, 150, 151, 152, 153, 154, 155, 156, 157, 158] (by decide +kernel) (by decide +kernel)
set_option maxRecDepth 20000 in
theorem gX10_type_X10_goal : GoodIn wsX10_type (wsV RX10 267 RX10 yX10_goal wsX10_goal) := goodIn_app (goodIn_of _ (by decide +kernel)) ggX10_type_X10_goal
set_option maxRecDepth 20000 in
theorem ggX10_type_X10_solve : GoodIn wsX10_type wsX10_solve := goodIn_r _ [46, 4, 38, 39, 40, 41, 42, 47, 48, 18, 19, 15, 20, 49, 50, 51, 52, 53, 6, 11, 33, 54, 55, 56, 57, 58, 59, 60, 61, 62, 8, 3, 63, 64, 29, 30, 31, 32, 65, 66, 67, 68, 69, 70, 71, 25, 26, 27, 28, 72, 73, 74, 75, 76, 77, 78, 79, 80, 81, 82, 83, 5, 34, 35, 36, 37, 84, 85, 86, 87, 88, 89, 99, 100, 101, 102, 103, 104, 105, 106, 107, 108, 109, 110, 111, 112, 113, 114, 115, 116, 117, 118, 119, 120, 121, 122, 123, 124, 125, 126, 127, 128, 129, 130, 131, 132, 133, 134, 135, 136, 137, 138, 139, 140, 141, 142, 143, 144, 145, 146, 147, 148, 149, 150, 151, 152, 153, 154, 155, 156, 157, 158] (by decide +kernel) (by decide +kernel)
set_option maxRecDepth 20000 in
theorem gX10_type_X10_solve : GoodIn wsX10_type (wsV RX10 281 RX10 yX10_solve wsX10_solve) := goodIn_app (goodIn_of _ (by decide +kernel)) ggX10_type_X10_solve
set_option maxRecDepth 20000 in
theorem ggX10_type_X10_endless : GoodIn wsX10_type wsX10_endless := goodIn_r _ [93, 8, 3, 63, 11, 33, 54, 55, 56, 57, 15, 58, 99, 100, 101, 102, 103, 104, 105, 106, 107, 108, 109, 110, 111, 112, 113, 114, 115, 116, 117, 118, 119, 120, 121, 122, 123, 124, 125, 126, 127, 128, 129, 130, 131, 132, 133, 134, 135, 136, 137, 138, 139, 140, 141, 142, 143, 144, 145, 146, 147, 148, 149, 150, 151, 152, 153, 154, 155, 156, 157, 158] (by decide +kernel) (by decide +kernel)
set_option maxRecDepth 20000 in
theorem gX10_type_X10_endless : GoodIn wsX10_type (wsV RX10 284 RX10 yX10_endless wsX10_endless) := goodIn_app (goodIn_of _ (by decide +kernel)) ggX10_type_X10_endless
set_option maxRecDepth 20000 in
theorem ggX10_type_X10_numberLetters : GoodIn wsX10_type wsX10_numberLetters := goodIn_r _ [97, 8, 3, 63, 64, 11, 98, 54, 55, 56, 57, 15, 58, 33, 99, 100, 101, 102, 103, 104, 105, 106, 107, 108, 109, 110, 111, 112, 113, 114, 115, 116, 117, 118, 119, 120, 121, 122, 123, 124, 125, 126, 127, 128, 129, 130, 131, 132, 133, 134, 135, 136, 137, 138, 139, 140, 141, 142, 143, 144, 145, 146, 147, 148, 149, 150, 151, 152, 153, 154, 155, 156, 157, 158] (by decide +kernel) (by decide +kernel)
set_option maxRecDepth 20000 in
theorem gX10_type_X10_numberLetters : GoodIn wsX10_type (wsV RX10 291 RX10 yX10_numberLetters wsX10_numberLetters) := goodIn_app (goodIn_of _ (by decide +kernel)) ggX10_type_X10_numberLetters
set_option maxRecDepth 20000 in
theorem ggX10_type_X10_end : GoodIn wsX10_type wsX10_end := goodIn_r _ [58, 33, 99, 100, 101, 102, 103, 104, 105, 106, 107, 108, 109, 110, 111, 112, 113, 114, 115, 116, 117, 118, 119, 120, 121, 122, 123, 124, 125, 126, 127, 128, 129, 130, 131, 132, 133, 134, 135, 136, 137, 138, 139, 140, 141, 142, 143, 144, 145, 146, 147, 148, 149, 150, 151, 152, 153, 154, 155, 156, 157, 158] (by decide +kernel) (by decide +kernel)
set_option maxRecDepth 20000 in
theorem gX10_type_X10_end : GoodIn wsX10_type (wsV RX10 239 RX10 yX10_end wsX10_end) := goodIn_app (goodIn_of _ (by decide +kernel)) ggX10_type_X10_end
set_option maxRecDepth 20000 in
theorem ggX10_part_X10_in : GoodIn wsX10_part wsX10_in := goodIn_r _ [9] (by decide +kernel) (by decide +kernel)
set_option maxRecDepth 20000 in
theorem gX10_part_X10_in : GoodIn wsX10_part (va_wsS RX10 123 yX10_in wsX10_in) := goodIn_app (goodIn_of _ (by decide +kernel)) ggX10_part_X10_in
set_option maxRecDepth 20000 in
theorem ggX10_part_X10_end : GoodIn wsX10_part wsX10_end := goodIn_r _ [13, 14, 18, 19, 20, 21, 22, 23, 24, 25, 26, 27, 28, 29, 30, 31, 32, 33, 34, 35, 36, 37, 38, 39, 40, 41, 42, 43, 44, 45, 46, 47, 48, 49, 50, 51, 52, 53, 54, 55, 56, 57, 58, 59, 60, 61, 62, 63, 64, 65, 66, 67, 68, 69, 70, 71, 72, 73, 74, 75, 76, 77] (by decide +kernel) (by decide +kernel)
set_option maxRecDepth 20000 in
theorem gX10_part_X10_end : GoodIn wsX10_part (wsV RX10 239 RX10 yX10_end wsX10_end) := goodIn_app (goodIn_of _ (by decide +kernel)) ggX10_part_X10_end
set_option maxRecDepth 20000 in
theorem ggX10_part_X10_told : GoodIn wsX10_part wsX10_told := goodIn_r _ [17] (by decide +kernel) (by decide +kernel)
set_option maxRecDepth 20000 in
theorem gX10_part_X10_told : GoodIn wsX10_part (va_wsS RX10 298 yX10_told wsX10_told) := goodIn_app (goodIn_of _ (by decide +kernel)) ggX10_part_X10_told
end
section
/-! ===== ints as integers, states as functions, the judgement JM, a rule an instruction ===== -/
def iI (z : Int) : Int32 := Int32.ofInt z
abbrev inR (z : Int) : Prop := -2147483648 ≤ z ∧ z ≤ 2147483647
theorem iI_toInt {z : Int} (h : inR z) : (iI z).toInt = z := Int32.toInt_ofInt_of_le (by have := h.1; omega) (by have := h.2; omega)
theorem iI_add (a b : Int) : iI a + iI b = iI (a + b) := (Int32.ofInt_add a b).symm
theorem iI_sub (a b : Int) : iI a - iI b = iI (a - b) := (Int32.ofInt_sub a b).symm
theorem iI_mul (a b : Int) : iI a * iI b = iI (a * b) := (Int32.ofInt_mul a b).symm
theorem iI_lt {a b : Int} (ha : inR a) (hb : inR b) : iI a < iI b ↔ a < b := by rw [Int32.lt_iff_toInt_lt, iI_toInt ha, iI_toInt hb]
theorem iI_le {a b : Int} (ha : inR a) (hb : inR b) : iI a ≤ iI b ↔ a ≤ b := by rw [Int32.le_iff_toInt_le, iI_toInt ha, iI_toInt hb]
theorem iI_eq {a b : Int} (ha : inR a) (hb : inR b) : iI a = iI b ↔ a = b := by rw [← Int32.toInt_inj, iI_toInt ha, iI_toInt hb]
theorem iI_in {z : Int} {n : Nat} (h : inR z) : vp_in (iI z) n ↔ 0 ≤ z ∧ z < n := by rw [vp_in_iff, iI_toInt h]
theorem iI_cl {z : Int} (h : inR z) : (iI z).toNatClampNeg = z.toNat := by rw [← Int32.toNat_toInt, iI_toInt h]
theorem iI_of (x : Int32) : iI x.toInt = x := Int32.ofInt_toInt x
theorem inR_of (x : Int32) : inR x.toInt := ⟨by have := x.le_toInt; omega, by have := x.toInt_lt; omega⟩
theorem inR_0 : inR 0 := by decide
/-- a value that wraps -/
def wr (z : Int) : Int := (iI z).toInt
theorem wr_in (z : Int) : inR (wr z) := inR_of _
theorem iI_wr (z : Int) : iI (wr z) = iI z := iI_of _
/-- the states: ints by a number, arrays by a number -/
abbrev Sg : Type := (Nat → Int) × (Nat → Int → Int)
def gI (σ : Sg) (k : Nat) : Int := σ.1 k
def gA (σ : Sg) (k : Nat) (i : Int) : Int := σ.2 k i
def sI (σ : Sg) (k : Nat) (v : Int) : Sg := (fun j => bif Nat.beq j k then v else σ.1 j, σ.2)
def sA (σ : Sg) (k : Nat) (i v : Int) : Sg := (σ.1, fun j => bif Nat.beq j k then (fun t => if t = i then v else σ.2 k t) else σ.2 j)
def ok (σ : Sg) : Prop := (∀ k, inR (gI σ k)) ∧ ∀ k i, inR (gA σ k i)
theorem ok_sI {σ : Sg} (h : ok σ) (k : Nat) {v : Int} (hv : inR v) : ok (sI σ k v) := by
  refine ⟨fun j => ?_, h.2⟩
  show inR (bif Nat.beq j k then v else σ.1 j)
  cases Nat.beq j k
  · exact h.1 j
  · exact hv
theorem ok_sA {σ : Sg} (h : ok σ) (k : Nat) (i : Int) {v : Int} (hv : inR v) : ok (sA σ k i v) := by
  refine ⟨h.1, fun j t => ?_⟩
  show inR ((bif Nat.beq j k then (fun t => if t = i then v else σ.2 k t) else σ.2 j) t)
  cases hj : Nat.beq j k
  · exact h.2 j t
  · show inR (if t = i then v else σ.2 k t)
    by_cases ht : t = i
    · rw [if_pos ht]; exact hv
    · rw [if_neg ht]; exact h.2 k t
def ck {α : Type} (P : Prop) [Decidable P] (x : Option α) : Option α := if P then x else none
def nx {α : Type} (σ : Sg) (f : Sg → Option α) : Option α := f σ
def bd {α : Type} (x : Option (Sg × Int)) (f : Sg → Int → Option α) : Option α := match x with
  | none => none
  | some u => f u.1 u.2
/-- what the method needs of the statics: kept while nothing outside A changes -/
abbrev EE : Type := (Nat → Prop) → State → Heap → Prop
def Eok (E : EE) : Prop := ∀ (A B : Nat → Prop) (u U : State) (H H1 : Heap), u.vm.Alike U.vm → (∀ q, B q → A q) → (∀ a : Nat, a < H.size → ¬ A a → H1[a]? = H[a]?) → E A u H → E B U H1
def noE : EE := fun _ _ _ => True
theorem noE_ok : Eok noE := fun _ _ _ _ _ _ _ _ _ _ => trivial
/-- the context of a method's walk -/
def CX (p : Program) (m : MethodId) (meth : Method) (c : Code) (cc : ByteArray) (nL : Nat) (ret : Option FieldType) (s : State) (args : Array Value) (Ts : List Cond) (own : String) (D : va_G) (tys : List (ClassId × FieldType)) (E : EE) (A : Nat → Prop) : Prop :=
  p.tables.exec = Jvm.exec ∧ c.code = cc ∧ c.maxLocals = nL ∧ s.vm.findClass own = some m.cls ∧ (∀ w ∈ Ts, w.before args s = true) ∧ va_K D vwCl tys s ∧ meth.sig.returnType = ret ∧ meth.locks = false ∧ E A s s.heap ∧ Eok E
/-- the machine at pc, with the world of σ, locals lv, stack st: if the mirror o gives (σ', r), it comes to Qf σ' r -/
def JM (p : Program) (l : Launch) (e : Env) (R : Room) (s : State) (m : MethodId) (args : Array Value) (below : List Frame) (meth : Method) (c : Code) (wf : Sg → va_W) (D : va_G) (A : Nat → Prop) (H0 : Heap) (nL : Nat) (Qf : Sg → Int → State → Prop) (σ : Sg) (pc : Nat) (lv : List (Nat × Value)) (st : List Value) (o : Option (Sg × Int)) : Prop :=
  ∀ (σ' : Sg) (r : Int), o = some (σ', r) → ∀ (H : Heap) (locs : List Loc) (ls : Array Slot), va_P D vwCl (wf σ) H → va_D A (wf σ) → va_S A H0 H locs → lv_has ls nL lv → W p l e R s m args below meth c H locs 0 0 (Qf σ' r) (F0 m pc ls st)
section JMR
variable {p : Program} {l : Launch} {e : Env} {R : Room} {s : State} {m : MethodId} {args : Array Value} {below : List Frame} {meth : Method} {c : Code} {wf : Sg → va_W} {D : va_G} {tys : List (ClassId × FieldType)} {A : Nat → Prop} {H0 : Heap} {Qf : Sg → Int → State → Prop} {cc : ByteArray} {nL : Nat} {Ts : List Cond} {own : String} {E : EE} {ret : Option FieldType} {σ : Sg} {pc n : Nat} {lv : List (Nat × Value)} {st : List Value} {o : Option (Sg × Int)}
theorem jm_iconst (X : CX p m meth c cc nL ret s args Ts own D tys E A) {z : Int} (hdg : decode cc pc = .ok (.iconst z, 1)) (hn : pc + 1 = n) (kk : JM p l e R s m args below meth c wf D A H0 nL Qf σ n lv (.int (iI z) :: st) o) : JM p l e R s m args below meth c wf D A H0 nL Qf σ pc lv st o := by
  subst hn
  intro σ' r ho H locs ls hP hD hS hl
  exact lv_iconst X.1 X.2.1 hdg rfl (kk σ' r ho H locs ls hP hD hS hl)
theorem jm_bipush (X : CX p m meth c cc nL ret s args Ts own D tys E A) {z : Int} (hdg : decode cc pc = .ok (.bipush z, 2)) (hz : (Int8.ofInt z).toInt32 = iI z) (hn : pc + 2 = n) (kk : JM p l e R s m args below meth c wf D A H0 nL Qf σ n lv (.int (iI z) :: st) o) : JM p l e R s m args below meth c wf D A H0 nL Qf σ pc lv st o := by
  subst hn
  intro σ' r ho H locs ls hP hD hS hl
  exact lv_bipush X.1 X.2.1 hdg hz (kk σ' r ho H locs ls hP hD hS hl)
theorem jm_sipush (X : CX p m meth c cc nL ret s args Ts own D tys E A) {z : Int} (hdg : decode cc pc = .ok (.sipush z, 3)) (hz : (Int16.ofInt z).toInt32 = iI z) (hn : pc + 3 = n) (kk : JM p l e R s m args below meth c wf D A H0 nL Qf σ n lv (.int (iI z) :: st) o) : JM p l e R s m args below meth c wf D A H0 nL Qf σ pc lv st o := by
  subst hn
  intro σ' r ho H locs ls hP hD hS hl
  exact lv_sipush X.1 X.2.1 hdg hz (kk σ' r ho H locs ls hP hD hS hl)
theorem jm_iload_n (X : CX p m meth c cc nL ret s args Ts own D tys E A) (k : Nat) {i : Fin 4} {x : Int} (hk : lv[k]? = some ((i : Nat), .int (iI x))) (hdg : decode cc pc = .ok (.iload_n i, 1)) (hn : pc + 1 = n) (kk : JM p l e R s m args below meth c wf D A H0 nL Qf σ n lv (.int (iI x) :: st) o) : JM p l e R s m args below meth c wf D A H0 nL Qf σ pc lv st o := by
  subst hn
  intro σ' r ho H locs ls hP hD hS hl
  exact lv_iload_n X.1 X.2.1 hdg rfl (lv_at hl k hk) (kk σ' r ho H locs ls hP hD hS hl)
theorem jm_iload (X : CX p m meth c cc nL ret s args Ts own D tys E A) (k : Nat) {i : Nat} {x : Int} (hk : lv[k]? = some (i, .int (iI x))) (hdg : decode cc pc = .ok (.iload i, 2)) (hn : pc + 2 = n) (kk : JM p l e R s m args below meth c wf D A H0 nL Qf σ n lv (.int (iI x) :: st) o) : JM p l e R s m args below meth c wf D A H0 nL Qf σ pc lv st o := by
  subst hn
  intro σ' r ho H locs ls hP hD hS hl
  exact lv_iload X.1 X.2.1 hdg (lv_at hl k hk) (kk σ' r ho H locs ls hP hD hS hl)
theorem jm_aload_n (X : CX p m meth c cc nL ret s args Ts own D tys E A) (k : Nat) {i : Fin 4} {a : Nat} (hk : lv[k]? = some ((i : Nat), .ref a)) (hdg : decode cc pc = .ok (.aload_n i, 1)) (hn : pc + 1 = n) (kk : JM p l e R s m args below meth c wf D A H0 nL Qf σ n lv (.ref a :: st) o) : JM p l e R s m args below meth c wf D A H0 nL Qf σ pc lv st o := by
  subst hn
  intro σ' r ho H locs ls hP hD hS hl
  exact lv_aload_n X.1 X.2.1 hdg rfl (lv_at hl k hk) (kk σ' r ho H locs ls hP hD hS hl)
theorem jm_aload (X : CX p m meth c cc nL ret s args Ts own D tys E A) (k : Nat) {i : Nat} {a : Nat} (hk : lv[k]? = some (i, .ref a)) (hdg : decode cc pc = .ok (.aload i, 2)) (hn : pc + 2 = n) (kk : JM p l e R s m args below meth c wf D A H0 nL Qf σ n lv (.ref a :: st) o) : JM p l e R s m args below meth c wf D A H0 nL Qf σ pc lv st o := by
  subst hn
  intro σ' r ho H locs ls hP hD hS hl
  exact lv_aload X.1 X.2.1 hdg (lv_at hl k hk) (kk σ' r ho H locs ls hP hD hS hl)
theorem jm_istore_n (X : CX p m meth c cc nL ret s args Ts own D tys E A) {i : Fin 4} {x : Int} {lv' : List (Nat × Value)} (hdg : decode cc pc = .ok (.istore_n i, 1)) (hi : (i : Nat) < nL) (hlv : ((i : Nat), Value.int (iI x)) :: lv.filter (fun q => !(q.1 == (i : Nat)) && !(q.1 + 1 == (i : Nat) && q.2.category == 2)) = lv') (hn : pc + 1 = n) (kk : JM p l e R s m args below meth c wf D A H0 nL Qf σ n lv' st o) : JM p l e R s m args below meth c wf D A H0 nL Qf σ pc lv (.int (iI x) :: st) o := by
  subst hn
  intro σ' r ho H locs ls hP hD hS hl
  exact lv_istore_n X.1 X.2.1 hdg rfl hl hi hlv (fun ls2 hl2 => kk σ' r ho H locs ls2 hP hD hS hl2)
theorem jm_istore (X : CX p m meth c cc nL ret s args Ts own D tys E A) {i : Nat} {x : Int} {lv' : List (Nat × Value)} (hdg : decode cc pc = .ok (.istore i, 2)) (hi : i < nL) (hlv : (i, Value.int (iI x)) :: lv.filter (fun q => !(q.1 == i) && !(q.1 + 1 == i && q.2.category == 2)) = lv') (hn : pc + 2 = n) (kk : JM p l e R s m args below meth c wf D A H0 nL Qf σ n lv' st o) : JM p l e R s m args below meth c wf D A H0 nL Qf σ pc lv (.int (iI x) :: st) o := by
  subst hn
  intro σ' r ho H locs ls hP hD hS hl
  exact lv_istore X.1 X.2.1 hdg hl hi hlv (fun ls2 hl2 => kk σ' r ho H locs ls2 hP hD hS hl2)
theorem jm_iinc (X : CX p m meth c cc nL ret s args Ts own D tys E A) (k : Nat) {i : Nat} {d x : Int} {lv' : List (Nat × Value)} {f : Option (Sg × Int)} (hk : lv[k]? = some (i, .int (iI x))) (hdg : decode cc pc = .ok (.iinc i d, 3)) (hi : i < nL) (hlv : (i, Value.int (iI (x + d))) :: lv.filter (fun q => !(q.1 == i) && !(q.1 + 1 == i && q.2.category == 2)) = lv') (hn : pc + 3 = n) (kk : inR (x + d) → JM p l e R s m args below meth c wf D A H0 nL Qf σ n lv' st f) : JM p l e R s m args below meth c wf D A H0 nL Qf σ pc lv st (ck (inR (x + d)) f) := by
  subst hn
  intro σ' r ho H locs ls hP hD hS hl
  by_cases h : inR (x + d)
  · rw [ck, if_pos h] at ho
    exact lv_iinc (v := iI (x + d)) X.1 X.2.1 hdg hl hk (iI_add x d) hi hlv (fun ls2 hl2 => kk h σ' r ho H locs ls2 hP hD hS hl2)
  · rw [ck, if_neg h] at ho; cases ho
theorem jm_ck {Pr : Prop} [Decidable Pr] {f : Option (Sg × Int)} (kk : Pr → JM p l e R s m args below meth c wf D A H0 nL Qf σ pc lv st f) : JM p l e R s m args below meth c wf D A H0 nL Qf σ pc lv st (ck Pr f) := by
  intro σ' r ho
  by_cases h : Pr
  · rw [ck, if_pos h] at ho; exact kk h σ' r ho
  · rw [ck, if_neg h] at ho; cases ho
theorem jm_perm (ks : List Nat) {lv' : List (Nat × Value)} (h : lv_pick lv ks = lv') (kk : JM p l e R s m args below meth c wf D A H0 nL Qf σ pc lv' st o) : JM p l e R s m args below meth c wf D A H0 nL Qf σ pc lv st o := fun σ' r ho H locs ls hP hD hS hl => kk σ' r ho H locs ls hP hD hS (lv_sub hl ks h)
theorem jm_iadd (X : CX p m meth c cc nL ret s args Ts own D tys E A) {x y : Int} {f : Option (Sg × Int)} (hdg : decode cc pc = .ok (.iadd, 1)) (hn : pc + 1 = n) (kk : inR (x + y) → JM p l e R s m args below meth c wf D A H0 nL Qf σ n lv (.int (iI (x + y)) :: st) f) : JM p l e R s m args below meth c wf D A H0 nL Qf σ pc lv (.int (iI y) :: .int (iI x) :: st) (ck (inR (x + y)) f) := by
  subst hn
  refine jm_ck fun h => ?_
  intro σ' r ho H locs ls hP hD hS hl
  refine lv_iadd X.1 X.2.1 hdg ?_
  rw [iI_add]
  exact kk h σ' r ho H locs ls hP hD hS hl
theorem jm_isub (X : CX p m meth c cc nL ret s args Ts own D tys E A) {x y : Int} {f : Option (Sg × Int)} (hdg : decode cc pc = .ok (.isub, 1)) (hn : pc + 1 = n) (kk : inR (x - y) → JM p l e R s m args below meth c wf D A H0 nL Qf σ n lv (.int (iI (x - y)) :: st) f) : JM p l e R s m args below meth c wf D A H0 nL Qf σ pc lv (.int (iI y) :: .int (iI x) :: st) (ck (inR (x - y)) f) := by
  subst hn
  refine jm_ck fun h => ?_
  intro σ' r ho H locs ls hP hD hS hl
  refine lv_isub X.1 X.2.1 hdg ?_
  rw [iI_sub]
  exact kk h σ' r ho H locs ls hP hD hS hl
theorem jm_imul (X : CX p m meth c cc nL ret s args Ts own D tys E A) {x y : Int} {f : Option (Sg × Int)} (hdg : decode cc pc = .ok (.imul, 1)) (hn : pc + 1 = n) (kk : inR (x * y) → JM p l e R s m args below meth c wf D A H0 nL Qf σ n lv (.int (iI (x * y)) :: st) f) : JM p l e R s m args below meth c wf D A H0 nL Qf σ pc lv (.int (iI y) :: .int (iI x) :: st) (ck (inR (x * y)) f) := by
  subst hn
  refine jm_ck fun h => ?_
  intro σ' r ho H locs ls hP hD hS hl
  refine lv_imul X.1 X.2.1 hdg ?_
  rw [iI_mul]
  exact kk h σ' r ho H locs ls hP hD hS hl
theorem jm_iaddW (X : CX p m meth c cc nL ret s args Ts own D tys E A) {x y : Int} (hdg : decode cc pc = .ok (.iadd, 1)) (hn : pc + 1 = n) (kk : JM p l e R s m args below meth c wf D A H0 nL Qf σ n lv (.int (iI (wr (x + y))) :: st) o) : JM p l e R s m args below meth c wf D A H0 nL Qf σ pc lv (.int (iI y) :: .int (iI x) :: st) o := by
  subst hn
  intro σ' r ho H locs ls hP hD hS hl
  refine lv_iadd X.1 X.2.1 hdg ?_
  rw [iI_add, ← iI_wr]
  exact kk σ' r ho H locs ls hP hD hS hl
theorem iI_div {x y : Int} (hx : inR x) (hy : inR y) (h0 : 0 ≤ x) (h1 : 0 < y) : iI x / iI y = iI (x / y) := by
  obtain ⟨a, rfl⟩ := Int.eq_ofNat_of_zero_le h0
  obtain ⟨b, rfl⟩ := Int.eq_ofNat_of_zero_le (Int.le_of_lt h1)
  have ea : iI (a : Int) = nI a := Int32.ofInt_eq_ofNat
  have eb : iI (b : Int) = nI b := Int32.ofInt_eq_ofNat
  have ec : iI ((a : Int) / (b : Int)) = nI (a / b) := Int32.ofInt_eq_ofNat
  rw [ea, eb, ec]
  exact pk_div (by have := hx.2; omega) (by omega) (by have := hy.2; omega)
theorem iI_rem {x y : Int} (hx : inR x) (hy : inR y) (h0 : 0 ≤ x) (h1 : 0 < y) : iI x - iI x / iI y * iI y = iI (x % y) := by
  rw [iI_div hx hy h0 h1, iI_mul, iI_sub]
  congr 1
  have := Int.emod_add_mul_ediv x y
  rw [Int.mul_comm] at this
  omega
theorem jm_idiv (X : CX p m meth c cc nL ret s args Ts own D tys E A) {x y : Int} {f : Option (Sg × Int)} (hdg : decode cc pc = .ok (.idiv, 1)) (hx : inR x) (hy : inR y) (h1 : 0 < y) (hn : pc + 1 = n) (kk : 0 ≤ x → JM p l e R s m args below meth c wf D A H0 nL Qf σ n lv (.int (iI (x / y)) :: st) f) : JM p l e R s m args below meth c wf D A H0 nL Qf σ pc lv (.int (iI y) :: .int (iI x) :: st) (ck (0 ≤ x) f) := by
  subst hn
  refine jm_ck fun h => ?_
  intro σ' r ho H locs ls hP hD hS hl
  refine lv_idiv X.1 X.2.1 hdg (fun q => ?_) ?_
  · have := (iI_eq hy inR_0).mp q; omega
  · rw [iI_div hx hy h h1]
    exact kk h σ' r ho H locs ls hP hD hS hl
theorem jm_irem (X : CX p m meth c cc nL ret s args Ts own D tys E A) {x y : Int} {f : Option (Sg × Int)} (hdg : decode cc pc = .ok (.irem, 1)) (hx : inR x) (hy : inR y) (h1 : 0 < y) (hn : pc + 1 = n) (kk : 0 ≤ x → JM p l e R s m args below meth c wf D A H0 nL Qf σ n lv (.int (iI (x % y)) :: st) f) : JM p l e R s m args below meth c wf D A H0 nL Qf σ pc lv (.int (iI y) :: .int (iI x) :: st) (ck (0 ≤ x) f) := by
  subst hn
  refine jm_ck fun h => ?_
  intro σ' r ho H locs ls hP hD hS hl
  refine lv_irem X.1 X.2.1 hdg (fun q => ?_) ?_
  · have := (iI_eq hy inR_0).mp q; omega
  · rw [iI_rem hx hy h h1]
    exact kk h σ' r ho H locs ls hP hD hS hl
theorem jm_dup (X : CX p m meth c cc nL ret s args Ts own D tys E A) {v : Value} (hdg : decode cc pc = .ok (.dup, 1)) (hv : v.category = 1) (hn : pc + 1 = n) (kk : JM p l e R s m args below meth c wf D A H0 nL Qf σ n lv (v :: v :: st) o) : JM p l e R s m args below meth c wf D A H0 nL Qf σ pc lv (v :: st) o := by
  subst hn
  intro σ' r ho H locs ls hP hD hS hl
  exact lv_dup X.1 X.2.1 hdg hv (kk σ' r ho H locs ls hP hD hS hl)
theorem jm_pop (X : CX p m meth c cc nL ret s args Ts own D tys E A) {v : Value} (hdg : decode cc pc = .ok (.pop, 1)) (hv : v.category = 1) (hn : pc + 1 = n) (kk : JM p l e R s m args below meth c wf D A H0 nL Qf σ n lv st o) : JM p l e R s m args below meth c wf D A H0 nL Qf σ pc lv (v :: st) o := by
  subst hn
  intro σ' r ho H locs ls hP hD hS hl
  exact lv_pop X.1 X.2.1 hdg hv (kk σ' r ho H locs ls hP hD hS hl)
theorem jm_dup_x1 (X : CX p m meth c cc nL ret s args Ts own D tys E A) {v w : Value} (hdg : decode cc pc = .ok (.dup_x1, 1)) (hv : v.category = 1) (hw : w.category = 1) (hn : pc + 1 = n) (kk : JM p l e R s m args below meth c wf D A H0 nL Qf σ n lv (v :: w :: v :: st) o) : JM p l e R s m args below meth c wf D A H0 nL Qf σ pc lv (v :: w :: st) o := by
  subst hn
  intro σ' r ho H locs ls hP hD hS hl
  exact lv_dup_x1 X.1 X.2.1 hdg hv hw (kk σ' r ho H locs ls hP hD hS hl)
theorem jm_dup2 (X : CX p m meth c cc nL ret s args Ts own D tys E A) {v w : Value} (hdg : decode cc pc = .ok (.dup2, 1)) (hv : v.category = 1) (hw : w.category = 1) (hn : pc + 1 = n) (kk : JM p l e R s m args below meth c wf D A H0 nL Qf σ n lv (v :: w :: v :: w :: st) o) : JM p l e R s m args below meth c wf D A H0 nL Qf σ pc lv (v :: w :: st) o := by
  subst hn
  intro σ' r ho H locs ls hP hD hS hl
  exact lv_dup2_11 X.1 X.2.1 hdg hv hw (kk σ' r ho H locs ls hP hD hS hl)
theorem jm_goto (X : CX p m meth c cc nL ret s args Ts own D tys E A) {off : Int} (hdg : decode cc pc = .ok (.goto off, 3)) (ht : (pc : Int) + off = (n : Int)) (kk : JM p l e R s m args below meth c wf D A H0 nL Qf σ n lv st o) : JM p l e R s m args below meth c wf D A H0 nL Qf σ pc lv st o := by
  intro σ' r ho H locs ls hP hD hS hl
  exact lv_goto X.1 X.2.1 hdg ht (kk σ' r ho H locs ls hP hD hS hl)
def mx (x y : Int) : Int := if x < y then y else x
def mn (x y : Int) : Int := if y < x then y else x
theorem in_mx {x y : Int} (hx : inR x) (hy : inR y) : inR (mx x y) := by
  unfold mx
  split
  · exact hy
  · exact hx
theorem in_mn {x y : Int} (hx : inR x) (hy : inR y) : inR (mn x y) := by
  unfold mn
  split
  · exact hy
  · exact hx
theorem jm_mmax (X : CX p m meth c cc nL ret s args Ts own D tys E A) {x y : Int} {idx : Nat} (hlink : Cond.methodLink own idx Lib.Math.max.name ∈ Ts) (hstat : Cond.static Lib.Math.max.name ∈ Ts) (hini : Cond.initialized "java/lang/Math" ∈ Ts) (hcode : Cond.code Lib.Math.max.name Lib.Math.max.code 2 (some .int) ∈ Ts) (hR : 1 ≤ R.frames ∧ (st.map fun v => v.category).sum + 13 ≤ R.locals) (hx : inR x) (hy : inR y) (hdg : decode cc pc = .ok (.invokestatic idx, 3)) (hn : pc + 3 = n) (kk : JM p l e R s m args below meth c wf D A H0 nL Qf σ n lv (.int (iI (mx x y)) :: st) o) : JM p l e R s m args below meth c wf D A H0 nL Qf σ pc lv (.int (iI y) :: .int (iI x) :: st) o := by
  subst hn
  intro σ' r ho H locs ls hP hD hS hl
  refine va_mmax X.1 X.2.1 (X.2.2.1.trans hl.1.symm) X.2.2.2.1 (X.2.2.2.2.1 _ hlink) (X.2.2.2.2.1 _ hstat) (X.2.2.2.2.1 _ hini) (X.2.2.2.2.1 _ hcode) hR.1 hR.2 (Nat.zero_le _) (Nat.zero_le _) hdg ?_
  have e1 : (if iI x < iI y then iI y else iI x) = iI (mx x y) := by
    unfold mx
    by_cases h : iI x < iI y
    · rw [if_pos h, if_pos ((iI_lt hx hy).mp h)]
    · rw [if_neg h, if_neg (fun z => h ((iI_lt hx hy).mpr z))]
  rw [e1]
  exact kk σ' r ho H locs ls hP hD hS hl
theorem jm_mmin (X : CX p m meth c cc nL ret s args Ts own D tys E A) {x y : Int} {idx : Nat} (hlink : Cond.methodLink own idx Lib.Math.min.name ∈ Ts) (hstat : Cond.static Lib.Math.min.name ∈ Ts) (hini : Cond.initialized "java/lang/Math" ∈ Ts) (hcode : Cond.code Lib.Math.min.name Lib.Math.min.code 2 (some .int) ∈ Ts) (hR : 1 ≤ R.frames ∧ (st.map fun v => v.category).sum + 13 ≤ R.locals) (hx : inR x) (hy : inR y) (hdg : decode cc pc = .ok (.invokestatic idx, 3)) (hn : pc + 3 = n) (kk : JM p l e R s m args below meth c wf D A H0 nL Qf σ n lv (.int (iI (mn x y)) :: st) o) : JM p l e R s m args below meth c wf D A H0 nL Qf σ pc lv (.int (iI y) :: .int (iI x) :: st) o := by
  subst hn
  intro σ' r ho H locs ls hP hD hS hl
  refine va_mmin X.1 X.2.1 (X.2.2.1.trans hl.1.symm) X.2.2.2.1 (X.2.2.2.2.1 _ hlink) (X.2.2.2.2.1 _ hstat) (X.2.2.2.2.1 _ hini) (X.2.2.2.2.1 _ hcode) hR.1 hR.2 (Nat.zero_le _) (Nat.zero_le _) hdg ?_
  have e1 : (if iI y < iI x then iI y else iI x) = iI (mn x y) := by
    unfold mn
    by_cases h : iI y < iI x
    · rw [if_pos h, if_pos ((iI_lt hy hx).mp h)]
    · rw [if_neg h, if_neg (fun z => h ((iI_lt hy hx).mpr z))]
  rw [e1]
  exact kk σ' r ho H locs ls hP hD hS hl
theorem jm_icmp_lt (X : CX p m meth c cc nL ret s args Ts own D tys E A) {x y off : Int} {tgt : Nat} {f g : Option (Sg × Int)} (hdg : decode cc pc = .ok (.if_icmp .lt off, 3)) (ht : (pc : Int) + off = (tgt : Int)) (hx : inR x) (hy : inR y) (hn : pc + 3 = n) (kt : x < y → JM p l e R s m args below meth c wf D A H0 nL Qf σ tgt lv st f) (kf : ¬ x < y → JM p l e R s m args below meth c wf D A H0 nL Qf σ n lv st g) : JM p l e R s m args below meth c wf D A H0 nL Qf σ pc lv (.int (iI y) :: .int (iI x) :: st) (if x < y then f else g) := by
  subst hn
  intro σ' r ho H locs ls hP hD hS hl
  refine lv_icmp_lt X.1 X.2.1 hdg ht (fun q => ?_) (fun q => ?_)
  · have q := (iI_lt hx hy).mp q
    rw [if_pos q] at ho
    exact kt q σ' r ho H locs ls hP hD hS hl
  · have q := fun z => q ((iI_lt hx hy).mpr z)
    rw [if_neg q] at ho
    exact kf q σ' r ho H locs ls hP hD hS hl
theorem jm_if_lt (X : CX p m meth c cc nL ret s args Ts own D tys E A) {x off : Int} {tgt : Nat} {f g : Option (Sg × Int)} (hdg : decode cc pc = .ok (.ifCond .lt off, 3)) (ht : (pc : Int) + off = (tgt : Int)) (hx : inR x) (hn : pc + 3 = n) (kt : x < 0 → JM p l e R s m args below meth c wf D A H0 nL Qf σ tgt lv st f) (kf : ¬ x < 0 → JM p l e R s m args below meth c wf D A H0 nL Qf σ n lv st g) : JM p l e R s m args below meth c wf D A H0 nL Qf σ pc lv (.int (iI x) :: st) (if x < 0 then f else g) := by
  subst hn
  intro σ' r ho H locs ls hP hD hS hl
  refine lv_if_lt X.1 X.2.1 hdg ht (fun q => ?_) (fun q => ?_)
  · have q := (iI_lt hx inR_0).mp (show _ from q)
    rw [if_pos q] at ho
    exact kt q σ' r ho H locs ls hP hD hS hl
  · have q := fun z => q ((iI_lt hx inR_0).mpr z)
    rw [if_neg q] at ho
    exact kf q σ' r ho H locs ls hP hD hS hl
theorem jm_icmp_ge (X : CX p m meth c cc nL ret s args Ts own D tys E A) {x y off : Int} {tgt : Nat} {f g : Option (Sg × Int)} (hdg : decode cc pc = .ok (.if_icmp .ge off, 3)) (ht : (pc : Int) + off = (tgt : Int)) (hx : inR x) (hy : inR y) (hn : pc + 3 = n) (kt : y ≤ x → JM p l e R s m args below meth c wf D A H0 nL Qf σ tgt lv st f) (kf : ¬ y ≤ x → JM p l e R s m args below meth c wf D A H0 nL Qf σ n lv st g) : JM p l e R s m args below meth c wf D A H0 nL Qf σ pc lv (.int (iI y) :: .int (iI x) :: st) (if y ≤ x then f else g) := by
  subst hn
  intro σ' r ho H locs ls hP hD hS hl
  refine lv_icmp_ge X.1 X.2.1 hdg ht (fun q => ?_) (fun q => ?_)
  · have q := (iI_le hy hx).mp q
    rw [if_pos q] at ho
    exact kt q σ' r ho H locs ls hP hD hS hl
  · have q := fun z => q ((iI_le hy hx).mpr z)
    rw [if_neg q] at ho
    exact kf q σ' r ho H locs ls hP hD hS hl
theorem jm_if_ge (X : CX p m meth c cc nL ret s args Ts own D tys E A) {x off : Int} {tgt : Nat} {f g : Option (Sg × Int)} (hdg : decode cc pc = .ok (.ifCond .ge off, 3)) (ht : (pc : Int) + off = (tgt : Int)) (hx : inR x) (hn : pc + 3 = n) (kt : 0 ≤ x → JM p l e R s m args below meth c wf D A H0 nL Qf σ tgt lv st f) (kf : ¬ 0 ≤ x → JM p l e R s m args below meth c wf D A H0 nL Qf σ n lv st g) : JM p l e R s m args below meth c wf D A H0 nL Qf σ pc lv (.int (iI x) :: st) (if 0 ≤ x then f else g) := by
  subst hn
  intro σ' r ho H locs ls hP hD hS hl
  refine lv_if_ge X.1 X.2.1 hdg ht (fun q => ?_) (fun q => ?_)
  · have q := (iI_le inR_0 hx).mp (show _ from q)
    rw [if_pos q] at ho
    exact kt q σ' r ho H locs ls hP hD hS hl
  · have q := fun z => q ((iI_le inR_0 hx).mpr z)
    rw [if_neg q] at ho
    exact kf q σ' r ho H locs ls hP hD hS hl
theorem jm_icmp_gt (X : CX p m meth c cc nL ret s args Ts own D tys E A) {x y off : Int} {tgt : Nat} {f g : Option (Sg × Int)} (hdg : decode cc pc = .ok (.if_icmp .gt off, 3)) (ht : (pc : Int) + off = (tgt : Int)) (hx : inR x) (hy : inR y) (hn : pc + 3 = n) (kt : y < x → JM p l e R s m args below meth c wf D A H0 nL Qf σ tgt lv st f) (kf : ¬ y < x → JM p l e R s m args below meth c wf D A H0 nL Qf σ n lv st g) : JM p l e R s m args below meth c wf D A H0 nL Qf σ pc lv (.int (iI y) :: .int (iI x) :: st) (if y < x then f else g) := by
  subst hn
  intro σ' r ho H locs ls hP hD hS hl
  refine lv_icmp_gt X.1 X.2.1 hdg ht (fun q => ?_) (fun q => ?_)
  · have q := (iI_lt hy hx).mp q
    rw [if_pos q] at ho
    exact kt q σ' r ho H locs ls hP hD hS hl
  · have q := fun z => q ((iI_lt hy hx).mpr z)
    rw [if_neg q] at ho
    exact kf q σ' r ho H locs ls hP hD hS hl
theorem jm_if_gt (X : CX p m meth c cc nL ret s args Ts own D tys E A) {x off : Int} {tgt : Nat} {f g : Option (Sg × Int)} (hdg : decode cc pc = .ok (.ifCond .gt off, 3)) (ht : (pc : Int) + off = (tgt : Int)) (hx : inR x) (hn : pc + 3 = n) (kt : 0 < x → JM p l e R s m args below meth c wf D A H0 nL Qf σ tgt lv st f) (kf : ¬ 0 < x → JM p l e R s m args below meth c wf D A H0 nL Qf σ n lv st g) : JM p l e R s m args below meth c wf D A H0 nL Qf σ pc lv (.int (iI x) :: st) (if 0 < x then f else g) := by
  subst hn
  intro σ' r ho H locs ls hP hD hS hl
  refine lv_if_gt X.1 X.2.1 hdg ht (fun q => ?_) (fun q => ?_)
  · have q := (iI_lt inR_0 hx).mp (show _ from q)
    rw [if_pos q] at ho
    exact kt q σ' r ho H locs ls hP hD hS hl
  · have q := fun z => q ((iI_lt inR_0 hx).mpr z)
    rw [if_neg q] at ho
    exact kf q σ' r ho H locs ls hP hD hS hl
theorem jm_icmp_le (X : CX p m meth c cc nL ret s args Ts own D tys E A) {x y off : Int} {tgt : Nat} {f g : Option (Sg × Int)} (hdg : decode cc pc = .ok (.if_icmp .le off, 3)) (ht : (pc : Int) + off = (tgt : Int)) (hx : inR x) (hy : inR y) (hn : pc + 3 = n) (kt : x ≤ y → JM p l e R s m args below meth c wf D A H0 nL Qf σ tgt lv st f) (kf : ¬ x ≤ y → JM p l e R s m args below meth c wf D A H0 nL Qf σ n lv st g) : JM p l e R s m args below meth c wf D A H0 nL Qf σ pc lv (.int (iI y) :: .int (iI x) :: st) (if x ≤ y then f else g) := by
  subst hn
  intro σ' r ho H locs ls hP hD hS hl
  refine lv_icmp_le X.1 X.2.1 hdg ht (fun q => ?_) (fun q => ?_)
  · have q := (iI_le hx hy).mp q
    rw [if_pos q] at ho
    exact kt q σ' r ho H locs ls hP hD hS hl
  · have q := fun z => q ((iI_le hx hy).mpr z)
    rw [if_neg q] at ho
    exact kf q σ' r ho H locs ls hP hD hS hl
theorem jm_if_le (X : CX p m meth c cc nL ret s args Ts own D tys E A) {x off : Int} {tgt : Nat} {f g : Option (Sg × Int)} (hdg : decode cc pc = .ok (.ifCond .le off, 3)) (ht : (pc : Int) + off = (tgt : Int)) (hx : inR x) (hn : pc + 3 = n) (kt : x ≤ 0 → JM p l e R s m args below meth c wf D A H0 nL Qf σ tgt lv st f) (kf : ¬ x ≤ 0 → JM p l e R s m args below meth c wf D A H0 nL Qf σ n lv st g) : JM p l e R s m args below meth c wf D A H0 nL Qf σ pc lv (.int (iI x) :: st) (if x ≤ 0 then f else g) := by
  subst hn
  intro σ' r ho H locs ls hP hD hS hl
  refine lv_if_le X.1 X.2.1 hdg ht (fun q => ?_) (fun q => ?_)
  · have q := (iI_le hx inR_0).mp (show _ from q)
    rw [if_pos q] at ho
    exact kt q σ' r ho H locs ls hP hD hS hl
  · have q := fun z => q ((iI_le hx inR_0).mpr z)
    rw [if_neg q] at ho
    exact kf q σ' r ho H locs ls hP hD hS hl
theorem jm_icmp_eq (X : CX p m meth c cc nL ret s args Ts own D tys E A) {x y off : Int} {tgt : Nat} {f g : Option (Sg × Int)} (hdg : decode cc pc = .ok (.if_icmp .eq off, 3)) (ht : (pc : Int) + off = (tgt : Int)) (hx : inR x) (hy : inR y) (hn : pc + 3 = n) (kt : x = y → JM p l e R s m args below meth c wf D A H0 nL Qf σ tgt lv st f) (kf : ¬ x = y → JM p l e R s m args below meth c wf D A H0 nL Qf σ n lv st g) : JM p l e R s m args below meth c wf D A H0 nL Qf σ pc lv (.int (iI y) :: .int (iI x) :: st) (if x = y then f else g) := by
  subst hn
  intro σ' r ho H locs ls hP hD hS hl
  refine lv_icmp_eq X.1 X.2.1 hdg ht (fun q => ?_) (fun q => ?_)
  · have q := (iI_eq hx hy).mp q
    rw [if_pos q] at ho
    exact kt q σ' r ho H locs ls hP hD hS hl
  · have q := fun z => q ((iI_eq hx hy).mpr z)
    rw [if_neg q] at ho
    exact kf q σ' r ho H locs ls hP hD hS hl
theorem jm_if_eq (X : CX p m meth c cc nL ret s args Ts own D tys E A) {x off : Int} {tgt : Nat} {f g : Option (Sg × Int)} (hdg : decode cc pc = .ok (.ifCond .eq off, 3)) (ht : (pc : Int) + off = (tgt : Int)) (hx : inR x) (hn : pc + 3 = n) (kt : x = 0 → JM p l e R s m args below meth c wf D A H0 nL Qf σ tgt lv st f) (kf : ¬ x = 0 → JM p l e R s m args below meth c wf D A H0 nL Qf σ n lv st g) : JM p l e R s m args below meth c wf D A H0 nL Qf σ pc lv (.int (iI x) :: st) (if x = 0 then f else g) := by
  subst hn
  intro σ' r ho H locs ls hP hD hS hl
  refine lv_if_eq X.1 X.2.1 hdg ht (fun q => ?_) (fun q => ?_)
  · have q := (iI_eq hx inR_0).mp (show _ from q)
    rw [if_pos q] at ho
    exact kt q σ' r ho H locs ls hP hD hS hl
  · have q := fun z => q ((iI_eq hx inR_0).mpr z)
    rw [if_neg q] at ho
    exact kf q σ' r ho H locs ls hP hD hS hl
theorem jm_icmp_ne (X : CX p m meth c cc nL ret s args Ts own D tys E A) {x y off : Int} {tgt : Nat} {f g : Option (Sg × Int)} (hdg : decode cc pc = .ok (.if_icmp .ne off, 3)) (ht : (pc : Int) + off = (tgt : Int)) (hx : inR x) (hy : inR y) (hn : pc + 3 = n) (kt : x = y → JM p l e R s m args below meth c wf D A H0 nL Qf σ n lv st f) (kf : ¬ x = y → JM p l e R s m args below meth c wf D A H0 nL Qf σ tgt lv st g) : JM p l e R s m args below meth c wf D A H0 nL Qf σ pc lv (.int (iI y) :: .int (iI x) :: st) (if x = y then f else g) := by
  subst hn
  intro σ' r ho H locs ls hP hD hS hl
  refine lv_icmp_ne X.1 X.2.1 hdg ht (fun q => ?_) (fun q => ?_)
  · have q := fun z => q ((iI_eq hx hy).mpr z)
    rw [if_neg q] at ho
    exact kf q σ' r ho H locs ls hP hD hS hl
  · have q := (iI_eq hx hy).mp q
    rw [if_pos q] at ho
    exact kt q σ' r ho H locs ls hP hD hS hl
theorem jm_if_ne (X : CX p m meth c cc nL ret s args Ts own D tys E A) {x off : Int} {tgt : Nat} {f g : Option (Sg × Int)} (hdg : decode cc pc = .ok (.ifCond .ne off, 3)) (ht : (pc : Int) + off = (tgt : Int)) (hx : inR x) (hn : pc + 3 = n) (kt : x = 0 → JM p l e R s m args below meth c wf D A H0 nL Qf σ n lv st f) (kf : ¬ x = 0 → JM p l e R s m args below meth c wf D A H0 nL Qf σ tgt lv st g) : JM p l e R s m args below meth c wf D A H0 nL Qf σ pc lv (.int (iI x) :: st) (if x = 0 then f else g) := by
  subst hn
  intro σ' r ho H locs ls hP hD hS hl
  refine lv_if_ne X.1 X.2.1 hdg ht (fun q => ?_) (fun q => ?_)
  · have q := fun z => q ((iI_eq hx inR_0).mpr z)
    rw [if_neg q] at ho
    exact kf q σ' r ho H locs ls hP hD hS hl
  · have q := (iI_eq hx inR_0).mp q
    rw [if_pos q] at ho
    exact kt q σ' r ho H locs ls hP hD hS hl
theorem jm_tcase (X : CX p m meth c cc nL ret s args Ts own D tys E A) {x : Int} {dflt lo hi off : Int} {offs : Array Int} {len tgt : Nat} {f g : Option (Sg × Int)} (k : Int) (hdg : decode cc pc = .ok (.tableswitch dflt lo hi offs, len)) (hx : inR x) (hlo : lo ≤ k) (hhi : k ≤ hi) (ho9 : offs[(k - lo).toNat]? = some off) (ht : (pc : Int) + off = (tgt : Int)) (kt : x = k → JM p l e R s m args below meth c wf D A H0 nL Qf σ tgt lv st f) (kf : ¬ x = k → JM p l e R s m args below meth c wf D A H0 nL Qf σ pc lv (.int (iI x) :: st) g) : JM p l e R s m args below meth c wf D A H0 nL Qf σ pc lv (.int (iI x) :: st) (if x = k then f else g) := by
  intro σ' r ho H locs ls hP hD hS hl
  by_cases q : x = k
  · rw [if_pos q] at ho
    refine lv_tableIn X.1 X.2.1 hdg (by rw [iI_toInt hx]; omega) (by rw [iI_toInt hx]; omega) (by rw [iI_toInt hx, q]; exact ho9) ht (kt q σ' r ho H locs ls hP hD hS hl)
  · rw [if_neg q] at ho
    exact kf q σ' r ho H locs ls hP hD hS hl
theorem jm_tout (X : CX p m meth c cc nL ret s args Ts own D tys E A) {x : Int} {dflt lo hi : Int} {offs : Array Int} {len tgt : Nat} (hdg : decode cc pc = .ok (.tableswitch dflt lo hi offs, len)) (hx : inR x) (ht : (pc : Int) + dflt = (tgt : Int)) (h : x < lo ∨ hi < x) (kk : JM p l e R s m args below meth c wf D A H0 nL Qf σ tgt lv st o) : JM p l e R s m args below meth c wf D A H0 nL Qf σ pc lv (.int (iI x) :: st) o := by
  intro σ' r ho H locs ls hP hD hS hl
  exact lv_tableOut X.1 X.2.1 hdg (by rw [iI_toInt hx]; exact h) ht (kk σ' r ho H locs ls hP hD hS hl)
theorem jm_get (X : CX p m meth c cc nL ret s args Ts own D tys E A) (q0 ci k : Nat) {C : String} {T : u_T} {N idx a : Nat} {fs : List Value} {v : Value} (he : (wf σ)[q0]? = some (a, .inr (ci, fs))) (hc : vwCl[ci]? = some (C, T, N)) (hk : k < N) (hin : ∀ w ∈ u_ws C T N, w ∈ Ts) (hlink : Cond.fieldLink own idx (T k).1 (T k).2.1 (T k).2.2.1 ∈ Ts) (hv : fs[k]? = some v) (hdg : decode cc pc = .ok (.getfield idx, 3)) (hn : pc + 3 = n) (kk : JM p l e R s m args below meth c wf D A H0 nL Qf σ n lv (v :: st) o) : JM p l e R s m args below meth c wf D A H0 nL Qf σ pc lv (.ref a :: st) o := by
  subst hn
  intro σ' r ho H locs ls hP hD hS hl
  exact va_get X.1 X.2.1 X.2.2.2.2.1 hin X.2.2.2.1 X.2.2.2.2.2.1 hP q0 he hc k hk (X.2.2.2.2.1 _ hlink) (fun _ h => h) hv hdg (kk σ' r ho H locs ls hP hD hS hl)
theorem jm_put (X : CX p m meth c cc nL ret s args Ts own D tys E A) (q0 ci k j : Nat) {C : String} {T : u_T} {N idx a : Nat} {fs : List Value} {v : Value} {z : Int} {ty : FieldType} {f : Sg → Option (Sg × Int)} (he : (wf σ)[q0]? = some (a, .inr (ci, fs))) (hc : vwCl[ci]? = some (C, T, N)) (hk : k < N) (hin : ∀ w ∈ u_ws C T N, w ∈ Ts) (ty0 : Nat → FieldType) (hty : ∀ k, k < N → parseFieldDescriptor (T k).2.2.1 = some (ty0 k)) (hnm : ∀ a, a < N → ∀ b, b < N → a ≠ b → (T a).2.1 ≠ (T b).2.1) (hlink : Cond.fieldLink own idx (T k).1 (T k).2.1 (T k).2.2.1 ∈ Ts) (hfin : (T k).2.2.2 = false) (hd : ty0 k = ty) (hnar : narrow ty v = v) (hfit : fits ty v = true) (hlen : k < fs.length) (hset : (wf σ).set q0 (a, .inr (ci, fs.set k v)) = wf (sI σ j z)) (hok : ok σ) (hz : inR z) (hdg : decode cc pc = .ok (.putfield idx, 3)) (hn : pc + 3 = n) (kk : ∀ τ, ok τ → JM p l e R s m args below meth c wf D A H0 nL Qf τ n lv st (f τ)) : JM p l e R s m args below meth c wf D A H0 nL Qf σ pc lv (v :: .ref a :: st) (nx (sI σ j z) f) := by
  subst hn
  subst hd
  intro σ' r ho H locs ls hP hD hS hl
  refine va_put X.1 X.2.1 X.2.2.2.2.1 hin ty0 hty hnm X.2.2.2.1 X.2.2.2.2.2.1 hP hD hS q0 he hc k hk (X.2.2.2.2.1 _ hlink) (fun _ h => h) hfin (hty k hk) hnar hfit hlen hdg (fun H1 locs1 hP1 hD1 hS1 => ?_)
  rw [hset] at hP1 hD1
  exact kk _ (ok_sI hok j hz) σ' r ho H1 locs1 ls hP1 hD1 hS1 hl
theorem narrow_I (x : Int32) : narrow .int (.int x) = .int x := rfl
theorem fits_I (x : Int32) : fits .int (.int x) = true := rfl
theorem narrow_Z {z : Int} (h : z = 0 ∨ z = 1) : narrow .boolean (.int (iI z)) = .int (iI z) := by rcases h with rfl | rfl <;> rfl
theorem fits_Z {z : Int} (h : z = 0 ∨ z = 1) : fits .boolean (.int (iI z)) = true := by rcases h with rfl | rfl <;> rfl
theorem jm_ald (X : CX p m meth c cc nL ret s args Ts own D tys E A) (q0 t0 k : Nat) {cA : ClassId} {N a : Nat} {z M : Int} {f : Option (Sg × Int)} (ha : (wf σ)[q0]? = some (a, .inl (cA, N, .inl (fun j : Nat => iI (gA σ k j))))) (ht : tys[t0]? = some (cA, .int)) (hM : (N : Int) = M) (hz : inR z) (hdg : decode cc pc = .ok (.iaload, 1)) (hn : pc + 1 = n) (kk : 0 ≤ z ∧ z < M → JM p l e R s m args below meth c wf D A H0 nL Qf σ n lv (.int (iI (gA σ k z)) :: st) f) : JM p l e R s m args below meth c wf D A H0 nL Qf σ pc lv (.int (iI z) :: .ref a :: st) (ck (0 ≤ z ∧ z < M) f) := by
  subst hn
  subst hM
  refine jm_ck fun h => ?_
  intro σ' r ho H locs ls hP hD hS hl
  refine va_iald X.1 X.2.1 X.2.2.2.2.2.1 hP q0 t0 ha ht ((iI_in hz).mpr h) hdg ?_
  have e1 : iI (gA σ k ((iI z).toNatClampNeg : Nat)) = iI (gA σ k z) := by rw [iI_cl hz, Int.toNat_of_nonneg h.1]
  show W p l e R s m args below meth c H locs 0 0 (Qf σ' r) (F0 m (pc + 1) ls (.int (iI (gA σ k ((iI z).toNatClampNeg : Nat))) :: st))
  rw [e1]
  exact kk h σ' r ho H locs ls hP hD hS hl
theorem upd_sA {σ : Sg} {k : Nat} {z v : Int} (hz : inR z) (h0 : 0 ≤ z) : upd (fun j : Nat => iI (gA σ k j)) (iI z).toNatClampNeg (iI v) = fun j : Nat => iI (gA (sA σ k z v) k j) := by
  funext j
  rw [iI_cl hz]
  show (if j = z.toNat then iI v else iI (gA σ k j)) = iI ((bif Nat.beq k k then (fun t => if t = z then v else σ.2 k t) else σ.2 k) (j : Int))
  rw [show Nat.beq k k = true from Nat.beq_refl k]
  show (if j = z.toNat then iI v else iI (gA σ k j)) = iI (if (j : Int) = z then v else σ.2 k j)
  by_cases h : j = z.toNat
  · rw [if_pos h, if_pos (by omega)]
  · rw [if_neg h, if_neg (by omega)]; rfl
theorem jm_ast (X : CX p m meth c cc nL ret s args Ts own D tys E A) (q0 t0 k : Nat) {cA : ClassId} {N a : Nat} {z M v : Int} {f : Sg → Option (Sg × Int)} (ha : (wf σ)[q0]? = some (a, .inl (cA, N, .inl (fun j : Nat => iI (gA σ k j))))) (ht : tys[t0]? = some (cA, .int)) (hM : (N : Int) = M) (hset : (wf σ).set q0 (a, .inl (cA, N, .inl (fun j : Nat => iI (gA (sA σ k z v) k j)))) = wf (sA σ k z v)) (hok : ok σ) (hz : inR z) (hv : inR v) (hdg : decode cc pc = .ok (.iastore, 1)) (hn : pc + 1 = n) (kk : 0 ≤ z ∧ z < M → ∀ τ, ok τ → JM p l e R s m args below meth c wf D A H0 nL Qf τ n lv st (f τ)) : JM p l e R s m args below meth c wf D A H0 nL Qf σ pc lv (.int (iI v) :: .int (iI z) :: .ref a :: st) (ck (0 ≤ z ∧ z < M) (nx (sA σ k z v) f)) := by
  subst hn
  subst hM
  refine jm_ck fun h => ?_
  intro σ' r ho H locs ls hP hD hS hl
  refine va_iast X.1 X.2.1 X.2.2.2.2.2.1 hP hD hS q0 t0 ha ht ((iI_in hz).mpr h) hdg (fun H1 locs1 hP1 hD1 hS1 => ?_)
  rw [upd_sA hz h.1, hset] at hP1 hD1
  exact kk h _ (ok_sA hok k z hv) σ' r ho H1 locs1 ls hP1 hD1 hS1 hl
theorem jm_zald (X : CX p m meth c cc nL ret s args Ts own D tys E A) (q0 t0 k : Nat) {cA : ClassId} {N a : Nat} {z M : Int} {f : Option (Sg × Int)} (ha : (wf σ)[q0]? = some (a, .inl (cA, N, .inl (fun j : Nat => iI (gA σ k j))))) (ht : tys[t0]? = some (cA, .boolean)) (hM : (N : Int) = M) (hz : inR z) (hdg : decode cc pc = .ok (.baload, 1)) (hn : pc + 1 = n) (kk : 0 ≤ z ∧ z < M → JM p l e R s m args below meth c wf D A H0 nL Qf σ n lv (.int (iI (gA σ k z)) :: st) f) : JM p l e R s m args below meth c wf D A H0 nL Qf σ pc lv (.int (iI z) :: .ref a :: st) (ck (0 ≤ z ∧ z < M) f) := by
  subst hn
  subst hM
  refine jm_ck fun h => ?_
  intro σ' r ho H locs ls hP hD hS hl
  refine va_zald X.1 X.2.1 X.2.2.2.2.2.1 hP q0 t0 ha ht ((iI_in hz).mpr h) hdg ?_
  have e1 : iI (gA σ k ((iI z).toNatClampNeg : Nat)) = iI (gA σ k z) := by rw [iI_cl hz, Int.toNat_of_nonneg h.1]
  show W p l e R s m args below meth c H locs 0 0 (Qf σ' r) (F0 m (pc + 1) ls (.int (iI (gA σ k ((iI z).toNatClampNeg : Nat))) :: st))
  rw [e1]
  exact kk h σ' r ho H locs ls hP hD hS hl
theorem nar_Z {v : Int} (h : v = 0 ∨ v = 1) : vp_nar .boolean (iI v) = iI v := by rcases h with rfl | rfl <;> rfl
theorem jm_zast (X : CX p m meth c cc nL ret s args Ts own D tys E A) (q0 t0 k : Nat) {cA : ClassId} {N a : Nat} {z M v : Int} {f : Sg → Option (Sg × Int)} (ha : (wf σ)[q0]? = some (a, .inl (cA, N, .inl (fun j : Nat => iI (gA σ k j))))) (ht : tys[t0]? = some (cA, .boolean)) (hM : (N : Int) = M) (hset : (wf σ).set q0 (a, .inl (cA, N, .inl (fun j : Nat => iI (gA (sA σ k z v) k j)))) = wf (sA σ k z v)) (hok : ok σ) (hz : inR z) (hv : v = 0 ∨ v = 1) (hdg : decode cc pc = .ok (.bastore, 1)) (hn : pc + 1 = n) (kk : 0 ≤ z ∧ z < M → ∀ τ, ok τ → JM p l e R s m args below meth c wf D A H0 nL Qf τ n lv st (f τ)) : JM p l e R s m args below meth c wf D A H0 nL Qf σ pc lv (.int (iI v) :: .int (iI z) :: .ref a :: st) (ck (0 ≤ z ∧ z < M) (nx (sA σ k z v) f)) := by
  subst hn
  subst hM
  refine jm_ck fun h => ?_
  intro σ' r ho H locs ls hP hD hS hl
  refine va_zast X.1 X.2.1 X.2.2.2.2.2.1 hP hD hS q0 t0 ha ht ((iI_in hz).mpr h) hdg (fun H1 locs1 hP1 hD1 hS1 => ?_)
  rw [nar_Z hv, upd_sA hz h.1, hset] at hP1 hD1
  exact kk h _ (ok_sA hok k z (by rcases hv with rfl | rfl <;> decide)) σ' r ho H1 locs1 ls hP1 hD1 hS1 hl
theorem jm_alen (X : CX p m meth c cc nL ret s args Ts own D tys E A) (q0 t0 : Nat) {cA : ClassId} {N a : Nat} {ty : FieldType} {z : Int} {g : Nat → Int32} (ha : (wf σ)[q0]? = some (a, .inl (cA, N, .inl g))) (ht : tys[t0]? = some (cA, ty)) (hN : Int32.ofNat N = iI z) (hdg : decode cc pc = .ok (.arraylength, 1)) (hn : pc + 1 = n) (kk : JM p l e R s m args below meth c wf D A H0 nL Qf σ n lv (.int (iI z) :: st) o) : JM p l e R s m args below meth c wf D A H0 nL Qf σ pc lv (.ref a :: st) o := by
  subst hn
  intro σ' r ho H locs ls hP hD hS hl
  exact va_alen X.1 X.2.1 X.2.2.2.2.2.1 hP q0 t0 ha ht hN hdg (kk σ' r ho H locs ls hP hD hS hl)
end JMR
/-- a method's start and end over a world of states -/
def PP (E : EE) (wf : Sg → va_W) (D : va_G) (tys : List (ClassId × FieldType)) (σ0 : Sg) (sz : Nat) (vs : List Value) : Array Value → State → Prop := va_Pc vs (fun U => U.heap.size = sz ∧ va_P D vwCl (wf σ0) U.heap ∧ va_K D vwCl tys U ∧ va_D (fun _ => True) (wf σ0) ∧ E (va_A (wf σ0) sz) U U.heap)
def BB (wf : Sg → va_W) (D : va_G) (tys : List (ClassId × FieldType)) (σ0 : Sg) (sz : Nat) (u : Sg) (t : State) : Prop := va_P D vwCl (wf u) t.heap ∧ va_K D vwCl tys t ∧ va_D (va_A (wf σ0) sz) (wf u)
def QI (wf : Sg → va_W) (D : va_G) (tys : List (ClassId × FieldType)) (σ0 : Sg) (sz : Nat) (σ' : Sg) (r : Int) : Array Value → State → Outcome → State → Prop := va_Qi (fun r' (u : Sg) => r' = iI r ∧ u = σ' ∧ ok σ' ∧ inR r) (BB wf D tys σ0 sz) (va_A (wf σ0) sz)
def QV (wf : Sg → va_W) (D : va_G) (tys : List (ClassId × FieldType)) (σ0 : Sg) (sz : Nat) (σ' : Sg) : Array Value → State → Outcome → State → Prop := va_Qv (fun (u : Sg) => u = σ' ∧ ok σ') (BB wf D tys σ0 sz) (va_A (wf σ0) sz)
def ctI (E : EE) (l : Launch) (wf : Sg → va_W) (D : va_G) (tys : List (ClassId × FieldType)) (y : MethodName) (ws : List Cond) (rm : Room) (vs : List Value) (σ0 : Sg) (o : Option (Sg × Int)) : Prop := ∀ (σ' : Sg) (r : Int), o = some (σ', r) → ∀ sz : Nat, Met l y ws rm (PP E wf D tys σ0 sz vs) (QI wf D tys σ0 sz σ' r) 0 0 (va_A (wf σ0) sz)
def ctV (E : EE) (l : Launch) (wf : Sg → va_W) (D : va_G) (tys : List (ClassId × FieldType)) (y : MethodName) (ws : List Cond) (rm : Room) (vs : List Value) (σ0 : Sg) (o : Option (Sg × Int)) : Prop := ∀ (σ' : Sg) (r : Int), o = some (σ', r) → ∀ sz : Nat, Met l y ws rm (PP E wf D tys σ0 sz vs) (QV wf D tys σ0 sz σ') 0 0 (va_A (wf σ0) sz)
theorem PP_blind {E : EE} (hE : Eok E) (wf : Sg → va_W) (D : va_G) (tys : List (ClassId × FieldType)) (σ0 : Sg) (sz : Nat) (vs : List Value) : FrameBlind (PP E wf D tys σ0 sz vs) := fun a U g mk q => by
  obtain ⟨q0, q1, qP, qK, qD, qE⟩ := q
  exact ⟨q0, q1, qP, va_K.moved (u := U) (U := U.calling g mk a) (Vm.Alike.refl U.vm) qK, qD, hE _ _ U (U.calling g mk a) U.heap U.heap (Vm.Alike.refl U.vm) (fun _ h => h) (fun _ _ _ => rfl) qE⟩
theorem of_I {E : EE} (hE : Eok E) {l : Launch} {wf : Sg → va_W} {D : va_G} {tys : List (ClassId × FieldType)} {y : MethodName} {ws ws' : List Cond} {rm : Room} {cc : ByteArray} {maxL : Nat} {own : String} {vs : List Value} {σ0 : Sg} {o : Option (Sg × Int)} {lv : List (Nat × Value)} (hy : plainName y.cls = true) (hw : ws = Cond.code y cc maxL (some .int) :: ws') (hown : y.cls = own) (hvs : (lg_sl vs).length ≤ maxL) (hlv : lv_args 0 vs = lv)
    (body : ∀ (p : Program) (e : Env) (s : State) (m : MethodId) (below : List Frame) (meth : Method) (c : Code) (sz : Nat), CX p m meth c cc maxL (some .int) s vs.toArray ws own D tys E (va_A (wf σ0) sz) → (∀ z : Nat, s.heap.size ≤ z → va_A (wf σ0) sz z) → JM p l e rm s m vs.toArray below meth c wf D (va_A (wf σ0) sz) s.heap maxL (fun σ' r => MQ below (QI wf D tys σ0 sz σ' r) vs.toArray s 0 0 (va_A (wf σ0) sz)) σ0 0 lv [] o) : ctI E l wf D tys y ws rm vs σ0 o := by
  intro σ' r ho sz
  refine Met.ofW (cc := cc) (maxL := maxL) (ret := (some .int)) hy hw ?_
  intro p e s m args below meth c s₁ B hml hv
  obtain ⟨rfl, hsz, hP, hK, hD0, hE0⟩ := hv
  have hts := atoms_spec (ws := ws) B.pre
  have hown2 : s.vm.findClass own = some m.cls := by rw [← hown]; exact findClass_of_methodNamed B.named
  have hl := lv_entry vs (n := maxL) hvs
  rw [lg_entry_eq]
  generalize (lg_sl vs ++ List.replicate (maxL - (lg_sl vs).length) Slot.unset).toArray = ls at hl ⊢
  rw [hlv] at hl
  exact body p e s m below meth c sz ⟨B.exec, B.bytes, hml, hown2, hts, hK, B.returns, B.notSynchronized, hE0, hE⟩ (fun z hz => Or.inr (by rw [← hsz]; exact hz)) σ' r ho s.heap [] ls hP (hD0.self (sz := sz)) va_S.rf hl
theorem of_Z {E : EE} (hE : Eok E) {l : Launch} {wf : Sg → va_W} {D : va_G} {tys : List (ClassId × FieldType)} {y : MethodName} {ws ws' : List Cond} {rm : Room} {cc : ByteArray} {maxL : Nat} {own : String} {vs : List Value} {σ0 : Sg} {o : Option (Sg × Int)} {lv : List (Nat × Value)} (hy : plainName y.cls = true) (hw : ws = Cond.code y cc maxL (some .boolean) :: ws') (hown : y.cls = own) (hvs : (lg_sl vs).length ≤ maxL) (hlv : lv_args 0 vs = lv)
    (body : ∀ (p : Program) (e : Env) (s : State) (m : MethodId) (below : List Frame) (meth : Method) (c : Code) (sz : Nat), CX p m meth c cc maxL (some .boolean) s vs.toArray ws own D tys E (va_A (wf σ0) sz) → (∀ z : Nat, s.heap.size ≤ z → va_A (wf σ0) sz z) → JM p l e rm s m vs.toArray below meth c wf D (va_A (wf σ0) sz) s.heap maxL (fun σ' r => MQ below (QI wf D tys σ0 sz σ' r) vs.toArray s 0 0 (va_A (wf σ0) sz)) σ0 0 lv [] o) : ctI E l wf D tys y ws rm vs σ0 o := by
  intro σ' r ho sz
  refine Met.ofW (cc := cc) (maxL := maxL) (ret := (some .boolean)) hy hw ?_
  intro p e s m args below meth c s₁ B hml hv
  obtain ⟨rfl, hsz, hP, hK, hD0, hE0⟩ := hv
  have hts := atoms_spec (ws := ws) B.pre
  have hown2 : s.vm.findClass own = some m.cls := by rw [← hown]; exact findClass_of_methodNamed B.named
  have hl := lv_entry vs (n := maxL) hvs
  rw [lg_entry_eq]
  generalize (lg_sl vs ++ List.replicate (maxL - (lg_sl vs).length) Slot.unset).toArray = ls at hl ⊢
  rw [hlv] at hl
  exact body p e s m below meth c sz ⟨B.exec, B.bytes, hml, hown2, hts, hK, B.returns, B.notSynchronized, hE0, hE⟩ (fun z hz => Or.inr (by rw [← hsz]; exact hz)) σ' r ho s.heap [] ls hP (hD0.self (sz := sz)) va_S.rf hl
theorem of_V {E : EE} (hE : Eok E) {l : Launch} {wf : Sg → va_W} {D : va_G} {tys : List (ClassId × FieldType)} {y : MethodName} {ws ws' : List Cond} {rm : Room} {cc : ByteArray} {maxL : Nat} {own : String} {vs : List Value} {σ0 : Sg} {o : Option (Sg × Int)} {lv : List (Nat × Value)} (hy : plainName y.cls = true) (hw : ws = Cond.code y cc maxL none :: ws') (hown : y.cls = own) (hvs : (lg_sl vs).length ≤ maxL) (hlv : lv_args 0 vs = lv)
    (body : ∀ (p : Program) (e : Env) (s : State) (m : MethodId) (below : List Frame) (meth : Method) (c : Code) (sz : Nat), CX p m meth c cc maxL none s vs.toArray ws own D tys E (va_A (wf σ0) sz) → (∀ z : Nat, s.heap.size ≤ z → va_A (wf σ0) sz z) → JM p l e rm s m vs.toArray below meth c wf D (va_A (wf σ0) sz) s.heap maxL (fun σ' _ => MQ below (QV wf D tys σ0 sz σ') vs.toArray s 0 0 (va_A (wf σ0) sz)) σ0 0 lv [] o) : ctV E l wf D tys y ws rm vs σ0 o := by
  intro σ' r ho sz
  refine Met.ofW (cc := cc) (maxL := maxL) (ret := none) hy hw ?_
  intro p e s m args below meth c s₁ B hml hv
  obtain ⟨rfl, hsz, hP, hK, hD0, hE0⟩ := hv
  have hts := atoms_spec (ws := ws) B.pre
  have hown2 : s.vm.findClass own = some m.cls := by rw [← hown]; exact findClass_of_methodNamed B.named
  have hl := lv_entry vs (n := maxL) hvs
  rw [lg_entry_eq]
  generalize (lg_sl vs ++ List.replicate (maxL - (lg_sl vs).length) Slot.unset).toArray = ls at hl ⊢
  rw [hlv] at hl
  exact body p e s m below meth c sz ⟨B.exec, B.bytes, hml, hown2, hts, hK, B.returns, B.notSynchronized, hE0, hE⟩ (fun z hz => Or.inr (by rw [← hsz]; exact hz)) σ' r ho s.heap [] ls hP (hD0.self (sz := sz)) va_S.rf hl
abbrev mT (cI cZ : ClassId) : List (ClassId × FieldType) := [(cI, .int), (cZ, .boolean)]
abbrev JI (l : Launch) (rm : Room) (wf : Sg → va_W) (D : va_G) (tys : List (ClassId × FieldType)) (σz : Sg) (sz nL : Nat) (p : Program) (e : Env) (s : State) (m : MethodId) (args : Array Value) (below : List Frame) (meth : Method) (c : Code) : Sg → Nat → List (Nat × Value) → List Value → Option (Sg × Int) → Prop := JM p l e rm s m args below meth c wf D (va_A (wf σz) sz) s.heap nL (fun σ' r => MQ below (QI wf D tys σz sz σ' r) args s 0 0 (va_A (wf σz) sz))
abbrev JV (l : Launch) (rm : Room) (wf : Sg → va_W) (D : va_G) (tys : List (ClassId × FieldType)) (σz : Sg) (sz nL : Nat) (p : Program) (e : Env) (s : State) (m : MethodId) (args : Array Value) (below : List Frame) (meth : Method) (c : Code) : Sg → Nat → List (Nat × Value) → List Value → Option (Sg × Int) → Prop := JM p l e rm s m args below meth c wf D (va_A (wf σz) sz) s.heap nL (fun σ' _ => MQ below (QV wf D tys σz sz σ') args s 0 0 (va_A (wf σz) sz))
theorem in_idiv {x y : Int} (hx : inR x) (h0 : 0 ≤ x) (hy : 0 < y) : inR (x / y) := ⟨by have := Int.ediv_nonneg h0 (Int.le_of_lt hy); omega, Int.le_trans (Int.ediv_le_self y h0) hx.2⟩
theorem in_irem {x y : Int} (hx : inR x) (h0 : 0 ≤ x) (hy : 0 < y) : inR (x % y) := ⟨by have := Int.emod_nonneg x (Int.ne_of_gt hy); omega, by have h1 := Int.emod_nonneg x (Int.ne_of_gt hy); have h2 := Int.mul_ediv_add_emod x y; have h3 := Int.mul_nonneg (Int.le_of_lt hy) (Int.ediv_nonneg h0 (Int.le_of_lt hy)); have := hx.2; omega⟩
section JMC
variable {p : Program} {l : Launch} {e : Env} {R : Room} {s : State} {m : MethodId} {args : Array Value} {below : List Frame} {meth : Method} {c : Code} {wf : Sg → va_W} {D : va_G} {tys : List (ClassId × FieldType)} {A : Nat → Prop} {H0 : Heap} {cc : ByteArray} {nL : Nat} {Ts : List Cond} {own : String} {E : EE} {ret : Option FieldType} {σ : Sg} {pc n : Nat} {lv : List (Nat × Value)} {st : List Value} {o : Option (Sg × Int)} {σ0 : Sg} {sz : Nat}
theorem jm_iret (X : CX p m meth c cc nL (some .int) s args Ts own D tys E (va_A (wf σ0) sz)) {r : Int} (hH : H0 = s.heap) (hok : ok σ) (hr : inR r) (hdg : decode cc pc = .ok (.ireturn, 1)) : JM p l e R s m args below meth c wf D (va_A (wf σ0) sz) H0 nL (fun σ' r => MQ below (QI wf D tys σ0 sz σ' r) args s 0 0 (va_A (wf σ0) sz)) σ pc lv [.int (iI r)] (some (σ, r)) := by
  subst hH
  intro σ' r' ho H locs ls hP hD hS hl
  cases ho
  have hlocks := X.2.2.2.2.2.2.2.1
  exact W.iret (v := iI r) X.1 X.2.1 X.2.2.2.2.2.2.1 (fun t ht hW => ⟨⟨iI r, σ, rfl, ⟨rfl, rfl, hok, hr⟩, by rw [ht]; exact hP, va_K.moved hW.alike X.2.2.2.2.2.1, hD⟩, hS.F ht⟩) hS.2.2 hdg hlocks
theorem jm_zret (X : CX p m meth c cc nL (some .boolean) s args Ts own D tys E (va_A (wf σ0) sz)) {r : Int} (hH : H0 = s.heap) (hok : ok σ) (hdg : decode cc pc = .ok (.ireturn, 1)) : JM p l e R s m args below meth c wf D (va_A (wf σ0) sz) H0 nL (fun σ' r => MQ below (QI wf D tys σ0 sz σ' r) args s 0 0 (va_A (wf σ0) sz)) σ pc lv [.int (iI r)] (ck (r = 0 ∨ r = 1) (some (σ, r))) := by
  subst hH
  refine jm_ck fun h01 => ?_
  intro σ' r' ho H locs ls hP hD hS hl
  cases ho
  have hlocks := X.2.2.2.2.2.2.2.1
  exact W.zret (v := iI r) X.1 X.2.1 X.2.2.2.2.2.2.1 (narrow_Z h01) (fun t ht hW => ⟨⟨iI r, σ, rfl, ⟨rfl, rfl, hok, by rcases h01 with rfl | rfl <;> decide⟩, by rw [ht]; exact hP, va_K.moved hW.alike X.2.2.2.2.2.1, hD⟩, hS.F ht⟩) hS.2.2 hdg hlocks
theorem jm_vret (X : CX p m meth c cc nL none s args Ts own D tys E (va_A (wf σ0) sz)) {r : Int} (hH : H0 = s.heap) (hok : ok σ) (hdg : decode cc pc = .ok (.return_, 1)) : JM p l e R s m args below meth c wf D (va_A (wf σ0) sz) H0 nL (fun σ' _ => MQ below (QV wf D tys σ0 sz σ') args s 0 0 (va_A (wf σ0) sz)) σ pc lv [] (some (σ, r)) := by
  subst hH
  intro σ' r' ho H locs ls hP hD hS hl
  cases ho
  have hlocks := X.2.2.2.2.2.2.2.1
  exact W.vret X.1 X.2.1 X.2.2.2.2.2.2.1 (fun t ht hW => ⟨⟨σ, rfl, ⟨rfl, hok⟩, by rw [ht]; exact hP, va_K.moved hW.alike X.2.2.2.2.2.1, hD⟩, hS.F ht⟩) hS.2.2 hdg hlocks
end JMC
section JMK
variable {p : Program} {l : Launch} {e : Env} {R : Room} {s : State} {m : MethodId} {args : Array Value} {below : List Frame} {meth : Method} {c : Code} {wf : Sg → va_W} {D : va_G} {tys : List (ClassId × FieldType)} {A : Nat → Prop} {Qf : Sg → Int → State → Prop} {cc : ByteArray} {nL : Nat} {Ts : List Cond} {own : String} {E : EE} {ret : Option FieldType} {σ : Sg} {pc n : Nat} {lv : List (Nat × Value)} {st : List Value} {o : Option (Sg × Int)} {y : MethodName} {bytes : ByteArray} {maxL idx k : Nat} {ret2 : Option FieldType} {ws : List Cond} {rm : Room} {vs rest : List Value} {b : Nat} {C : String} {q : Option (Sg × Int)} {f : Sg → Int → Option (Sg × Int)}
theorem jm_callVi (X : CX p m meth c cc nL ret s args Ts own D tys E A) (hA : ∀ z : Nat, s.heap.size ≤ z → A z) (hM : ctI E l wf D tys y ws rm (.ref b :: vs) σ q) (cw : CallW R s args own C idx y bytes maxL ret2 ws rm 0 0 k) (q0 ci : Nat) {T : u_T} {N : Nat} {fs : List Value} (he : (wf σ)[q0]? = some (b, .inr (ci, fs))) (hc : vwCl[ci]? = some (C, T, N)) (hlen : vs.length = k) (hroom : (rest.map fun v => v.category).sum ≤ 8) (hdg : decode cc pc = .ok (.invokevirtual idx, 3)) (hn : pc + 3 = n) (kk : ∀ (τ : Sg) (r : Int), ok τ → inR r → JM p l e R s m args below meth c wf D A s.heap nL Qf τ n lv (.int (iI r) :: rest) (f τ r)) : JM p l e R s m args below meth c wf D A s.heap nL Qf σ pc lv (vs.reverse ++ .ref b :: rest) (bd q f) := by
  subst hn
  intro σ' r' ho H locs ls hP hD hS hl
  have hFc : ∀ z, va_A (wf σ) H.size z → A z := fun z hz => by
    rcases hz with ⟨k9, e9, h9⟩ | h9
    · exact hD.2 k9 _ h9
    · exact hA z (Nat.le_trans hS.1 h9)
  cases hq : q with
  | none => rw [hq] at ho; cases ho
  | some u =>
    obtain ⟨τ, r⟩ := u
    rw [hq] at ho
    refine va_calli (va_runV (As := vs) (rest := rest) ⟨X.1, X.2.1, X.2.2.1, X.2.2.2.1, X.2.2.2.2.1⟩ (hM _ _ hq H.size) cw ⟨PP_blind X.2.2.2.2.2.2.2.2.2 wf D tys σ _ _, va_recv X.2.2.2.2.2.1 hP hc he, fun U hU hW => ⟨rfl, by rw [hU], by rw [hU]; exact hP, va_K.moved hW.alike X.2.2.2.2.2.1, hD.weaken (fun _ _ _ _ => trivial), X.2.2.2.2.2.2.2.2.2 _ _ s U s.heap U.heap hW.alike hFc (fun a h1 h2 => by rw [hU]; exact hS.2.1 a h1 h2) X.2.2.2.2.2.2.2.2.1⟩⟩ rfl hlen hl.1 rfl (lv_room hroom) hdg ⟨Nat.zero_le _, Nat.zero_le _⟩) hS (fun z _ h => hFc z h) hFc (fun r9 u t H1 locs1 ht hvm hw hB hz1 hk1 hS1 => ?_)
    obtain ⟨rfl, rfl, hok2, hr2⟩ := hw
    obtain ⟨hP1, hK1, hD1⟩ := hB
    rw [ht] at hP1
    exact kk _ _ hok2 hr2 σ' r' ho H1 locs1 ls hP1 (hD1.weaken (fun _ _ _ h => hFc _ h)) hS1 hl
theorem jm_callVv (X : CX p m meth c cc nL ret s args Ts own D tys E A) (hA : ∀ z : Nat, s.heap.size ≤ z → A z) (hM : ctV E l wf D tys y ws rm (.ref b :: vs) σ q) (cw : CallW R s args own C idx y bytes maxL ret2 ws rm 0 0 k) (q0 ci : Nat) {T : u_T} {N : Nat} {fs : List Value} (he : (wf σ)[q0]? = some (b, .inr (ci, fs))) (hc : vwCl[ci]? = some (C, T, N)) (hlen : vs.length = k) (hroom : (rest.map fun v => v.category).sum ≤ 8) (hdg : decode cc pc = .ok (.invokevirtual idx, 3)) (hn : pc + 3 = n) (kk : ∀ (τ : Sg) (r : Int), ok τ → JM p l e R s m args below meth c wf D A s.heap nL Qf τ n lv rest (f τ r)) : JM p l e R s m args below meth c wf D A s.heap nL Qf σ pc lv (vs.reverse ++ .ref b :: rest) (bd q f) := by
  subst hn
  intro σ' r' ho H locs ls hP hD hS hl
  have hFc : ∀ z, va_A (wf σ) H.size z → A z := fun z hz => by
    rcases hz with ⟨k9, e9, h9⟩ | h9
    · exact hD.2 k9 _ h9
    · exact hA z (Nat.le_trans hS.1 h9)
  cases hq : q with
  | none => rw [hq] at ho; cases ho
  | some u =>
    obtain ⟨τ, r⟩ := u
    rw [hq] at ho
    refine va_callv (va_runV (As := vs) (rest := rest) ⟨X.1, X.2.1, X.2.2.1, X.2.2.2.1, X.2.2.2.2.1⟩ (hM _ _ hq H.size) cw ⟨PP_blind X.2.2.2.2.2.2.2.2.2 wf D tys σ _ _, va_recv X.2.2.2.2.2.1 hP hc he, fun U hU hW => ⟨rfl, by rw [hU], by rw [hU]; exact hP, va_K.moved hW.alike X.2.2.2.2.2.1, hD.weaken (fun _ _ _ _ => trivial), X.2.2.2.2.2.2.2.2.2 _ _ s U s.heap U.heap hW.alike hFc (fun a h1 h2 => by rw [hU]; exact hS.2.1 a h1 h2) X.2.2.2.2.2.2.2.2.1⟩⟩ rfl hlen hl.1 rfl (lv_room hroom) hdg ⟨Nat.zero_le _, Nat.zero_le _⟩) hS (fun z _ h => hFc z h) hFc (fun u t H1 locs1 ht hvm hw hB hz1 hk1 hS1 => ?_)
    obtain ⟨rfl, hok2⟩ := hw
    obtain ⟨hP1, hK1, hD1⟩ := hB
    rw [ht] at hP1
    exact kk _ _ hok2 σ' r' ho H1 locs1 ls hP1 (hD1.weaken (fun _ _ _ h => hFc _ h)) hS1 hl
theorem jm_callSi (X : CX p m meth c cc nL ret s args Ts own D tys E A) (hA : ∀ z : Nat, s.heap.size ≤ z → A z) (hM : ctI E l wf D tys y ws rm vs σ q) (cw : CallB R s args own idx y bytes maxL ret2 ws rm 0 0 k ∧ (Cond.static y).before args s = true) (hlen : vs.length = k) (hroom : (rest.map fun v => v.category).sum ≤ 8) (hdg : decode cc pc = .ok (.invokestatic idx, 3)) (hn : pc + 3 = n) (kk : ∀ (τ : Sg) (r : Int), ok τ → inR r → JM p l e R s m args below meth c wf D A s.heap nL Qf τ n lv (.int (iI r) :: rest) (f τ r)) : JM p l e R s m args below meth c wf D A s.heap nL Qf σ pc lv (vs.reverse ++ rest) (bd q f) := by
  subst hn
  intro σ' r' ho H locs ls hP hD hS hl
  have hFc : ∀ z, va_A (wf σ) H.size z → A z := fun z hz => by
    rcases hz with ⟨k9, e9, h9⟩ | h9
    · exact hD.2 k9 _ h9
    · exact hA z (Nat.le_trans hS.1 h9)
  cases hq : q with
  | none => rw [hq] at ho; cases ho
  | some u =>
    obtain ⟨τ, r⟩ := u
    rw [hq] at ho
    refine va_calli (va_runS (As := vs) (rest := rest) ⟨X.1, X.2.1, X.2.2.1, X.2.2.2.1, X.2.2.2.2.1⟩ (hM _ _ hq H.size) cw ⟨PP_blind X.2.2.2.2.2.2.2.2.2 wf D tys σ _ _, fun U hU hW => ⟨rfl, by rw [hU], by rw [hU]; exact hP, va_K.moved hW.alike X.2.2.2.2.2.1, hD.weaken (fun _ _ _ _ => trivial), X.2.2.2.2.2.2.2.2.2 _ _ s U s.heap U.heap hW.alike hFc (fun a h1 h2 => by rw [hU]; exact hS.2.1 a h1 h2) X.2.2.2.2.2.2.2.2.1⟩⟩ rfl hlen hl.1 rfl (lv_room hroom) hdg ⟨Nat.zero_le _, Nat.zero_le _⟩) hS (fun z _ h => hFc z h) hFc (fun r9 u t H1 locs1 ht hvm hw hB hz1 hk1 hS1 => ?_)
    obtain ⟨rfl, rfl, hok2, hr2⟩ := hw
    obtain ⟨hP1, hK1, hD1⟩ := hB
    rw [ht] at hP1
    exact kk _ _ hok2 hr2 σ' r' ho H1 locs1 ls hP1 (hD1.weaken (fun _ _ _ h => hFc _ h)) hS1 hl
theorem jm_callSv (X : CX p m meth c cc nL ret s args Ts own D tys E A) (hA : ∀ z : Nat, s.heap.size ≤ z → A z) (hM : ctV E l wf D tys y ws rm vs σ q) (cw : CallB R s args own idx y bytes maxL ret2 ws rm 0 0 k ∧ (Cond.static y).before args s = true) (hlen : vs.length = k) (hroom : (rest.map fun v => v.category).sum ≤ 8) (hdg : decode cc pc = .ok (.invokestatic idx, 3)) (hn : pc + 3 = n) (kk : ∀ (τ : Sg) (r : Int), ok τ → JM p l e R s m args below meth c wf D A s.heap nL Qf τ n lv rest (f τ r)) : JM p l e R s m args below meth c wf D A s.heap nL Qf σ pc lv (vs.reverse ++ rest) (bd q f) := by
  subst hn
  intro σ' r' ho H locs ls hP hD hS hl
  have hFc : ∀ z, va_A (wf σ) H.size z → A z := fun z hz => by
    rcases hz with ⟨k9, e9, h9⟩ | h9
    · exact hD.2 k9 _ h9
    · exact hA z (Nat.le_trans hS.1 h9)
  cases hq : q with
  | none => rw [hq] at ho; cases ho
  | some u =>
    obtain ⟨τ, r⟩ := u
    rw [hq] at ho
    refine va_callv (va_runS (As := vs) (rest := rest) ⟨X.1, X.2.1, X.2.2.1, X.2.2.2.1, X.2.2.2.2.1⟩ (hM _ _ hq H.size) cw ⟨PP_blind X.2.2.2.2.2.2.2.2.2 wf D tys σ _ _, fun U hU hW => ⟨rfl, by rw [hU], by rw [hU]; exact hP, va_K.moved hW.alike X.2.2.2.2.2.1, hD.weaken (fun _ _ _ _ => trivial), X.2.2.2.2.2.2.2.2.2 _ _ s U s.heap U.heap hW.alike hFc (fun a h1 h2 => by rw [hU]; exact hS.2.1 a h1 h2) X.2.2.2.2.2.2.2.2.1⟩⟩ rfl hlen hl.1 rfl (lv_room hroom) hdg ⟨Nat.zero_le _, Nat.zero_le _⟩) hS (fun z _ h => hFc z h) hFc (fun u t H1 locs1 ht hvm hw hB hz1 hk1 hS1 => ?_)
    obtain ⟨rfl, hok2⟩ := hw
    obtain ⟨hP1, hK1, hD1⟩ := hB
    rw [ht] at hP1
    exact kk _ _ hok2 σ' r' ho H1 locs1 ls hP1 (hD1.weaken (fun _ _ _ h => hFc _ h)) hS1 hl
end JMK
end
section
def mFX10 (h : Nat → Nat) (σ : Sg) : List Value := [.int (iI (gI σ 200)), .int (iI (gI σ 201)), .ref (h 202), .ref (h 203), .ref (h 204), .ref (h 205), .ref (h 206), .ref (h 207), .ref (h 208), .int (iI (gI σ 209)), .ref (h 210), .ref (h 211), .ref (h 212), .int (iI (gI σ 213)), .ref (h 214), .ref (h 215), .int (iI (gI σ 216)), .ref (h 217), .ref (h 218), .ref (h 219), .ref (h 220), .ref (h 221), .ref (h 222), .int (iI (gI σ 223)), .ref (h 224), .int (iI (gI σ 225)), .int (iI (gI σ 226)), .int (iI (gI σ 227)), .int (iI (gI σ 228)), .int (iI (gI σ 229)), .int (iI (gI σ 230)), .int (iI (gI σ 231)), .int (iI (gI σ 232)), .int (iI (gI σ 233)), .int (iI (gI σ 234)), .int (iI (gI σ 235)), .int (iI (gI σ 236)), .int (iI (gI σ 237)), .int (iI (gI σ 238)), .int (iI (gI σ 239)), .int (iI (gI σ 240)), .ref (h 241), .ref (h 242), .ref (h 243), .ref (h 244), .int (iI (gI σ 245)), .int (iI (gI σ 246)), .ref (h 247), .ref (h 248), .ref (h 249), .int (iI (gI σ 250)), .ref (h 251), .ref (h 252), .ref (h 253), .ref (h 254), .ref (h 255), .int (iI (gI σ 256)), .ref (h 257), .ref (h 258), .ref (h 259)]
def mW (h : Nat → Nat) (cI cZ : ClassId) (σ : Sg) : va_W := [(h 299, .inr (9, mFX10 h σ)), (h 202, .inl (cI, 60, .inl (fun j : Nat => iI (gA σ 202 j)))), (h 203, .inl (cI, 60, .inl (fun j : Nat => iI (gA σ 203 j)))), (h 204, .inl (cI, 60, .inl (fun j : Nat => iI (gA σ 204 j)))), (h 205, .inl (cI, 60, .inl (fun j : Nat => iI (gA σ 205 j)))), (h 206, .inl (cI, 60, .inl (fun j : Nat => iI (gA σ 206 j)))), (h 207, .inl (cI, 60, .inl (fun j : Nat => iI (gA σ 207 j)))), (h 208, .inl (cI, 60, .inl (fun j : Nat => iI (gA σ 208 j)))), (h 210, .inl (cI, 320, .inl (fun j : Nat => iI (gA σ 210 j)))), (h 211, .inl (cI, 320, .inl (fun j : Nat => iI (gA σ 211 j)))), (h 212, .inl (cI, 320, .inl (fun j : Nat => iI (gA σ 212 j)))), (h 214, .inl (cI, 210, .inl (fun j : Nat => iI (gA σ 214 j)))), (h 215, .inl (cI, 210, .inl (fun j : Nat => iI (gA σ 215 j)))), (h 217, .inl (cI, 320, .inl (fun j : Nat => iI (gA σ 217 j)))), (h 218, .inl (cI, 320, .inl (fun j : Nat => iI (gA σ 218 j)))), (h 219, .inl (cI, 320, .inl (fun j : Nat => iI (gA σ 219 j)))), (h 220, .inl (cI, 320, .inl (fun j : Nat => iI (gA σ 220 j)))), (h 221, .inl (cI, 320, .inl (fun j : Nat => iI (gA σ 221 j)))), (h 222, .inl (cI, 320, .inl (fun j : Nat => iI (gA σ 222 j)))), (h 224, .inl (cI, 320, .inl (fun j : Nat => iI (gA σ 224 j)))), (h 241, .inl (cI, 1280, .inl (fun j : Nat => iI (gA σ 241 j)))), (h 242, .inl (cI, 1280, .inl (fun j : Nat => iI (gA σ 242 j)))), (h 243, .inl (cI, 5120, .inl (fun j : Nat => iI (gA σ 243 j)))), (h 244, .inl (cI, 1280, .inl (fun j : Nat => iI (gA σ 244 j)))), (h 247, .inl (cI, 1400, .inl (fun j : Nat => iI (gA σ 247 j)))), (h 248, .inl (cI, 2400, .inl (fun j : Nat => iI (gA σ 248 j)))), (h 249, .inl (cZ, 1280, .inl (fun j : Nat => iI (gA σ 249 j)))), (h 251, .inl (cI, 130, .inl (fun j : Nat => iI (gA σ 251 j)))), (h 252, .inl (cI, 130, .inl (fun j : Nat => iI (gA σ 252 j)))), (h 253, .inl (cI, 130, .inl (fun j : Nat => iI (gA σ 253 j)))), (h 254, .inl (cI, 130, .inl (fun j : Nat => iI (gA σ 254 j)))), (h 255, .inl (cI, 130, .inl (fun j : Nat => iI (gA σ 255 j)))), (h 257, .inl (cI, 250, .inl (fun j : Nat => iI (gA σ 257 j)))), (h 258, .inl (cI, 250, .inl (fun j : Nat => iI (gA σ 258 j)))), (h 259, .inl (cI, 250, .inl (fun j : Nat => iI (gA σ 259 j))))]
theorem mW_X10 {h : Nat → Nat} {cI cZ : ClassId} {σ : Sg} : (mW h cI cZ σ)[0]? = some (h 299, .inr (9, mFX10 h σ)) := rfl
theorem mS_200 {h : Nat → Nat} {cI cZ : ClassId} {σ : Sg} {z : Int} : (mW h cI cZ σ).set 0 (h 299, .inr (9, (mFX10 h σ).set 0 (.int (iI z)))) = mW h cI cZ (sI σ 200 z) := rfl
theorem mS_201 {h : Nat → Nat} {cI cZ : ClassId} {σ : Sg} {z : Int} : (mW h cI cZ σ).set 0 (h 299, .inr (9, (mFX10 h σ).set 1 (.int (iI z)))) = mW h cI cZ (sI σ 201 z) := rfl
theorem mS_209 {h : Nat → Nat} {cI cZ : ClassId} {σ : Sg} {z : Int} : (mW h cI cZ σ).set 0 (h 299, .inr (9, (mFX10 h σ).set 9 (.int (iI z)))) = mW h cI cZ (sI σ 209 z) := rfl
theorem mS_213 {h : Nat → Nat} {cI cZ : ClassId} {σ : Sg} {z : Int} : (mW h cI cZ σ).set 0 (h 299, .inr (9, (mFX10 h σ).set 13 (.int (iI z)))) = mW h cI cZ (sI σ 213 z) := rfl
theorem mS_216 {h : Nat → Nat} {cI cZ : ClassId} {σ : Sg} {z : Int} : (mW h cI cZ σ).set 0 (h 299, .inr (9, (mFX10 h σ).set 16 (.int (iI z)))) = mW h cI cZ (sI σ 216 z) := rfl
theorem mS_223 {h : Nat → Nat} {cI cZ : ClassId} {σ : Sg} {z : Int} : (mW h cI cZ σ).set 0 (h 299, .inr (9, (mFX10 h σ).set 23 (.int (iI z)))) = mW h cI cZ (sI σ 223 z) := rfl
theorem mS_225 {h : Nat → Nat} {cI cZ : ClassId} {σ : Sg} {z : Int} : (mW h cI cZ σ).set 0 (h 299, .inr (9, (mFX10 h σ).set 25 (.int (iI z)))) = mW h cI cZ (sI σ 225 z) := rfl
theorem mS_226 {h : Nat → Nat} {cI cZ : ClassId} {σ : Sg} {z : Int} : (mW h cI cZ σ).set 0 (h 299, .inr (9, (mFX10 h σ).set 26 (.int (iI z)))) = mW h cI cZ (sI σ 226 z) := rfl
theorem mS_227 {h : Nat → Nat} {cI cZ : ClassId} {σ : Sg} {z : Int} : (mW h cI cZ σ).set 0 (h 299, .inr (9, (mFX10 h σ).set 27 (.int (iI z)))) = mW h cI cZ (sI σ 227 z) := rfl
theorem mS_228 {h : Nat → Nat} {cI cZ : ClassId} {σ : Sg} {z : Int} : (mW h cI cZ σ).set 0 (h 299, .inr (9, (mFX10 h σ).set 28 (.int (iI z)))) = mW h cI cZ (sI σ 228 z) := rfl
theorem mS_229 {h : Nat → Nat} {cI cZ : ClassId} {σ : Sg} {z : Int} : (mW h cI cZ σ).set 0 (h 299, .inr (9, (mFX10 h σ).set 29 (.int (iI z)))) = mW h cI cZ (sI σ 229 z) := rfl
theorem mS_230 {h : Nat → Nat} {cI cZ : ClassId} {σ : Sg} {z : Int} : (mW h cI cZ σ).set 0 (h 299, .inr (9, (mFX10 h σ).set 30 (.int (iI z)))) = mW h cI cZ (sI σ 230 z) := rfl
theorem mS_231 {h : Nat → Nat} {cI cZ : ClassId} {σ : Sg} {z : Int} : (mW h cI cZ σ).set 0 (h 299, .inr (9, (mFX10 h σ).set 31 (.int (iI z)))) = mW h cI cZ (sI σ 231 z) := rfl
theorem mS_232 {h : Nat → Nat} {cI cZ : ClassId} {σ : Sg} {z : Int} : (mW h cI cZ σ).set 0 (h 299, .inr (9, (mFX10 h σ).set 32 (.int (iI z)))) = mW h cI cZ (sI σ 232 z) := rfl
theorem mS_233 {h : Nat → Nat} {cI cZ : ClassId} {σ : Sg} {z : Int} : (mW h cI cZ σ).set 0 (h 299, .inr (9, (mFX10 h σ).set 33 (.int (iI z)))) = mW h cI cZ (sI σ 233 z) := rfl
theorem mS_234 {h : Nat → Nat} {cI cZ : ClassId} {σ : Sg} {z : Int} : (mW h cI cZ σ).set 0 (h 299, .inr (9, (mFX10 h σ).set 34 (.int (iI z)))) = mW h cI cZ (sI σ 234 z) := rfl
theorem mS_235 {h : Nat → Nat} {cI cZ : ClassId} {σ : Sg} {z : Int} : (mW h cI cZ σ).set 0 (h 299, .inr (9, (mFX10 h σ).set 35 (.int (iI z)))) = mW h cI cZ (sI σ 235 z) := rfl
theorem mS_236 {h : Nat → Nat} {cI cZ : ClassId} {σ : Sg} {z : Int} : (mW h cI cZ σ).set 0 (h 299, .inr (9, (mFX10 h σ).set 36 (.int (iI z)))) = mW h cI cZ (sI σ 236 z) := rfl
theorem mS_237 {h : Nat → Nat} {cI cZ : ClassId} {σ : Sg} {z : Int} : (mW h cI cZ σ).set 0 (h 299, .inr (9, (mFX10 h σ).set 37 (.int (iI z)))) = mW h cI cZ (sI σ 237 z) := rfl
theorem mS_238 {h : Nat → Nat} {cI cZ : ClassId} {σ : Sg} {z : Int} : (mW h cI cZ σ).set 0 (h 299, .inr (9, (mFX10 h σ).set 38 (.int (iI z)))) = mW h cI cZ (sI σ 238 z) := rfl
theorem mS_239 {h : Nat → Nat} {cI cZ : ClassId} {σ : Sg} {z : Int} : (mW h cI cZ σ).set 0 (h 299, .inr (9, (mFX10 h σ).set 39 (.int (iI z)))) = mW h cI cZ (sI σ 239 z) := rfl
theorem mS_240 {h : Nat → Nat} {cI cZ : ClassId} {σ : Sg} {z : Int} : (mW h cI cZ σ).set 0 (h 299, .inr (9, (mFX10 h σ).set 40 (.int (iI z)))) = mW h cI cZ (sI σ 240 z) := rfl
theorem mS_245 {h : Nat → Nat} {cI cZ : ClassId} {σ : Sg} {z : Int} : (mW h cI cZ σ).set 0 (h 299, .inr (9, (mFX10 h σ).set 45 (.int (iI z)))) = mW h cI cZ (sI σ 245 z) := rfl
theorem mS_246 {h : Nat → Nat} {cI cZ : ClassId} {σ : Sg} {z : Int} : (mW h cI cZ σ).set 0 (h 299, .inr (9, (mFX10 h σ).set 46 (.int (iI z)))) = mW h cI cZ (sI σ 246 z) := rfl
theorem mS_250 {h : Nat → Nat} {cI cZ : ClassId} {σ : Sg} {z : Int} : (mW h cI cZ σ).set 0 (h 299, .inr (9, (mFX10 h σ).set 50 (.int (iI z)))) = mW h cI cZ (sI σ 250 z) := rfl
theorem mS_256 {h : Nat → Nat} {cI cZ : ClassId} {σ : Sg} {z : Int} : (mW h cI cZ σ).set 0 (h 299, .inr (9, (mFX10 h σ).set 56 (.int (iI z)))) = mW h cI cZ (sI σ 256 z) := rfl
theorem mA_202 {h : Nat → Nat} {cI cZ : ClassId} {σ : Sg} : (mW h cI cZ σ)[1]? = some (h 202, .inl (cI, 60, .inl (fun j : Nat => iI (gA σ 202 j)))) := rfl
theorem mT_202 {h : Nat → Nat} {cI cZ : ClassId} {σ : Sg} {z v : Int} : (mW h cI cZ σ).set 1 (h 202, .inl (cI, 60, .inl (fun j : Nat => iI (gA (sA σ 202 z v) 202 j)))) = mW h cI cZ (sA σ 202 z v) := rfl
theorem mA_203 {h : Nat → Nat} {cI cZ : ClassId} {σ : Sg} : (mW h cI cZ σ)[2]? = some (h 203, .inl (cI, 60, .inl (fun j : Nat => iI (gA σ 203 j)))) := rfl
theorem mT_203 {h : Nat → Nat} {cI cZ : ClassId} {σ : Sg} {z v : Int} : (mW h cI cZ σ).set 2 (h 203, .inl (cI, 60, .inl (fun j : Nat => iI (gA (sA σ 203 z v) 203 j)))) = mW h cI cZ (sA σ 203 z v) := rfl
theorem mA_204 {h : Nat → Nat} {cI cZ : ClassId} {σ : Sg} : (mW h cI cZ σ)[3]? = some (h 204, .inl (cI, 60, .inl (fun j : Nat => iI (gA σ 204 j)))) := rfl
theorem mT_204 {h : Nat → Nat} {cI cZ : ClassId} {σ : Sg} {z v : Int} : (mW h cI cZ σ).set 3 (h 204, .inl (cI, 60, .inl (fun j : Nat => iI (gA (sA σ 204 z v) 204 j)))) = mW h cI cZ (sA σ 204 z v) := rfl
theorem mA_205 {h : Nat → Nat} {cI cZ : ClassId} {σ : Sg} : (mW h cI cZ σ)[4]? = some (h 205, .inl (cI, 60, .inl (fun j : Nat => iI (gA σ 205 j)))) := rfl
theorem mT_205 {h : Nat → Nat} {cI cZ : ClassId} {σ : Sg} {z v : Int} : (mW h cI cZ σ).set 4 (h 205, .inl (cI, 60, .inl (fun j : Nat => iI (gA (sA σ 205 z v) 205 j)))) = mW h cI cZ (sA σ 205 z v) := rfl
theorem mA_206 {h : Nat → Nat} {cI cZ : ClassId} {σ : Sg} : (mW h cI cZ σ)[5]? = some (h 206, .inl (cI, 60, .inl (fun j : Nat => iI (gA σ 206 j)))) := rfl
theorem mT_206 {h : Nat → Nat} {cI cZ : ClassId} {σ : Sg} {z v : Int} : (mW h cI cZ σ).set 5 (h 206, .inl (cI, 60, .inl (fun j : Nat => iI (gA (sA σ 206 z v) 206 j)))) = mW h cI cZ (sA σ 206 z v) := rfl
theorem mA_207 {h : Nat → Nat} {cI cZ : ClassId} {σ : Sg} : (mW h cI cZ σ)[6]? = some (h 207, .inl (cI, 60, .inl (fun j : Nat => iI (gA σ 207 j)))) := rfl
theorem mT_207 {h : Nat → Nat} {cI cZ : ClassId} {σ : Sg} {z v : Int} : (mW h cI cZ σ).set 6 (h 207, .inl (cI, 60, .inl (fun j : Nat => iI (gA (sA σ 207 z v) 207 j)))) = mW h cI cZ (sA σ 207 z v) := rfl
theorem mA_208 {h : Nat → Nat} {cI cZ : ClassId} {σ : Sg} : (mW h cI cZ σ)[7]? = some (h 208, .inl (cI, 60, .inl (fun j : Nat => iI (gA σ 208 j)))) := rfl
theorem mT_208 {h : Nat → Nat} {cI cZ : ClassId} {σ : Sg} {z v : Int} : (mW h cI cZ σ).set 7 (h 208, .inl (cI, 60, .inl (fun j : Nat => iI (gA (sA σ 208 z v) 208 j)))) = mW h cI cZ (sA σ 208 z v) := rfl
theorem mA_210 {h : Nat → Nat} {cI cZ : ClassId} {σ : Sg} : (mW h cI cZ σ)[8]? = some (h 210, .inl (cI, 320, .inl (fun j : Nat => iI (gA σ 210 j)))) := rfl
theorem mT_210 {h : Nat → Nat} {cI cZ : ClassId} {σ : Sg} {z v : Int} : (mW h cI cZ σ).set 8 (h 210, .inl (cI, 320, .inl (fun j : Nat => iI (gA (sA σ 210 z v) 210 j)))) = mW h cI cZ (sA σ 210 z v) := rfl
theorem mA_211 {h : Nat → Nat} {cI cZ : ClassId} {σ : Sg} : (mW h cI cZ σ)[9]? = some (h 211, .inl (cI, 320, .inl (fun j : Nat => iI (gA σ 211 j)))) := rfl
theorem mT_211 {h : Nat → Nat} {cI cZ : ClassId} {σ : Sg} {z v : Int} : (mW h cI cZ σ).set 9 (h 211, .inl (cI, 320, .inl (fun j : Nat => iI (gA (sA σ 211 z v) 211 j)))) = mW h cI cZ (sA σ 211 z v) := rfl
theorem mA_212 {h : Nat → Nat} {cI cZ : ClassId} {σ : Sg} : (mW h cI cZ σ)[10]? = some (h 212, .inl (cI, 320, .inl (fun j : Nat => iI (gA σ 212 j)))) := rfl
theorem mT_212 {h : Nat → Nat} {cI cZ : ClassId} {σ : Sg} {z v : Int} : (mW h cI cZ σ).set 10 (h 212, .inl (cI, 320, .inl (fun j : Nat => iI (gA (sA σ 212 z v) 212 j)))) = mW h cI cZ (sA σ 212 z v) := rfl
theorem mA_214 {h : Nat → Nat} {cI cZ : ClassId} {σ : Sg} : (mW h cI cZ σ)[11]? = some (h 214, .inl (cI, 210, .inl (fun j : Nat => iI (gA σ 214 j)))) := rfl
theorem mT_214 {h : Nat → Nat} {cI cZ : ClassId} {σ : Sg} {z v : Int} : (mW h cI cZ σ).set 11 (h 214, .inl (cI, 210, .inl (fun j : Nat => iI (gA (sA σ 214 z v) 214 j)))) = mW h cI cZ (sA σ 214 z v) := rfl
theorem mA_215 {h : Nat → Nat} {cI cZ : ClassId} {σ : Sg} : (mW h cI cZ σ)[12]? = some (h 215, .inl (cI, 210, .inl (fun j : Nat => iI (gA σ 215 j)))) := rfl
theorem mT_215 {h : Nat → Nat} {cI cZ : ClassId} {σ : Sg} {z v : Int} : (mW h cI cZ σ).set 12 (h 215, .inl (cI, 210, .inl (fun j : Nat => iI (gA (sA σ 215 z v) 215 j)))) = mW h cI cZ (sA σ 215 z v) := rfl
theorem mA_217 {h : Nat → Nat} {cI cZ : ClassId} {σ : Sg} : (mW h cI cZ σ)[13]? = some (h 217, .inl (cI, 320, .inl (fun j : Nat => iI (gA σ 217 j)))) := rfl
theorem mT_217 {h : Nat → Nat} {cI cZ : ClassId} {σ : Sg} {z v : Int} : (mW h cI cZ σ).set 13 (h 217, .inl (cI, 320, .inl (fun j : Nat => iI (gA (sA σ 217 z v) 217 j)))) = mW h cI cZ (sA σ 217 z v) := rfl
theorem mA_218 {h : Nat → Nat} {cI cZ : ClassId} {σ : Sg} : (mW h cI cZ σ)[14]? = some (h 218, .inl (cI, 320, .inl (fun j : Nat => iI (gA σ 218 j)))) := rfl
theorem mT_218 {h : Nat → Nat} {cI cZ : ClassId} {σ : Sg} {z v : Int} : (mW h cI cZ σ).set 14 (h 218, .inl (cI, 320, .inl (fun j : Nat => iI (gA (sA σ 218 z v) 218 j)))) = mW h cI cZ (sA σ 218 z v) := rfl
theorem mA_219 {h : Nat → Nat} {cI cZ : ClassId} {σ : Sg} : (mW h cI cZ σ)[15]? = some (h 219, .inl (cI, 320, .inl (fun j : Nat => iI (gA σ 219 j)))) := rfl
theorem mT_219 {h : Nat → Nat} {cI cZ : ClassId} {σ : Sg} {z v : Int} : (mW h cI cZ σ).set 15 (h 219, .inl (cI, 320, .inl (fun j : Nat => iI (gA (sA σ 219 z v) 219 j)))) = mW h cI cZ (sA σ 219 z v) := rfl
theorem mA_220 {h : Nat → Nat} {cI cZ : ClassId} {σ : Sg} : (mW h cI cZ σ)[16]? = some (h 220, .inl (cI, 320, .inl (fun j : Nat => iI (gA σ 220 j)))) := rfl
theorem mT_220 {h : Nat → Nat} {cI cZ : ClassId} {σ : Sg} {z v : Int} : (mW h cI cZ σ).set 16 (h 220, .inl (cI, 320, .inl (fun j : Nat => iI (gA (sA σ 220 z v) 220 j)))) = mW h cI cZ (sA σ 220 z v) := rfl
theorem mA_221 {h : Nat → Nat} {cI cZ : ClassId} {σ : Sg} : (mW h cI cZ σ)[17]? = some (h 221, .inl (cI, 320, .inl (fun j : Nat => iI (gA σ 221 j)))) := rfl
theorem mT_221 {h : Nat → Nat} {cI cZ : ClassId} {σ : Sg} {z v : Int} : (mW h cI cZ σ).set 17 (h 221, .inl (cI, 320, .inl (fun j : Nat => iI (gA (sA σ 221 z v) 221 j)))) = mW h cI cZ (sA σ 221 z v) := rfl
theorem mA_222 {h : Nat → Nat} {cI cZ : ClassId} {σ : Sg} : (mW h cI cZ σ)[18]? = some (h 222, .inl (cI, 320, .inl (fun j : Nat => iI (gA σ 222 j)))) := rfl
theorem mT_222 {h : Nat → Nat} {cI cZ : ClassId} {σ : Sg} {z v : Int} : (mW h cI cZ σ).set 18 (h 222, .inl (cI, 320, .inl (fun j : Nat => iI (gA (sA σ 222 z v) 222 j)))) = mW h cI cZ (sA σ 222 z v) := rfl
theorem mA_224 {h : Nat → Nat} {cI cZ : ClassId} {σ : Sg} : (mW h cI cZ σ)[19]? = some (h 224, .inl (cI, 320, .inl (fun j : Nat => iI (gA σ 224 j)))) := rfl
theorem mT_224 {h : Nat → Nat} {cI cZ : ClassId} {σ : Sg} {z v : Int} : (mW h cI cZ σ).set 19 (h 224, .inl (cI, 320, .inl (fun j : Nat => iI (gA (sA σ 224 z v) 224 j)))) = mW h cI cZ (sA σ 224 z v) := rfl
theorem mA_241 {h : Nat → Nat} {cI cZ : ClassId} {σ : Sg} : (mW h cI cZ σ)[20]? = some (h 241, .inl (cI, 1280, .inl (fun j : Nat => iI (gA σ 241 j)))) := rfl
theorem mT_241 {h : Nat → Nat} {cI cZ : ClassId} {σ : Sg} {z v : Int} : (mW h cI cZ σ).set 20 (h 241, .inl (cI, 1280, .inl (fun j : Nat => iI (gA (sA σ 241 z v) 241 j)))) = mW h cI cZ (sA σ 241 z v) := rfl
theorem mA_242 {h : Nat → Nat} {cI cZ : ClassId} {σ : Sg} : (mW h cI cZ σ)[21]? = some (h 242, .inl (cI, 1280, .inl (fun j : Nat => iI (gA σ 242 j)))) := rfl
theorem mT_242 {h : Nat → Nat} {cI cZ : ClassId} {σ : Sg} {z v : Int} : (mW h cI cZ σ).set 21 (h 242, .inl (cI, 1280, .inl (fun j : Nat => iI (gA (sA σ 242 z v) 242 j)))) = mW h cI cZ (sA σ 242 z v) := rfl
theorem mA_243 {h : Nat → Nat} {cI cZ : ClassId} {σ : Sg} : (mW h cI cZ σ)[22]? = some (h 243, .inl (cI, 5120, .inl (fun j : Nat => iI (gA σ 243 j)))) := rfl
theorem mT_243 {h : Nat → Nat} {cI cZ : ClassId} {σ : Sg} {z v : Int} : (mW h cI cZ σ).set 22 (h 243, .inl (cI, 5120, .inl (fun j : Nat => iI (gA (sA σ 243 z v) 243 j)))) = mW h cI cZ (sA σ 243 z v) := rfl
theorem mA_244 {h : Nat → Nat} {cI cZ : ClassId} {σ : Sg} : (mW h cI cZ σ)[23]? = some (h 244, .inl (cI, 1280, .inl (fun j : Nat => iI (gA σ 244 j)))) := rfl
theorem mT_244 {h : Nat → Nat} {cI cZ : ClassId} {σ : Sg} {z v : Int} : (mW h cI cZ σ).set 23 (h 244, .inl (cI, 1280, .inl (fun j : Nat => iI (gA (sA σ 244 z v) 244 j)))) = mW h cI cZ (sA σ 244 z v) := rfl
theorem mA_247 {h : Nat → Nat} {cI cZ : ClassId} {σ : Sg} : (mW h cI cZ σ)[24]? = some (h 247, .inl (cI, 1400, .inl (fun j : Nat => iI (gA σ 247 j)))) := rfl
theorem mT_247 {h : Nat → Nat} {cI cZ : ClassId} {σ : Sg} {z v : Int} : (mW h cI cZ σ).set 24 (h 247, .inl (cI, 1400, .inl (fun j : Nat => iI (gA (sA σ 247 z v) 247 j)))) = mW h cI cZ (sA σ 247 z v) := rfl
theorem mA_248 {h : Nat → Nat} {cI cZ : ClassId} {σ : Sg} : (mW h cI cZ σ)[25]? = some (h 248, .inl (cI, 2400, .inl (fun j : Nat => iI (gA σ 248 j)))) := rfl
theorem mT_248 {h : Nat → Nat} {cI cZ : ClassId} {σ : Sg} {z v : Int} : (mW h cI cZ σ).set 25 (h 248, .inl (cI, 2400, .inl (fun j : Nat => iI (gA (sA σ 248 z v) 248 j)))) = mW h cI cZ (sA σ 248 z v) := rfl
theorem mA_249 {h : Nat → Nat} {cI cZ : ClassId} {σ : Sg} : (mW h cI cZ σ)[26]? = some (h 249, .inl (cZ, 1280, .inl (fun j : Nat => iI (gA σ 249 j)))) := rfl
theorem mT_249 {h : Nat → Nat} {cI cZ : ClassId} {σ : Sg} {z v : Int} : (mW h cI cZ σ).set 26 (h 249, .inl (cZ, 1280, .inl (fun j : Nat => iI (gA (sA σ 249 z v) 249 j)))) = mW h cI cZ (sA σ 249 z v) := rfl
theorem mA_251 {h : Nat → Nat} {cI cZ : ClassId} {σ : Sg} : (mW h cI cZ σ)[27]? = some (h 251, .inl (cI, 130, .inl (fun j : Nat => iI (gA σ 251 j)))) := rfl
theorem mT_251 {h : Nat → Nat} {cI cZ : ClassId} {σ : Sg} {z v : Int} : (mW h cI cZ σ).set 27 (h 251, .inl (cI, 130, .inl (fun j : Nat => iI (gA (sA σ 251 z v) 251 j)))) = mW h cI cZ (sA σ 251 z v) := rfl
theorem mA_252 {h : Nat → Nat} {cI cZ : ClassId} {σ : Sg} : (mW h cI cZ σ)[28]? = some (h 252, .inl (cI, 130, .inl (fun j : Nat => iI (gA σ 252 j)))) := rfl
theorem mT_252 {h : Nat → Nat} {cI cZ : ClassId} {σ : Sg} {z v : Int} : (mW h cI cZ σ).set 28 (h 252, .inl (cI, 130, .inl (fun j : Nat => iI (gA (sA σ 252 z v) 252 j)))) = mW h cI cZ (sA σ 252 z v) := rfl
theorem mA_253 {h : Nat → Nat} {cI cZ : ClassId} {σ : Sg} : (mW h cI cZ σ)[29]? = some (h 253, .inl (cI, 130, .inl (fun j : Nat => iI (gA σ 253 j)))) := rfl
theorem mT_253 {h : Nat → Nat} {cI cZ : ClassId} {σ : Sg} {z v : Int} : (mW h cI cZ σ).set 29 (h 253, .inl (cI, 130, .inl (fun j : Nat => iI (gA (sA σ 253 z v) 253 j)))) = mW h cI cZ (sA σ 253 z v) := rfl
theorem mA_254 {h : Nat → Nat} {cI cZ : ClassId} {σ : Sg} : (mW h cI cZ σ)[30]? = some (h 254, .inl (cI, 130, .inl (fun j : Nat => iI (gA σ 254 j)))) := rfl
theorem mT_254 {h : Nat → Nat} {cI cZ : ClassId} {σ : Sg} {z v : Int} : (mW h cI cZ σ).set 30 (h 254, .inl (cI, 130, .inl (fun j : Nat => iI (gA (sA σ 254 z v) 254 j)))) = mW h cI cZ (sA σ 254 z v) := rfl
theorem mA_255 {h : Nat → Nat} {cI cZ : ClassId} {σ : Sg} : (mW h cI cZ σ)[31]? = some (h 255, .inl (cI, 130, .inl (fun j : Nat => iI (gA σ 255 j)))) := rfl
theorem mT_255 {h : Nat → Nat} {cI cZ : ClassId} {σ : Sg} {z v : Int} : (mW h cI cZ σ).set 31 (h 255, .inl (cI, 130, .inl (fun j : Nat => iI (gA (sA σ 255 z v) 255 j)))) = mW h cI cZ (sA σ 255 z v) := rfl
theorem mA_257 {h : Nat → Nat} {cI cZ : ClassId} {σ : Sg} : (mW h cI cZ σ)[32]? = some (h 257, .inl (cI, 250, .inl (fun j : Nat => iI (gA σ 257 j)))) := rfl
theorem mT_257 {h : Nat → Nat} {cI cZ : ClassId} {σ : Sg} {z v : Int} : (mW h cI cZ σ).set 32 (h 257, .inl (cI, 250, .inl (fun j : Nat => iI (gA (sA σ 257 z v) 257 j)))) = mW h cI cZ (sA σ 257 z v) := rfl
theorem mA_258 {h : Nat → Nat} {cI cZ : ClassId} {σ : Sg} : (mW h cI cZ σ)[33]? = some (h 258, .inl (cI, 250, .inl (fun j : Nat => iI (gA σ 258 j)))) := rfl
theorem mT_258 {h : Nat → Nat} {cI cZ : ClassId} {σ : Sg} {z v : Int} : (mW h cI cZ σ).set 33 (h 258, .inl (cI, 250, .inl (fun j : Nat => iI (gA (sA σ 258 z v) 258 j)))) = mW h cI cZ (sA σ 258 z v) := rfl
theorem mA_259 {h : Nat → Nat} {cI cZ : ClassId} {σ : Sg} : (mW h cI cZ σ)[34]? = some (h 259, .inl (cI, 250, .inl (fun j : Nat => iI (gA σ 259 j)))) := rfl
theorem mT_259 {h : Nat → Nat} {cI cZ : ClassId} {σ : Sg} {z v : Int} : (mW h cI cZ σ).set 34 (h 259, .inl (cI, 250, .inl (fun j : Nat => iI (gA (sA σ 259 z v) 259 j)))) = mW h cI cZ (sA σ 259 z v) := rfl
end
section
section
variable {p : Program} {l : Launch} {e : Env} {s : State} {m : MethodId} {args : Array Value} {below : List Frame} {meth : Method} {c : Code} {h : Nat → Nat} {cI cZ : ClassId} {D : va_G} {σz : Sg} {sz : Nat} {t1 t2 : Nat}
abbrev rm10_thrown : Room := { frames := 0, cells := 0, slots := 0, locals := 0 }
def f10_thrown (σ0 : Sg)  : Option (Sg × Int) :=
  some (σ0, (gI σ0 200))
set_option maxRecDepth 100000 in
theorem t10_thrown (l : Launch) {h : Nat → Nat} {cI cZ : ClassId} {D : va_G} {σ0 : Sg}  (k0 : ok σ0)  : ctI noE l (mW h cI cZ) D (mT cI cZ) yX10_thrown wsX10_thrown rm10_thrown [.ref (h 299)] σ0 (f10_thrown σ0 ) := by
  refine of_I noE_ok (own := RX10) (lv := [(0, .ref (h 299))]) (by decide) rfl rfl (Nat.le_of_ble_eq_true rfl) rfl (fun p e s m below meth c sz X hA => ?_)
  rw [f10_thrown]
  refine jm_aload_n (n := 1) X 0 rfl dX10_thrown_0 rfl ?_
  refine jm_get (n := 4) X 0 9 0 mW_X10 rfl (by decide) (fun w h => List.mem_cons_of_mem _ (List.mem_append_right _ h)) (List.mem_of_getElem? (i := 1) rfl) rfl dX10_thrown_1 rfl ?_
  exact jm_iret X rfl k0 (k0.1 200) dX10_thrown_4
abbrev rm10_fail : Room := { frames := 0, cells := 0, slots := 0, locals := 0 }
def f10_fail (σ0 : Sg) (x1 : Int) : Option (Sg × Int) :=
  nx (sI σ0 200 x1) fun σ1 =>
  some (σ1, (0 : Int))
set_option maxRecDepth 100000 in
theorem t10_fail (l : Launch) {h : Nat → Nat} {cI cZ : ClassId} {D : va_G} {σ0 : Sg} {x1 : Int} (k0 : ok σ0) (hx1 : inR x1) : ctI noE l (mW h cI cZ) D (mT cI cZ) yX10_fail wsX10_fail rm10_fail [.ref (h 299), .int (iI x1)] σ0 (f10_fail σ0 x1) := by
  refine of_I noE_ok (own := RX10) (lv := [(0, .ref (h 299)), (1, .int (iI x1))]) (by decide) rfl rfl (Nat.le_of_ble_eq_true rfl) rfl (fun p e s m below meth c sz X hA => ?_)
  rw [f10_fail]
  refine jm_aload_n (n := 1) X 0 rfl dX10_fail_0 rfl ?_
  refine jm_iload_n (n := 2) X 1 rfl dX10_fail_1 rfl ?_
  refine jm_put (n := 5) X 0 9 0 200 mW_X10 rfl (by decide) (fun w h => List.mem_cons_of_mem _ (List.mem_append_right _ h)) tyX10 tyX10_ok nmX10 (List.mem_of_getElem? (i := 1) rfl) rfl rfl rfl rfl (Nat.le_of_ble_eq_true rfl) mS_200 k0 hx1 dX10_fail_2 rfl (fun σ1 k1 => ?_)
  refine jm_iconst (n := 6) X dX10_fail_5 rfl ?_
  exact jm_iret X rfl k1 (by decide) dX10_fail_6
abbrev rm10_in : Room := { frames := 0, cells := 0, slots := 0, locals := 0 }
def f10_in (σ0 : Sg) (x0 : Int) (x1 : Int) (x2 : Int) : Option (Sg × Int) :=
  if x0 < x1 then (ck ((0 : Int) = 0 ∨ (0 : Int) = 1) (some (σ0, (0 : Int))))
  else (if x2 < x0 then (ck ((0 : Int) = 0 ∨ (0 : Int) = 1) (some (σ0, (0 : Int))))
  else (ck ((1 : Int) = 0 ∨ (1 : Int) = 1) (some (σ0, (1 : Int)))))
set_option maxRecDepth 100000 in
theorem t10_in (l : Launch) {h : Nat → Nat} {cI cZ : ClassId} {D : va_G} {σ0 : Sg} {x0 : Int} {x1 : Int} {x2 : Int} (k0 : ok σ0) (hx0 : inR x0) (hx1 : inR x1) (hx2 : inR x2) : ctI noE l (mW h cI cZ) D (mT cI cZ) yX10_in wsX10_in rm10_in [.int (iI x0), .int (iI x1), .int (iI x2)] σ0 (f10_in σ0 x0 x1 x2) := by
  refine of_Z noE_ok (own := RX10) (lv := [(0, .int (iI x0)), (1, .int (iI x1)), (2, .int (iI x2))]) (by decide) rfl rfl (Nat.le_of_ble_eq_true rfl) rfl (fun p e s m below meth c sz X hA => ?_)
  rw [f10_in]
  refine jm_iload_n (n := 1) X 0 rfl dX10_in_0 rfl ?_
  refine jm_iload_n (n := 2) X 1 rfl dX10_in_1 rfl ?_
  refine jm_icmp_lt (n := 5) (tgt := 14) X dX10_in_2 (by decide) hx0 hx1 rfl (fun c1 => ?_) (fun c1 => ?_)
  · refine jm_iconst (n := 15) X dX10_in_14 rfl ?_
    exact jm_zret X rfl k0 dX10_in_15
  · refine jm_iload_n (n := 6) X 0 rfl dX10_in_5 rfl ?_
    refine jm_iload_n (n := 7) X 2 rfl dX10_in_6 rfl ?_
    refine jm_icmp_gt (n := 10) (tgt := 14) X dX10_in_7 (by decide) hx0 hx2 rfl (fun c2 => ?_) (fun c2 => ?_)
    · refine jm_iconst (n := 15) X dX10_in_14 rfl ?_
      exact jm_zret X rfl k0 dX10_in_15
    · refine jm_iconst (n := 11) X dX10_in_10 rfl ?_
      refine jm_goto (n := 15) X dX10_in_11 (by decide) ?_
      exact jm_zret X rfl k0 dX10_in_15
abbrev rm10_greater : Room := { frames := 0, cells := 0, slots := 0, locals := 0 }
def f10_greater (σ0 : Sg) (x0 : Int) (x1 : Int) : Option (Sg × Int) :=
  if x0 ≤ x1 then (some (σ0, x1))
  else (some (σ0, x0))
set_option maxRecDepth 100000 in
theorem t10_greater (l : Launch) {h : Nat → Nat} {cI cZ : ClassId} {D : va_G} {σ0 : Sg} {x0 : Int} {x1 : Int} (k0 : ok σ0) (hx0 : inR x0) (hx1 : inR x1) : ctI noE l (mW h cI cZ) D (mT cI cZ) yX10_greater wsX10_greater rm10_greater [.int (iI x0), .int (iI x1)] σ0 (f10_greater σ0 x0 x1) := by
  refine of_I noE_ok (own := RX10) (lv := [(0, .int (iI x0)), (1, .int (iI x1))]) (by decide) rfl rfl (Nat.le_of_ble_eq_true rfl) rfl (fun p e s m below meth c sz X hA => ?_)
  rw [f10_greater]
  refine jm_iload_n (n := 1) X 0 rfl dX10_greater_0 rfl ?_
  refine jm_iload_n (n := 2) X 1 rfl dX10_greater_1 rfl ?_
  refine jm_icmp_le (n := 5) (tgt := 9) X dX10_greater_2 (by decide) hx0 hx1 rfl (fun c1 => ?_) (fun c1 => ?_)
  · refine jm_iload_n (n := 10) X 1 rfl dX10_greater_9 rfl ?_
    exact jm_iret X rfl k0 hx1 dX10_greater_10
  · refine jm_iload_n (n := 6) X 0 rfl dX10_greater_5 rfl ?_
    refine jm_goto (n := 10) X dX10_greater_6 (by decide) ?_
    exact jm_iret X rfl k0 hx0 dX10_greater_10
abbrev rm10_isTerm : Room := { frames := 1, cells := 0, slots := 0, locals := 22 }
def f10_isTerm (σ0 : Sg) (x1 : Int) : Option (Sg × Int) :=
  ck (inR ((gI σ0 201) - (1 : Int))) <|
  bd (f10_in σ0 x1 (0 : Int) ((gI σ0 201) - (1 : Int))) fun σ2 r2 =>
  ck (r2 = 0 ∨ r2 = 1) (some (σ2, r2))
set_option maxRecDepth 100000 in
theorem t10_isTerm (l : Launch) {h : Nat → Nat} {cI cZ : ClassId} {D : va_G} {σ0 : Sg} {x1 : Int} (k0 : ok σ0) (hx1 : inR x1) : ctI noE l (mW h cI cZ) D (mT cI cZ) yX10_isTerm wsX10_isTerm rm10_isTerm [.ref (h 299), .int (iI x1)] σ0 (f10_isTerm σ0 x1) := by
  refine of_Z noE_ok (own := RX10) (lv := [(0, .ref (h 299)), (1, .int (iI x1))]) (by decide) rfl rfl (Nat.le_of_ble_eq_true rfl) rfl (fun p e s m below meth c sz X hA => ?_)
  rw [f10_isTerm]
  refine jm_iload_n (n := 1) X 1 rfl dX10_isTerm_0 rfl ?_
  refine jm_iconst (n := 2) X dX10_isTerm_1 rfl ?_
  refine jm_aload_n (n := 3) X 0 rfl dX10_isTerm_2 rfl ?_
  refine jm_get (n := 6) X 0 9 1 mW_X10 rfl (by decide) (fun w h => List.mem_cons_of_mem _ (List.mem_append_right _ h)) (List.mem_of_getElem? (i := 1) rfl) rfl dX10_isTerm_3 rfl ?_
  refine jm_iconst (n := 7) X dX10_isTerm_6 rfl ?_
  refine jm_isub (n := 8) X dX10_isTerm_7 rfl (fun h1 => ?_)
  refine jm_callSi (n := 11) (vs := [.int (iI x1), .int (iI (0 : Int)), .int (iI ((gI σ0 201) - (1 : Int)))]) (rest := []) X hA (t10_in l k0 hx1 (by decide) h1) (va_cwS 3 X.2.2.2.2.1 gX10_isTerm_X10_in rfl rfl rfl (by decide +kernel) ⟨Nat.le_of_ble_eq_true rfl, Nat.le_of_ble_eq_true rfl⟩) rfl (Nat.le_of_ble_eq_true rfl) dX10_isTerm_8 rfl (fun σ2 r2 k2 h3 => ?_)
  exact jm_zret X rfl k2 dX10_isTerm_11
abbrev rm10_hasB : Room := { frames := 1, cells := 0, slots := 0, locals := 22 }
def f10_hasB (σ0 : Sg) (x0 : Int) : Option (Sg × Int) :=
  bd (f10_in σ0 x0 (4 : Int) (8 : Int)) fun σ1 r1 =>
  ck (r1 = 0 ∨ r1 = 1) (some (σ1, r1))
set_option maxRecDepth 100000 in
theorem t10_hasB (l : Launch) {h : Nat → Nat} {cI cZ : ClassId} {D : va_G} {σ0 : Sg} {x0 : Int} (k0 : ok σ0) (hx0 : inR x0) : ctI noE l (mW h cI cZ) D (mT cI cZ) yX10_hasB wsX10_hasB rm10_hasB [.int (iI x0)] σ0 (f10_hasB σ0 x0) := by
  refine of_Z noE_ok (own := RX10) (lv := [(0, .int (iI x0))]) (by decide) rfl rfl (Nat.le_of_ble_eq_true rfl) rfl (fun p e s m below meth c sz X hA => ?_)
  rw [f10_hasB]
  refine jm_iload_n (n := 1) X 0 rfl dX10_hasB_0 rfl ?_
  refine jm_iconst (n := 2) X dX10_hasB_1 rfl ?_
  refine jm_bipush (n := 4) X dX10_hasB_2 (by decide) rfl ?_
  refine jm_callSi (n := 7) (vs := [.int (iI x0), .int (iI (4 : Int)), .int (iI (8 : Int))]) (rest := []) X hA (t10_in l k0 hx0 (by decide) (by decide)) (va_cwS 3 X.2.2.2.2.1 gX10_hasB_X10_in rfl rfl rfl (by decide +kernel) ⟨Nat.le_of_ble_eq_true rfl, Nat.le_of_ble_eq_true rfl⟩) rfl (Nat.le_of_ble_eq_true rfl) dX10_hasB_4 rfl (fun σ1 r1 k1 h2 => ?_)
  exact jm_zret X rfl k1 dX10_hasB_7
abbrev rm10_hasA : Room := { frames := 1, cells := 0, slots := 0, locals := 22 }
def f10_hasA (σ0 : Sg) (x0 : Int) : Option (Sg × Int) :=
  bd (f10_in σ0 x0 (3 : Int) (11 : Int)) fun σ1 r1 =>
  ck (r1 = 0 ∨ r1 = 1) (some (σ1, r1))
set_option maxRecDepth 100000 in
theorem t10_hasA (l : Launch) {h : Nat → Nat} {cI cZ : ClassId} {D : va_G} {σ0 : Sg} {x0 : Int} (k0 : ok σ0) (hx0 : inR x0) : ctI noE l (mW h cI cZ) D (mT cI cZ) yX10_hasA wsX10_hasA rm10_hasA [.int (iI x0)] σ0 (f10_hasA σ0 x0) := by
  refine of_Z noE_ok (own := RX10) (lv := [(0, .int (iI x0))]) (by decide) rfl rfl (Nat.le_of_ble_eq_true rfl) rfl (fun p e s m below meth c sz X hA => ?_)
  rw [f10_hasA]
  refine jm_iload_n (n := 1) X 0 rfl dX10_hasA_0 rfl ?_
  refine jm_iconst (n := 2) X dX10_hasA_1 rfl ?_
  refine jm_bipush (n := 4) X dX10_hasA_2 (by decide) rfl ?_
  refine jm_callSi (n := 7) (vs := [.int (iI x0), .int (iI (3 : Int)), .int (iI (11 : Int))]) (rest := []) X hA (t10_in l k0 hx0 (by decide) (by decide)) (va_cwS 3 X.2.2.2.2.1 gX10_hasA_X10_in rfl rfl rfl (by decide +kernel) ⟨Nat.le_of_ble_eq_true rfl, Nat.le_of_ble_eq_true rfl⟩) rfl (Nat.le_of_ble_eq_true rfl) dX10_hasA_4 rfl (fun σ1 r1 k1 h2 => ?_)
  exact jm_zret X rfl k1 dX10_hasA_7
abbrev rm10_fits : Room := { frames := 2, cells := 0, slots := 0, locals := 43 }
def b10_fits_76 (σ0 : Sg) (x1 : Int) (x4 : Int) : Option (Sg × Int) :=
  if x1 = (7 : Int) then (bd (f10_isTerm σ0 x4) fun σ2 r2 =>
  if r2 = 0 then (ck ((0 : Int) = 0 ∨ (0 : Int) = 1) (some (σ2, (0 : Int))))
  else (ck ((1 : Int) = 0 ∨ (1 : Int) = 1) (some (σ2, (1 : Int)))))
  else (ck ((1 : Int) = 0 ∨ (1 : Int) = 1) (some (σ0, (1 : Int))))
set_option maxRecDepth 100000 in
theorem u10_fits_76 (X : CX p m meth c cX10_fits 5 (some .boolean) s args wsX10_fits RX10 D (mT cI cZ) noE (va_A (mW h cI cZ σz) sz)) (hA : ∀ z : Nat, s.heap.size ≤ z → va_A (mW h cI cZ σz) sz z) (σ0 : Sg) (x1 : Int) (x4 : Int) (k0 : ok σ0) (hx1 : inR x1) (hx4 : inR x4) : JI l rm10_fits (mW h cI cZ) D (mT cI cZ) σz sz 5 p e s m args below meth c σ0 76 [(0, .ref (h 299)), (1, .int (iI x1)), (4, .int (iI x4))] [] (b10_fits_76 σ0 x1 x4) := by
  rw [b10_fits_76]
  refine jm_iload_n (n := 77) X 1 rfl dX10_fits_76 rfl ?_
  refine jm_bipush (n := 79) X dX10_fits_77 (by decide) rfl ?_
  refine jm_icmp_ne (n := 82) (tgt := 91) X dX10_fits_79 (by decide) hx1 (by decide) rfl (fun c1 => ?_) (fun c1 => ?_)
  · refine jm_aload_n (n := 83) X 0 rfl dX10_fits_82 rfl ?_
    refine jm_iload (n := 85) X 2 rfl dX10_fits_83 rfl ?_
    refine jm_callVi (n := 88) (vs := [.int (iI x4)]) (rest := []) X hA (t10_isTerm l k0 hx4) (cwV 1 X.2.2.2.2.1 gX10_fits_X10_isTerm rfl rfl rfl (by decide +kernel) ⟨Nat.le_of_ble_eq_true rfl, Nat.le_of_ble_eq_true rfl⟩) 0 9 mW_X10 rfl rfl (Nat.le_of_ble_eq_true rfl) dX10_fits_85 rfl (fun σ2 r2 k2 h3 => ?_)
    refine jm_if_eq (n := 91) (tgt := 95) X dX10_fits_88 (by decide) h3 rfl (fun c4 => ?_) (fun c4 => ?_)
    · refine jm_iconst (n := 96) X dX10_fits_95 rfl ?_
      exact jm_zret X rfl k2 dX10_fits_96
    · refine jm_iconst (n := 92) X dX10_fits_91 rfl ?_
      refine jm_goto (n := 96) X dX10_fits_92 (by decide) ?_
      exact jm_zret X rfl k2 dX10_fits_96
  · refine jm_iconst (n := 92) X dX10_fits_91 rfl ?_
    refine jm_goto (n := 96) X dX10_fits_92 (by decide) ?_
    exact jm_zret X rfl k0 dX10_fits_96
def f10_fits (σ0 : Sg) (x1 : Int) (x2 : Int) (x3 : Int) (x4 : Int) : Option (Sg × Int) :=
  if x1 = 0 then (bd (f10_in σ0 x2 (-1000 : Int) (1000 : Int)) fun σ2 r2 =>
  ck (r2 = 0 ∨ r2 = 1) (some (σ2, r2)))
  else if x1 = 1 then (bd (f10_in σ0 x2 (0 : Int) (1 : Int)) fun σ5 r5 =>
  ck (r5 = 0 ∨ r5 = 1) (some (σ5, r5)))
  else if x1 = 2 then (bd (f10_in σ0 x2 (0 : Int) (5 : Int)) fun σ8 r8 =>
  ck (r8 = 0 ∨ r8 = 1) (some (σ8, r8)))
  else (bd (f10_isTerm σ0 x2) fun σ10 r10 =>
  if r10 = 0 then (ck ((0 : Int) = 0 ∨ (0 : Int) = 1) (some (σ10, (0 : Int))))
  else (bd (f10_hasB σ10 x1) fun σ13 r13 =>
  if r13 = 0 then ((b10_fits_76 σ13 x1 x4))
  else (bd (f10_isTerm σ13 x3) fun σ16 r16 =>
  if r16 = 0 then (ck ((0 : Int) = 0 ∨ (0 : Int) = 1) (some (σ16, (0 : Int))))
  else ((b10_fits_76 σ16 x1 x4)))))
set_option maxRecDepth 100000 in
theorem t10_fits (l : Launch) {h : Nat → Nat} {cI cZ : ClassId} {D : va_G} {σ0 : Sg} {x1 : Int} {x2 : Int} {x3 : Int} {x4 : Int} (k0 : ok σ0) (hx1 : inR x1) (hx2 : inR x2) (hx3 : inR x3) (hx4 : inR x4) : ctI noE l (mW h cI cZ) D (mT cI cZ) yX10_fits wsX10_fits rm10_fits [.ref (h 299), .int (iI x1), .int (iI x2), .int (iI x3), .int (iI x4)] σ0 (f10_fits σ0 x1 x2 x3 x4) := by
  refine of_Z noE_ok (own := RX10) (lv := [(0, .ref (h 299)), (1, .int (iI x1)), (2, .int (iI x2)), (3, .int (iI x3)), (4, .int (iI x4))]) (by decide) rfl rfl (Nat.le_of_ble_eq_true rfl) rfl (fun p e s m below meth c sz X hA => ?_)
  rw [f10_fits]
  refine jm_iload_n (n := 1) X 1 rfl dX10_fits_0 rfl ?_
  refine jm_tcase (tgt := 28) X (0) dX10_fits_1 hx1 (by decide) (by decide) rfl (by decide) (fun c1 => ?_) (fun c1 => ?_)
  · refine jm_iload_n (n := 29) X 2 rfl dX10_fits_28 rfl ?_
    refine jm_sipush (n := 32) X dX10_fits_29 (by decide) rfl ?_
    refine jm_sipush (n := 35) X dX10_fits_32 (by decide) rfl ?_
    refine jm_callSi (n := 38) (vs := [.int (iI x2), .int (iI (-1000 : Int)), .int (iI (1000 : Int))]) (rest := []) X hA (t10_in l k0 hx2 (by decide) (by decide)) (va_cwS 3 X.2.2.2.2.1 gX10_fits_X10_in rfl rfl rfl (by decide +kernel) ⟨Nat.le_of_ble_eq_true rfl, Nat.le_of_ble_eq_true rfl⟩) rfl (Nat.le_of_ble_eq_true rfl) dX10_fits_35 rfl (fun σ2 r2 k2 h3 => ?_)
    exact jm_zret X rfl k2 dX10_fits_38
  refine jm_tcase (tgt := 39) X (1) dX10_fits_1 hx1 (by decide) (by decide) rfl (by decide) (fun c4 => ?_) (fun c4 => ?_)
  · refine jm_iload_n (n := 40) X 2 rfl dX10_fits_39 rfl ?_
    refine jm_iconst (n := 41) X dX10_fits_40 rfl ?_
    refine jm_iconst (n := 42) X dX10_fits_41 rfl ?_
    refine jm_callSi (n := 45) (vs := [.int (iI x2), .int (iI (0 : Int)), .int (iI (1 : Int))]) (rest := []) X hA (t10_in l k0 hx2 (by decide) (by decide)) (va_cwS 3 X.2.2.2.2.1 gX10_fits_X10_in rfl rfl rfl (by decide +kernel) ⟨Nat.le_of_ble_eq_true rfl, Nat.le_of_ble_eq_true rfl⟩) rfl (Nat.le_of_ble_eq_true rfl) dX10_fits_42 rfl (fun σ5 r5 k5 h6 => ?_)
    exact jm_zret X rfl k5 dX10_fits_45
  refine jm_tcase (tgt := 46) X (2) dX10_fits_1 hx1 (by decide) (by decide) rfl (by decide) (fun c7 => ?_) (fun c7 => ?_)
  · refine jm_iload_n (n := 47) X 2 rfl dX10_fits_46 rfl ?_
    refine jm_iconst (n := 48) X dX10_fits_47 rfl ?_
    refine jm_iconst (n := 49) X dX10_fits_48 rfl ?_
    refine jm_callSi (n := 52) (vs := [.int (iI x2), .int (iI (0 : Int)), .int (iI (5 : Int))]) (rest := []) X hA (t10_in l k0 hx2 (by decide) (by decide)) (va_cwS 3 X.2.2.2.2.1 gX10_fits_X10_in rfl rfl rfl (by decide +kernel) ⟨Nat.le_of_ble_eq_true rfl, Nat.le_of_ble_eq_true rfl⟩) rfl (Nat.le_of_ble_eq_true rfl) dX10_fits_49 rfl (fun σ8 r8 k8 h9 => ?_)
    exact jm_zret X rfl k8 dX10_fits_52
  refine jm_tout (tgt := 53) X dX10_fits_1 hx1 (by decide) (by omega) ?_
  refine jm_aload_n (n := 54) X 0 rfl dX10_fits_53 rfl ?_
  refine jm_iload_n (n := 55) X 2 rfl dX10_fits_54 rfl ?_
  refine jm_callVi (n := 58) (vs := [.int (iI x2)]) (rest := []) X hA (t10_isTerm l k0 hx2) (cwV 1 X.2.2.2.2.1 gX10_fits_X10_isTerm rfl rfl rfl (by decide +kernel) ⟨Nat.le_of_ble_eq_true rfl, Nat.le_of_ble_eq_true rfl⟩) 0 9 mW_X10 rfl rfl (Nat.le_of_ble_eq_true rfl) dX10_fits_55 rfl (fun σ10 r10 k10 h11 => ?_)
  refine jm_if_eq (n := 61) (tgt := 95) X dX10_fits_58 (by decide) h11 rfl (fun c12 => ?_) (fun c12 => ?_)
  · refine jm_iconst (n := 96) X dX10_fits_95 rfl ?_
    exact jm_zret X rfl k10 dX10_fits_96
  · refine jm_iload_n (n := 62) X 1 rfl dX10_fits_61 rfl ?_
    refine jm_callSi (n := 65) (vs := [.int (iI x1)]) (rest := []) X hA (t10_hasB l k10 hx1) (va_cwS 1 X.2.2.2.2.1 gX10_fits_X10_hasB rfl rfl rfl (by decide +kernel) ⟨Nat.le_of_ble_eq_true rfl, Nat.le_of_ble_eq_true rfl⟩) rfl (Nat.le_of_ble_eq_true rfl) dX10_fits_62 rfl (fun σ13 r13 k13 h14 => ?_)
    refine jm_if_eq (n := 68) (tgt := 76) X dX10_fits_65 (by decide) h14 rfl (fun c15 => ?_) (fun c15 => ?_)
    · refine jm_perm [0, 1, 4] rfl ?_
      exact u10_fits_76 X hA σ13 x1 x4 k13 hx1 hx4
    · refine jm_aload_n (n := 69) X 0 rfl dX10_fits_68 rfl ?_
      refine jm_iload_n (n := 70) X 3 rfl dX10_fits_69 rfl ?_
      refine jm_callVi (n := 73) (vs := [.int (iI x3)]) (rest := []) X hA (t10_isTerm l k13 hx3) (cwV 1 X.2.2.2.2.1 gX10_fits_X10_isTerm rfl rfl rfl (by decide +kernel) ⟨Nat.le_of_ble_eq_true rfl, Nat.le_of_ble_eq_true rfl⟩) 0 9 mW_X10 rfl rfl (Nat.le_of_ble_eq_true rfl) dX10_fits_70 rfl (fun σ16 r16 k16 h17 => ?_)
      refine jm_if_eq (n := 76) (tgt := 95) X dX10_fits_73 (by decide) h17 rfl (fun c18 => ?_) (fun c18 => ?_)
      · refine jm_iconst (n := 96) X dX10_fits_95 rfl ?_
        exact jm_zret X rfl k16 dX10_fits_96
      · refine jm_perm [0, 1, 4] rfl ?_
        exact u10_fits_76 X hA σ16 x1 x4 k16 hx1 hx4
abbrev rm10_needs : Room := { frames := 1, cells := 0, slots := 0, locals := 21 }
def f10_needs (σ0 : Sg) (x1 : Int) (x2 : Int) (x3 : Int) (x4 : Int) : Option (Sg × Int) :=
  if x1 = 0 then (some (σ0, (0 : Int)))
  else if x1 = 1 then (some (σ0, (0 : Int)))
  else if x1 = 2 then (ck (inR (x2 + (1 : Int))) <|
  some (σ0, (x2 + (1 : Int))))
  else if x1 = 3 then (ck (0 ≤ x2 ∧ x2 < 60) <|
  ck (inR ((gA σ0 208 x2) - (1 : Int))) <|
  bd (f10_greater σ0 ((gA σ0 208 x2) - (1 : Int)) (0 : Int)) fun σ8 r8 =>
  some (σ8, r8))
  else if x1 = 4 then (ck (0 ≤ x2 ∧ x2 < 60) <|
  ck (0 ≤ x3 ∧ x3 < 60) <|
  bd (f10_greater σ0 (gA σ0 208 x2) (gA σ0 208 x3)) fun σ13 r13 =>
  some (σ13, r13))
  else if x1 = 5 then (ck (0 ≤ x2 ∧ x2 < 60) <|
  ck (0 ≤ x3 ∧ x3 < 60) <|
  bd (f10_greater σ0 (gA σ0 208 x2) (gA σ0 208 x3)) fun σ18 r18 =>
  some (σ18, r18))
  else if x1 = 6 then (ck (0 ≤ x2 ∧ x2 < 60) <|
  ck (0 ≤ x3 ∧ x3 < 60) <|
  bd (f10_greater σ0 (gA σ0 208 x2) (gA σ0 208 x3)) fun σ23 r23 =>
  some (σ23, r23))
  else if x1 = 7 then (ck (0 ≤ x2 ∧ x2 < 60) <|
  ck (0 ≤ x3 ∧ x3 < 60) <|
  ck (0 ≤ x4 ∧ x4 < 60) <|
  bd (f10_greater σ0 (gA σ0 208 x3) (gA σ0 208 x4)) fun σ29 r29 =>
  bd (f10_greater σ29 (gA σ0 208 x2) r29) fun σ31 r31 =>
  some (σ31, r31))
  else if x1 = 8 then (ck (0 ≤ x2 ∧ x2 < 60) <|
  ck (0 ≤ x3 ∧ x3 < 60) <|
  ck (inR ((gA σ0 208 x3) - (1 : Int))) <|
  bd (f10_greater σ0 (gA σ0 208 x2) ((gA σ0 208 x3) - (1 : Int))) fun σ37 r37 =>
  some (σ37, r37))
  else if x1 = 9 then (ck (0 ≤ x2 ∧ x2 < 60) <|
  some (σ0, (gA σ0 208 x2)))
  else if x1 = 10 then (ck (0 ≤ x2 ∧ x2 < 60) <|
  ck (inR ((gA σ0 208 x2) - (1 : Int))) <|
  bd (f10_greater σ0 ((gA σ0 208 x2) - (1 : Int)) (0 : Int)) fun σ44 r44 =>
  some (σ44, r44))
  else if x1 = 11 then (ck (0 ≤ x2 ∧ x2 < 60) <|
  ck (inR ((gA σ0 208 x2) - (2 : Int))) <|
  bd (f10_greater σ0 ((gA σ0 208 x2) - (2 : Int)) (0 : Int)) fun σ49 r49 =>
  some (σ49, r49))
  else (ck (0 ≤ x2 ∧ x2 < 60) <|
  ck (0 ≤ x3 ∧ x3 < 60) <|
  bd (f10_greater σ0 (gA σ0 208 x2) (gA σ0 208 x3)) fun σ53 r53 =>
  some (σ53, r53))
set_option maxRecDepth 100000 in
theorem t10_needs (l : Launch) {h : Nat → Nat} {cI cZ : ClassId} {D : va_G} {σ0 : Sg} {x1 : Int} {x2 : Int} {x3 : Int} {x4 : Int} (k0 : ok σ0) (hx1 : inR x1) (hx2 : inR x2) (hx3 : inR x3) (hx4 : inR x4) : ctI noE l (mW h cI cZ) D (mT cI cZ) yX10_needs wsX10_needs rm10_needs [.ref (h 299), .int (iI x1), .int (iI x2), .int (iI x3), .int (iI x4)] σ0 (f10_needs σ0 x1 x2 x3 x4) := by
  refine of_I noE_ok (own := RX10) (lv := [(0, .ref (h 299)), (1, .int (iI x1)), (2, .int (iI x2)), (3, .int (iI x3)), (4, .int (iI x4))]) (by decide) rfl rfl (Nat.le_of_ble_eq_true rfl) rfl (fun p e s m below meth c sz X hA => ?_)
  rw [f10_needs]
  refine jm_iload_n (n := 1) X 1 rfl dX10_needs_0 rfl ?_
  refine jm_tcase (tgt := 64) X (0) dX10_needs_1 hx1 (by decide) (by decide) rfl (by decide) (fun c1 => ?_) (fun c1 => ?_)
  · refine jm_iconst (n := 65) X dX10_needs_64 rfl ?_
    exact jm_iret X rfl k0 (by decide) dX10_needs_65
  refine jm_tcase (tgt := 64) X (1) dX10_needs_1 hx1 (by decide) (by decide) rfl (by decide) (fun c2 => ?_) (fun c2 => ?_)
  · refine jm_iconst (n := 65) X dX10_needs_64 rfl ?_
    exact jm_iret X rfl k0 (by decide) dX10_needs_65
  refine jm_tcase (tgt := 66) X (2) dX10_needs_1 hx1 (by decide) (by decide) rfl (by decide) (fun c3 => ?_) (fun c3 => ?_)
  · refine jm_iload_n (n := 67) X 2 rfl dX10_needs_66 rfl ?_
    refine jm_iconst (n := 68) X dX10_needs_67 rfl ?_
    refine jm_iadd (n := 69) X dX10_needs_68 rfl (fun h4 => ?_)
    exact jm_iret X rfl k0 h4 dX10_needs_69
  refine jm_tcase (tgt := 70) X (3) dX10_needs_1 hx1 (by decide) (by decide) rfl (by decide) (fun c5 => ?_) (fun c5 => ?_)
  · refine jm_aload_n (n := 71) X 0 rfl dX10_needs_70 rfl ?_
    refine jm_get (n := 74) X 0 9 8 mW_X10 rfl (by decide) (fun w h => List.mem_cons_of_mem _ (List.mem_append_right _ h)) (List.mem_of_getElem? (i := 1) rfl) rfl dX10_needs_71 rfl ?_
    refine jm_iload_n (n := 75) X 2 rfl dX10_needs_74 rfl ?_
    refine jm_ald (n := 76) X 7 0 208 mA_208 rfl rfl hx2 dX10_needs_75 rfl (fun h6 => ?_)
    refine jm_iconst (n := 77) X dX10_needs_76 rfl ?_
    refine jm_isub (n := 78) X dX10_needs_77 rfl (fun h7 => ?_)
    refine jm_iconst (n := 79) X dX10_needs_78 rfl ?_
    refine jm_callSi (n := 82) (vs := [.int (iI ((gA σ0 208 x2) - (1 : Int))), .int (iI (0 : Int))]) (rest := []) X hA (t10_greater l k0 h7 (by decide)) (va_cwS 2 X.2.2.2.2.1 gX10_needs_X10_greater rfl rfl rfl (by decide +kernel) ⟨Nat.le_of_ble_eq_true rfl, Nat.le_of_ble_eq_true rfl⟩) rfl (Nat.le_of_ble_eq_true rfl) dX10_needs_79 rfl (fun σ8 r8 k8 h9 => ?_)
    exact jm_iret X rfl k8 h9 dX10_needs_82
  refine jm_tcase (tgt := 147) X (4) dX10_needs_1 hx1 (by decide) (by decide) rfl (by decide) (fun c10 => ?_) (fun c10 => ?_)
  · refine jm_aload_n (n := 148) X 0 rfl dX10_needs_147 rfl ?_
    refine jm_get (n := 151) X 0 9 8 mW_X10 rfl (by decide) (fun w h => List.mem_cons_of_mem _ (List.mem_append_right _ h)) (List.mem_of_getElem? (i := 1) rfl) rfl dX10_needs_148 rfl ?_
    refine jm_iload_n (n := 152) X 2 rfl dX10_needs_151 rfl ?_
    refine jm_ald (n := 153) X 7 0 208 mA_208 rfl rfl hx2 dX10_needs_152 rfl (fun h11 => ?_)
    refine jm_aload_n (n := 154) X 0 rfl dX10_needs_153 rfl ?_
    refine jm_get (n := 157) X 0 9 8 mW_X10 rfl (by decide) (fun w h => List.mem_cons_of_mem _ (List.mem_append_right _ h)) (List.mem_of_getElem? (i := 1) rfl) rfl dX10_needs_154 rfl ?_
    refine jm_iload_n (n := 158) X 3 rfl dX10_needs_157 rfl ?_
    refine jm_ald (n := 159) X 7 0 208 mA_208 rfl rfl hx3 dX10_needs_158 rfl (fun h12 => ?_)
    refine jm_callSi (n := 162) (vs := [.int (iI (gA σ0 208 x2)), .int (iI (gA σ0 208 x3))]) (rest := []) X hA (t10_greater l k0 (k0.2 208 _) (k0.2 208 _)) (va_cwS 2 X.2.2.2.2.1 gX10_needs_X10_greater rfl rfl rfl (by decide +kernel) ⟨Nat.le_of_ble_eq_true rfl, Nat.le_of_ble_eq_true rfl⟩) rfl (Nat.le_of_ble_eq_true rfl) dX10_needs_159 rfl (fun σ13 r13 k13 h14 => ?_)
    exact jm_iret X rfl k13 h14 dX10_needs_162
  refine jm_tcase (tgt := 147) X (5) dX10_needs_1 hx1 (by decide) (by decide) rfl (by decide) (fun c15 => ?_) (fun c15 => ?_)
  · refine jm_aload_n (n := 148) X 0 rfl dX10_needs_147 rfl ?_
    refine jm_get (n := 151) X 0 9 8 mW_X10 rfl (by decide) (fun w h => List.mem_cons_of_mem _ (List.mem_append_right _ h)) (List.mem_of_getElem? (i := 1) rfl) rfl dX10_needs_148 rfl ?_
    refine jm_iload_n (n := 152) X 2 rfl dX10_needs_151 rfl ?_
    refine jm_ald (n := 153) X 7 0 208 mA_208 rfl rfl hx2 dX10_needs_152 rfl (fun h16 => ?_)
    refine jm_aload_n (n := 154) X 0 rfl dX10_needs_153 rfl ?_
    refine jm_get (n := 157) X 0 9 8 mW_X10 rfl (by decide) (fun w h => List.mem_cons_of_mem _ (List.mem_append_right _ h)) (List.mem_of_getElem? (i := 1) rfl) rfl dX10_needs_154 rfl ?_
    refine jm_iload_n (n := 158) X 3 rfl dX10_needs_157 rfl ?_
    refine jm_ald (n := 159) X 7 0 208 mA_208 rfl rfl hx3 dX10_needs_158 rfl (fun h17 => ?_)
    refine jm_callSi (n := 162) (vs := [.int (iI (gA σ0 208 x2)), .int (iI (gA σ0 208 x3))]) (rest := []) X hA (t10_greater l k0 (k0.2 208 _) (k0.2 208 _)) (va_cwS 2 X.2.2.2.2.1 gX10_needs_X10_greater rfl rfl rfl (by decide +kernel) ⟨Nat.le_of_ble_eq_true rfl, Nat.le_of_ble_eq_true rfl⟩) rfl (Nat.le_of_ble_eq_true rfl) dX10_needs_159 rfl (fun σ18 r18 k18 h19 => ?_)
    exact jm_iret X rfl k18 h19 dX10_needs_162
  refine jm_tcase (tgt := 147) X (6) dX10_needs_1 hx1 (by decide) (by decide) rfl (by decide) (fun c20 => ?_) (fun c20 => ?_)
  · refine jm_aload_n (n := 148) X 0 rfl dX10_needs_147 rfl ?_
    refine jm_get (n := 151) X 0 9 8 mW_X10 rfl (by decide) (fun w h => List.mem_cons_of_mem _ (List.mem_append_right _ h)) (List.mem_of_getElem? (i := 1) rfl) rfl dX10_needs_148 rfl ?_
    refine jm_iload_n (n := 152) X 2 rfl dX10_needs_151 rfl ?_
    refine jm_ald (n := 153) X 7 0 208 mA_208 rfl rfl hx2 dX10_needs_152 rfl (fun h21 => ?_)
    refine jm_aload_n (n := 154) X 0 rfl dX10_needs_153 rfl ?_
    refine jm_get (n := 157) X 0 9 8 mW_X10 rfl (by decide) (fun w h => List.mem_cons_of_mem _ (List.mem_append_right _ h)) (List.mem_of_getElem? (i := 1) rfl) rfl dX10_needs_154 rfl ?_
    refine jm_iload_n (n := 158) X 3 rfl dX10_needs_157 rfl ?_
    refine jm_ald (n := 159) X 7 0 208 mA_208 rfl rfl hx3 dX10_needs_158 rfl (fun h22 => ?_)
    refine jm_callSi (n := 162) (vs := [.int (iI (gA σ0 208 x2)), .int (iI (gA σ0 208 x3))]) (rest := []) X hA (t10_greater l k0 (k0.2 208 _) (k0.2 208 _)) (va_cwS 2 X.2.2.2.2.1 gX10_needs_X10_greater rfl rfl rfl (by decide +kernel) ⟨Nat.le_of_ble_eq_true rfl, Nat.le_of_ble_eq_true rfl⟩) rfl (Nat.le_of_ble_eq_true rfl) dX10_needs_159 rfl (fun σ23 r23 k23 h24 => ?_)
    exact jm_iret X rfl k23 h24 dX10_needs_162
  refine jm_tcase (tgt := 121) X (7) dX10_needs_1 hx1 (by decide) (by decide) rfl (by decide) (fun c25 => ?_) (fun c25 => ?_)
  · refine jm_aload_n (n := 122) X 0 rfl dX10_needs_121 rfl ?_
    refine jm_get (n := 125) X 0 9 8 mW_X10 rfl (by decide) (fun w h => List.mem_cons_of_mem _ (List.mem_append_right _ h)) (List.mem_of_getElem? (i := 1) rfl) rfl dX10_needs_122 rfl ?_
    refine jm_iload_n (n := 126) X 2 rfl dX10_needs_125 rfl ?_
    refine jm_ald (n := 127) X 7 0 208 mA_208 rfl rfl hx2 dX10_needs_126 rfl (fun h26 => ?_)
    refine jm_aload_n (n := 128) X 0 rfl dX10_needs_127 rfl ?_
    refine jm_get (n := 131) X 0 9 8 mW_X10 rfl (by decide) (fun w h => List.mem_cons_of_mem _ (List.mem_append_right _ h)) (List.mem_of_getElem? (i := 1) rfl) rfl dX10_needs_128 rfl ?_
    refine jm_iload_n (n := 132) X 3 rfl dX10_needs_131 rfl ?_
    refine jm_ald (n := 133) X 7 0 208 mA_208 rfl rfl hx3 dX10_needs_132 rfl (fun h27 => ?_)
    refine jm_aload_n (n := 134) X 0 rfl dX10_needs_133 rfl ?_
    refine jm_get (n := 137) X 0 9 8 mW_X10 rfl (by decide) (fun w h => List.mem_cons_of_mem _ (List.mem_append_right _ h)) (List.mem_of_getElem? (i := 1) rfl) rfl dX10_needs_134 rfl ?_
    refine jm_iload (n := 139) X 4 rfl dX10_needs_137 rfl ?_
    refine jm_ald (n := 140) X 7 0 208 mA_208 rfl rfl hx4 dX10_needs_139 rfl (fun h28 => ?_)
    refine jm_callSi (n := 143) (vs := [.int (iI (gA σ0 208 x3)), .int (iI (gA σ0 208 x4))]) (rest := [.int (iI (gA σ0 208 x2))]) X hA (t10_greater l k0 (k0.2 208 _) (k0.2 208 _)) (va_cwS 2 X.2.2.2.2.1 gX10_needs_X10_greater rfl rfl rfl (by decide +kernel) ⟨Nat.le_of_ble_eq_true rfl, Nat.le_of_ble_eq_true rfl⟩) rfl (Nat.le_of_ble_eq_true rfl) dX10_needs_140 rfl (fun σ29 r29 k29 h30 => ?_)
    refine jm_callSi (n := 146) (vs := [.int (iI (gA σ0 208 x2)), .int (iI r29)]) (rest := []) X hA (t10_greater l k29 (k0.2 208 _) h30) (va_cwS 2 X.2.2.2.2.1 gX10_needs_X10_greater rfl rfl rfl (by decide +kernel) ⟨Nat.le_of_ble_eq_true rfl, Nat.le_of_ble_eq_true rfl⟩) rfl (Nat.le_of_ble_eq_true rfl) dX10_needs_143 rfl (fun σ31 r31 k31 h32 => ?_)
    exact jm_iret X rfl k31 h32 dX10_needs_146
  refine jm_tcase (tgt := 103) X (8) dX10_needs_1 hx1 (by decide) (by decide) rfl (by decide) (fun c33 => ?_) (fun c33 => ?_)
  · refine jm_aload_n (n := 104) X 0 rfl dX10_needs_103 rfl ?_
    refine jm_get (n := 107) X 0 9 8 mW_X10 rfl (by decide) (fun w h => List.mem_cons_of_mem _ (List.mem_append_right _ h)) (List.mem_of_getElem? (i := 1) rfl) rfl dX10_needs_104 rfl ?_
    refine jm_iload_n (n := 108) X 2 rfl dX10_needs_107 rfl ?_
    refine jm_ald (n := 109) X 7 0 208 mA_208 rfl rfl hx2 dX10_needs_108 rfl (fun h34 => ?_)
    refine jm_aload_n (n := 110) X 0 rfl dX10_needs_109 rfl ?_
    refine jm_get (n := 113) X 0 9 8 mW_X10 rfl (by decide) (fun w h => List.mem_cons_of_mem _ (List.mem_append_right _ h)) (List.mem_of_getElem? (i := 1) rfl) rfl dX10_needs_110 rfl ?_
    refine jm_iload_n (n := 114) X 3 rfl dX10_needs_113 rfl ?_
    refine jm_ald (n := 115) X 7 0 208 mA_208 rfl rfl hx3 dX10_needs_114 rfl (fun h35 => ?_)
    refine jm_iconst (n := 116) X dX10_needs_115 rfl ?_
    refine jm_isub (n := 117) X dX10_needs_116 rfl (fun h36 => ?_)
    refine jm_callSi (n := 120) (vs := [.int (iI (gA σ0 208 x2)), .int (iI ((gA σ0 208 x3) - (1 : Int)))]) (rest := []) X hA (t10_greater l k0 (k0.2 208 _) h36) (va_cwS 2 X.2.2.2.2.1 gX10_needs_X10_greater rfl rfl rfl (by decide +kernel) ⟨Nat.le_of_ble_eq_true rfl, Nat.le_of_ble_eq_true rfl⟩) rfl (Nat.le_of_ble_eq_true rfl) dX10_needs_117 rfl (fun σ37 r37 k37 h38 => ?_)
    exact jm_iret X rfl k37 h38 dX10_needs_120
  refine jm_tcase (tgt := 96) X (9) dX10_needs_1 hx1 (by decide) (by decide) rfl (by decide) (fun c39 => ?_) (fun c39 => ?_)
  · refine jm_aload_n (n := 97) X 0 rfl dX10_needs_96 rfl ?_
    refine jm_get (n := 100) X 0 9 8 mW_X10 rfl (by decide) (fun w h => List.mem_cons_of_mem _ (List.mem_append_right _ h)) (List.mem_of_getElem? (i := 1) rfl) rfl dX10_needs_97 rfl ?_
    refine jm_iload_n (n := 101) X 2 rfl dX10_needs_100 rfl ?_
    refine jm_ald (n := 102) X 7 0 208 mA_208 rfl rfl hx2 dX10_needs_101 rfl (fun h40 => ?_)
    exact jm_iret X rfl k0 (k0.2 208 _) dX10_needs_102
  refine jm_tcase (tgt := 70) X (10) dX10_needs_1 hx1 (by decide) (by decide) rfl (by decide) (fun c41 => ?_) (fun c41 => ?_)
  · refine jm_aload_n (n := 71) X 0 rfl dX10_needs_70 rfl ?_
    refine jm_get (n := 74) X 0 9 8 mW_X10 rfl (by decide) (fun w h => List.mem_cons_of_mem _ (List.mem_append_right _ h)) (List.mem_of_getElem? (i := 1) rfl) rfl dX10_needs_71 rfl ?_
    refine jm_iload_n (n := 75) X 2 rfl dX10_needs_74 rfl ?_
    refine jm_ald (n := 76) X 7 0 208 mA_208 rfl rfl hx2 dX10_needs_75 rfl (fun h42 => ?_)
    refine jm_iconst (n := 77) X dX10_needs_76 rfl ?_
    refine jm_isub (n := 78) X dX10_needs_77 rfl (fun h43 => ?_)
    refine jm_iconst (n := 79) X dX10_needs_78 rfl ?_
    refine jm_callSi (n := 82) (vs := [.int (iI ((gA σ0 208 x2) - (1 : Int))), .int (iI (0 : Int))]) (rest := []) X hA (t10_greater l k0 h43 (by decide)) (va_cwS 2 X.2.2.2.2.1 gX10_needs_X10_greater rfl rfl rfl (by decide +kernel) ⟨Nat.le_of_ble_eq_true rfl, Nat.le_of_ble_eq_true rfl⟩) rfl (Nat.le_of_ble_eq_true rfl) dX10_needs_79 rfl (fun σ44 r44 k44 h45 => ?_)
    exact jm_iret X rfl k44 h45 dX10_needs_82
  refine jm_tcase (tgt := 83) X (11) dX10_needs_1 hx1 (by decide) (by decide) rfl (by decide) (fun c46 => ?_) (fun c46 => ?_)
  · refine jm_aload_n (n := 84) X 0 rfl dX10_needs_83 rfl ?_
    refine jm_get (n := 87) X 0 9 8 mW_X10 rfl (by decide) (fun w h => List.mem_cons_of_mem _ (List.mem_append_right _ h)) (List.mem_of_getElem? (i := 1) rfl) rfl dX10_needs_84 rfl ?_
    refine jm_iload_n (n := 88) X 2 rfl dX10_needs_87 rfl ?_
    refine jm_ald (n := 89) X 7 0 208 mA_208 rfl rfl hx2 dX10_needs_88 rfl (fun h47 => ?_)
    refine jm_iconst (n := 90) X dX10_needs_89 rfl ?_
    refine jm_isub (n := 91) X dX10_needs_90 rfl (fun h48 => ?_)
    refine jm_iconst (n := 92) X dX10_needs_91 rfl ?_
    refine jm_callSi (n := 95) (vs := [.int (iI ((gA σ0 208 x2) - (2 : Int))), .int (iI (0 : Int))]) (rest := []) X hA (t10_greater l k0 h48 (by decide)) (va_cwS 2 X.2.2.2.2.1 gX10_needs_X10_greater rfl rfl rfl (by decide +kernel) ⟨Nat.le_of_ble_eq_true rfl, Nat.le_of_ble_eq_true rfl⟩) rfl (Nat.le_of_ble_eq_true rfl) dX10_needs_92 rfl (fun σ49 r49 k49 h50 => ?_)
    exact jm_iret X rfl k49 h50 dX10_needs_95
  refine jm_tout (tgt := 147) X dX10_needs_1 hx1 (by decide) (by omega) ?_
  refine jm_aload_n (n := 148) X 0 rfl dX10_needs_147 rfl ?_
  refine jm_get (n := 151) X 0 9 8 mW_X10 rfl (by decide) (fun w h => List.mem_cons_of_mem _ (List.mem_append_right _ h)) (List.mem_of_getElem? (i := 1) rfl) rfl dX10_needs_148 rfl ?_
  refine jm_iload_n (n := 152) X 2 rfl dX10_needs_151 rfl ?_
  refine jm_ald (n := 153) X 7 0 208 mA_208 rfl rfl hx2 dX10_needs_152 rfl (fun h51 => ?_)
  refine jm_aload_n (n := 154) X 0 rfl dX10_needs_153 rfl ?_
  refine jm_get (n := 157) X 0 9 8 mW_X10 rfl (by decide) (fun w h => List.mem_cons_of_mem _ (List.mem_append_right _ h)) (List.mem_of_getElem? (i := 1) rfl) rfl dX10_needs_154 rfl ?_
  refine jm_iload_n (n := 158) X 3 rfl dX10_needs_157 rfl ?_
  refine jm_ald (n := 159) X 7 0 208 mA_208 rfl rfl hx3 dX10_needs_158 rfl (fun h52 => ?_)
  refine jm_callSi (n := 162) (vs := [.int (iI (gA σ0 208 x2)), .int (iI (gA σ0 208 x3))]) (rest := []) X hA (t10_greater l k0 (k0.2 208 _) (k0.2 208 _)) (va_cwS 2 X.2.2.2.2.1 gX10_needs_X10_greater rfl rfl rfl (by decide +kernel) ⟨Nat.le_of_ble_eq_true rfl, Nat.le_of_ble_eq_true rfl⟩) rfl (Nat.le_of_ble_eq_true rfl) dX10_needs_159 rfl (fun σ53 r53 k53 h54 => ?_)
  exact jm_iret X rfl k53 h54 dX10_needs_162
abbrev rm10_make : Room := { frames := 3, cells := 0, slots := 0, locals := 67 }
def b10_make_27 (σ0 : Sg)  : Option (Sg × Int) :=
  bd (f10_fail σ0 (1 : Int)) fun σ1 r1 =>
  some (σ1, r1)
set_option maxRecDepth 100000 in
theorem u10_make_27 (X : CX p m meth c cX10_make 7 (some .int) s args wsX10_make RX10 D (mT cI cZ) noE (va_A (mW h cI cZ σz) sz)) (hA : ∀ z : Nat, s.heap.size ≤ z → va_A (mW h cI cZ σz) sz z) (σ0 : Sg)  (k0 : ok σ0)  : JI l rm10_make (mW h cI cZ) D (mT cI cZ) σz sz 7 p e s m args below meth c σ0 27 [(0, .ref (h 299))] [] (b10_make_27 σ0 ) := by
  rw [b10_make_27]
  refine jm_aload_n (n := 28) X 0 rfl dX10_make_27 rfl ?_
  refine jm_iconst (n := 29) X dX10_make_28 rfl ?_
  refine jm_callVi (n := 32) (vs := [.int (iI (1 : Int))]) (rest := []) X hA (t10_fail l k0 (by decide)) (cwV 1 X.2.2.2.2.1 gX10_make_X10_fail rfl rfl rfl (by decide +kernel) ⟨Nat.le_of_ble_eq_true rfl, Nat.le_of_ble_eq_true rfl⟩) 0 9 mW_X10 rfl rfl (Nat.le_of_ble_eq_true rfl) dX10_make_29 rfl (fun σ1 r1 k1 h2 => ?_)
  exact jm_iret X rfl k1 h2 dX10_make_32
def b10_make_157 (σ0 : Sg)  : Option (Sg × Int) :=
  bd (f10_fail σ0 (2 : Int)) fun σ1 r1 =>
  some (σ1, r1)
set_option maxRecDepth 100000 in
theorem u10_make_157 (X : CX p m meth c cX10_make 7 (some .int) s args wsX10_make RX10 D (mT cI cZ) noE (va_A (mW h cI cZ σz) sz)) (hA : ∀ z : Nat, s.heap.size ≤ z → va_A (mW h cI cZ σz) sz z) (σ0 : Sg)  (k0 : ok σ0)  : JI l rm10_make (mW h cI cZ) D (mT cI cZ) σz sz 7 p e s m args below meth c σ0 157 [(0, .ref (h 299))] [] (b10_make_157 σ0 ) := by
  rw [b10_make_157]
  refine jm_aload_n (n := 158) X 0 rfl dX10_make_157 rfl ?_
  refine jm_iconst (n := 159) X dX10_make_158 rfl ?_
  refine jm_callVi (n := 162) (vs := [.int (iI (2 : Int))]) (rest := []) X hA (t10_fail l k0 (by decide)) (cwV 1 X.2.2.2.2.1 gX10_make_X10_fail rfl rfl rfl (by decide +kernel) ⟨Nat.le_of_ble_eq_true rfl, Nat.le_of_ble_eq_true rfl⟩) 0 9 mW_X10 rfl rfl (Nat.le_of_ble_eq_true rfl) dX10_make_159 rfl (fun σ1 r1 k1 h2 => ?_)
  exact jm_iret X rfl k1 h2 dX10_make_162
def b10_make_134 (σ0 : Sg) (x1 : Int) (x2 : Int) (x3 : Int) (x4 : Int) (x5 : Int) (x6 : Int) : Option (Sg × Int) :=
  if (gI σ0 201) = (60 : Int) then ((b10_make_157 σ0 ))
  else (if (9 : Int) < x5 then ((b10_make_157 σ0 ))
  else (if x6 ≤ (120 : Int) then (ck (0 ≤ (gI σ0 201) ∧ (gI σ0 201) < 60) <| nx (sA σ0 202 (gI σ0 201) x1) fun σ5 =>
  ck (0 ≤ (gI σ5 201) ∧ (gI σ5 201) < 60) <| nx (sA σ5 203 (gI σ5 201) x2) fun σ7 =>
  ck (0 ≤ (gI σ7 201) ∧ (gI σ7 201) < 60) <| nx (sA σ7 204 (gI σ7 201) x3) fun σ9 =>
  ck (0 ≤ (gI σ9 201) ∧ (gI σ9 201) < 60) <| nx (sA σ9 205 (gI σ9 201) x4) fun σ11 =>
  ck (0 ≤ (gI σ11 201) ∧ (gI σ11 201) < 60) <| nx (sA σ11 206 (gI σ11 201) x5) fun σ13 =>
  ck (0 ≤ (gI σ13 201) ∧ (gI σ13 201) < 60) <| nx (sA σ13 207 (gI σ13 201) x6) fun σ15 =>
  bd (f10_needs σ15 x1 x2 x3 x4) fun σ16 r16 =>
  ck (0 ≤ (gI σ15 201) ∧ (gI σ15 201) < 60) <| nx (sA σ16 208 (gI σ15 201) r16) fun σ19 =>
  ck (inR ((gI σ19 201) + (1 : Int))) <|
  nx (sI σ19 201 ((gI σ19 201) + (1 : Int))) fun σ21 =>
  ck (inR ((gI σ21 201) - (1 : Int))) <|
  some (σ21, ((gI σ21 201) - (1 : Int))))
  else ((b10_make_157 σ0 ))))
set_option maxRecDepth 100000 in
theorem u10_make_134 (X : CX p m meth c cX10_make 7 (some .int) s args wsX10_make RX10 D (mT cI cZ) noE (va_A (mW h cI cZ σz) sz)) (hA : ∀ z : Nat, s.heap.size ≤ z → va_A (mW h cI cZ σz) sz z) (σ0 : Sg) (x1 : Int) (x2 : Int) (x3 : Int) (x4 : Int) (x5 : Int) (x6 : Int) (k0 : ok σ0) (hx1 : inR x1) (hx2 : inR x2) (hx3 : inR x3) (hx4 : inR x4) (hx5 : inR x5) (hx6 : inR x6) : JI l rm10_make (mW h cI cZ) D (mT cI cZ) σz sz 7 p e s m args below meth c σ0 134 [(0, .ref (h 299)), (1, .int (iI x1)), (2, .int (iI x2)), (3, .int (iI x3)), (4, .int (iI x4)), (5, .int (iI x5)), (6, .int (iI x6))] [] (b10_make_134 σ0 x1 x2 x3 x4 x5 x6) := by
  rw [b10_make_134]
  refine jm_aload_n (n := 135) X 0 rfl dX10_make_134 rfl ?_
  refine jm_get (n := 138) X 0 9 1 mW_X10 rfl (by decide) (fun w h => List.mem_cons_of_mem _ (List.mem_append_right _ h)) (List.mem_of_getElem? (i := 4) rfl) rfl dX10_make_135 rfl ?_
  refine jm_bipush (n := 140) X dX10_make_138 (by decide) rfl ?_
  refine jm_icmp_eq (n := 143) (tgt := 157) X dX10_make_140 (by decide) (k0.1 201) (by decide) rfl (fun c1 => ?_) (fun c1 => ?_)
  · refine jm_perm [0] rfl ?_
    exact u10_make_157 X hA σ0  k0 
  · refine jm_iload (n := 145) X 5 rfl dX10_make_143 rfl ?_
    refine jm_bipush (n := 147) X dX10_make_145 (by decide) rfl ?_
    refine jm_icmp_gt (n := 150) (tgt := 157) X dX10_make_147 (by decide) hx5 (by decide) rfl (fun c2 => ?_) (fun c2 => ?_)
    · refine jm_perm [0] rfl ?_
      exact u10_make_157 X hA σ0  k0 
    · refine jm_iload (n := 152) X 6 rfl dX10_make_150 rfl ?_
      refine jm_bipush (n := 154) X dX10_make_152 (by decide) rfl ?_
      refine jm_icmp_le (n := 157) (tgt := 163) X dX10_make_154 (by decide) hx6 (by decide) rfl (fun c3 => ?_) (fun c3 => ?_)
      · refine jm_aload_n (n := 164) X 0 rfl dX10_make_163 rfl ?_
        refine jm_get (n := 167) X 0 9 2 mW_X10 rfl (by decide) (fun w h => List.mem_cons_of_mem _ (List.mem_append_right _ h)) (List.mem_of_getElem? (i := 5) rfl) rfl dX10_make_164 rfl ?_
        refine jm_aload_n (n := 168) X 0 rfl dX10_make_167 rfl ?_
        refine jm_get (n := 171) X 0 9 1 mW_X10 rfl (by decide) (fun w h => List.mem_cons_of_mem _ (List.mem_append_right _ h)) (List.mem_of_getElem? (i := 4) rfl) rfl dX10_make_168 rfl ?_
        refine jm_iload_n (n := 172) X 1 rfl dX10_make_171 rfl ?_
        refine jm_ast (n := 173) X 1 0 202 mA_202 rfl rfl mT_202 k0 (k0.1 201) hx1 dX10_make_172 rfl (fun h4 σ5 k5 => ?_)
        refine jm_aload_n (n := 174) X 0 rfl dX10_make_173 rfl ?_
        refine jm_get (n := 177) X 0 9 3 mW_X10 rfl (by decide) (fun w h => List.mem_cons_of_mem _ (List.mem_append_right _ h)) (List.mem_of_getElem? (i := 6) rfl) rfl dX10_make_174 rfl ?_
        refine jm_aload_n (n := 178) X 0 rfl dX10_make_177 rfl ?_
        refine jm_get (n := 181) X 0 9 1 mW_X10 rfl (by decide) (fun w h => List.mem_cons_of_mem _ (List.mem_append_right _ h)) (List.mem_of_getElem? (i := 4) rfl) rfl dX10_make_178 rfl ?_
        refine jm_iload_n (n := 182) X 2 rfl dX10_make_181 rfl ?_
        refine jm_ast (n := 183) X 2 0 203 mA_203 rfl rfl mT_203 k5 (k5.1 201) hx2 dX10_make_182 rfl (fun h6 σ7 k7 => ?_)
        refine jm_aload_n (n := 184) X 0 rfl dX10_make_183 rfl ?_
        refine jm_get (n := 187) X 0 9 4 mW_X10 rfl (by decide) (fun w h => List.mem_cons_of_mem _ (List.mem_append_right _ h)) (List.mem_of_getElem? (i := 7) rfl) rfl dX10_make_184 rfl ?_
        refine jm_aload_n (n := 188) X 0 rfl dX10_make_187 rfl ?_
        refine jm_get (n := 191) X 0 9 1 mW_X10 rfl (by decide) (fun w h => List.mem_cons_of_mem _ (List.mem_append_right _ h)) (List.mem_of_getElem? (i := 4) rfl) rfl dX10_make_188 rfl ?_
        refine jm_iload_n (n := 192) X 3 rfl dX10_make_191 rfl ?_
        refine jm_ast (n := 193) X 3 0 204 mA_204 rfl rfl mT_204 k7 (k7.1 201) hx3 dX10_make_192 rfl (fun h8 σ9 k9 => ?_)
        refine jm_aload_n (n := 194) X 0 rfl dX10_make_193 rfl ?_
        refine jm_get (n := 197) X 0 9 5 mW_X10 rfl (by decide) (fun w h => List.mem_cons_of_mem _ (List.mem_append_right _ h)) (List.mem_of_getElem? (i := 8) rfl) rfl dX10_make_194 rfl ?_
        refine jm_aload_n (n := 198) X 0 rfl dX10_make_197 rfl ?_
        refine jm_get (n := 201) X 0 9 1 mW_X10 rfl (by decide) (fun w h => List.mem_cons_of_mem _ (List.mem_append_right _ h)) (List.mem_of_getElem? (i := 4) rfl) rfl dX10_make_198 rfl ?_
        refine jm_iload (n := 203) X 4 rfl dX10_make_201 rfl ?_
        refine jm_ast (n := 204) X 4 0 205 mA_205 rfl rfl mT_205 k9 (k9.1 201) hx4 dX10_make_203 rfl (fun h10 σ11 k11 => ?_)
        refine jm_aload_n (n := 205) X 0 rfl dX10_make_204 rfl ?_
        refine jm_get (n := 208) X 0 9 6 mW_X10 rfl (by decide) (fun w h => List.mem_cons_of_mem _ (List.mem_append_right _ h)) (List.mem_of_getElem? (i := 2) rfl) rfl dX10_make_205 rfl ?_
        refine jm_aload_n (n := 209) X 0 rfl dX10_make_208 rfl ?_
        refine jm_get (n := 212) X 0 9 1 mW_X10 rfl (by decide) (fun w h => List.mem_cons_of_mem _ (List.mem_append_right _ h)) (List.mem_of_getElem? (i := 4) rfl) rfl dX10_make_209 rfl ?_
        refine jm_iload (n := 214) X 5 rfl dX10_make_212 rfl ?_
        refine jm_ast (n := 215) X 5 0 206 mA_206 rfl rfl mT_206 k11 (k11.1 201) hx5 dX10_make_214 rfl (fun h12 σ13 k13 => ?_)
        refine jm_aload_n (n := 216) X 0 rfl dX10_make_215 rfl ?_
        refine jm_get (n := 219) X 0 9 7 mW_X10 rfl (by decide) (fun w h => List.mem_cons_of_mem _ (List.mem_append_right _ h)) (List.mem_of_getElem? (i := 3) rfl) rfl dX10_make_216 rfl ?_
        refine jm_aload_n (n := 220) X 0 rfl dX10_make_219 rfl ?_
        refine jm_get (n := 223) X 0 9 1 mW_X10 rfl (by decide) (fun w h => List.mem_cons_of_mem _ (List.mem_append_right _ h)) (List.mem_of_getElem? (i := 4) rfl) rfl dX10_make_220 rfl ?_
        refine jm_iload (n := 225) X 6 rfl dX10_make_223 rfl ?_
        refine jm_ast (n := 226) X 6 0 207 mA_207 rfl rfl mT_207 k13 (k13.1 201) hx6 dX10_make_225 rfl (fun h14 σ15 k15 => ?_)
        refine jm_aload_n (n := 227) X 0 rfl dX10_make_226 rfl ?_
        refine jm_get (n := 230) X 0 9 8 mW_X10 rfl (by decide) (fun w h => List.mem_cons_of_mem _ (List.mem_append_right _ h)) (List.mem_of_getElem? (i := 9) rfl) rfl dX10_make_227 rfl ?_
        refine jm_aload_n (n := 231) X 0 rfl dX10_make_230 rfl ?_
        refine jm_get (n := 234) X 0 9 1 mW_X10 rfl (by decide) (fun w h => List.mem_cons_of_mem _ (List.mem_append_right _ h)) (List.mem_of_getElem? (i := 4) rfl) rfl dX10_make_231 rfl ?_
        refine jm_aload_n (n := 235) X 0 rfl dX10_make_234 rfl ?_
        refine jm_iload_n (n := 236) X 1 rfl dX10_make_235 rfl ?_
        refine jm_iload_n (n := 237) X 2 rfl dX10_make_236 rfl ?_
        refine jm_iload_n (n := 238) X 3 rfl dX10_make_237 rfl ?_
        refine jm_iload (n := 240) X 4 rfl dX10_make_238 rfl ?_
        refine jm_callVi (n := 243) (vs := [.int (iI x1), .int (iI x2), .int (iI x3), .int (iI x4)]) (rest := [.int (iI (gI σ15 201)), .ref (h 208)]) X hA (t10_needs l k15 hx1 hx2 hx3 hx4) (cwV 4 X.2.2.2.2.1 gX10_make_X10_needs rfl rfl rfl (by decide +kernel) ⟨Nat.le_of_ble_eq_true rfl, Nat.le_of_ble_eq_true rfl⟩) 0 9 mW_X10 rfl rfl (Nat.le_of_ble_eq_true rfl) dX10_make_240 rfl (fun σ16 r16 k16 h17 => ?_)
        refine jm_ast (n := 244) X 7 0 208 mA_208 rfl rfl mT_208 k16 (k15.1 201) h17 dX10_make_243 rfl (fun h18 σ19 k19 => ?_)
        refine jm_aload_n (n := 245) X 0 rfl dX10_make_244 rfl ?_
        refine jm_dup (n := 246) X dX10_make_245 rfl rfl ?_
        refine jm_get (n := 249) X 0 9 1 mW_X10 rfl (by decide) (fun w h => List.mem_cons_of_mem _ (List.mem_append_right _ h)) (List.mem_of_getElem? (i := 4) rfl) rfl dX10_make_246 rfl ?_
        refine jm_iconst (n := 250) X dX10_make_249 rfl ?_
        refine jm_iadd (n := 251) X dX10_make_250 rfl (fun h20 => ?_)
        refine jm_put (n := 254) X 0 9 1 201 mW_X10 rfl (by decide) (fun w h => List.mem_cons_of_mem _ (List.mem_append_right _ h)) tyX10 tyX10_ok nmX10 (List.mem_of_getElem? (i := 4) rfl) rfl rfl rfl rfl (Nat.le_of_ble_eq_true rfl) mS_201 k19 h20 dX10_make_251 rfl (fun σ21 k21 => ?_)
        refine jm_aload_n (n := 255) X 0 rfl dX10_make_254 rfl ?_
        refine jm_get (n := 258) X 0 9 1 mW_X10 rfl (by decide) (fun w h => List.mem_cons_of_mem _ (List.mem_append_right _ h)) (List.mem_of_getElem? (i := 4) rfl) rfl dX10_make_255 rfl ?_
        refine jm_iconst (n := 259) X dX10_make_258 rfl ?_
        refine jm_isub (n := 260) X dX10_make_259 rfl (fun h22 => ?_)
        exact jm_iret X rfl k21 h22 dX10_make_260
      · refine jm_perm [0] rfl ?_
        exact u10_make_157 X hA σ0  k0 
def b10_make_100 (σ0 : Sg) (x1 : Int) (x2 : Int) (x3 : Int) (x4 : Int) (x5 : Int) (x6 : Int) : Option (Sg × Int) :=
  if x1 = (7 : Int) then (ck (0 ≤ x4 ∧ x4 < 60) <|
  ck (inR ((gA σ0 206 x4) + (1 : Int))) <|
  bd (f10_greater σ0 x5 ((gA σ0 206 x4) + (1 : Int))) fun σ4 r4 =>
  ck (0 ≤ x4 ∧ x4 < 60) <|
  ck (inR (x6 + (gA σ4 207 x4))) <|
  (b10_make_134 σ4 x1 x2 x3 x4 r4 (x6 + (gA σ4 207 x4))))
  else ((b10_make_134 σ0 x1 x2 x3 x4 x5 x6))
set_option maxRecDepth 100000 in
theorem u10_make_100 (X : CX p m meth c cX10_make 7 (some .int) s args wsX10_make RX10 D (mT cI cZ) noE (va_A (mW h cI cZ σz) sz)) (hA : ∀ z : Nat, s.heap.size ≤ z → va_A (mW h cI cZ σz) sz z) (σ0 : Sg) (x1 : Int) (x2 : Int) (x3 : Int) (x4 : Int) (x5 : Int) (x6 : Int) (k0 : ok σ0) (hx1 : inR x1) (hx2 : inR x2) (hx3 : inR x3) (hx4 : inR x4) (hx5 : inR x5) (hx6 : inR x6) : JI l rm10_make (mW h cI cZ) D (mT cI cZ) σz sz 7 p e s m args below meth c σ0 100 [(0, .ref (h 299)), (1, .int (iI x1)), (2, .int (iI x2)), (3, .int (iI x3)), (4, .int (iI x4)), (5, .int (iI x5)), (6, .int (iI x6))] [] (b10_make_100 σ0 x1 x2 x3 x4 x5 x6) := by
  rw [b10_make_100]
  refine jm_iload_n (n := 101) X 1 rfl dX10_make_100 rfl ?_
  refine jm_bipush (n := 103) X dX10_make_101 (by decide) rfl ?_
  refine jm_icmp_ne (n := 106) (tgt := 134) X dX10_make_103 (by decide) hx1 (by decide) rfl (fun c1 => ?_) (fun c1 => ?_)
  · refine jm_iload (n := 108) X 5 rfl dX10_make_106 rfl ?_
    refine jm_aload_n (n := 109) X 0 rfl dX10_make_108 rfl ?_
    refine jm_get (n := 112) X 0 9 6 mW_X10 rfl (by decide) (fun w h => List.mem_cons_of_mem _ (List.mem_append_right _ h)) (List.mem_of_getElem? (i := 2) rfl) rfl dX10_make_109 rfl ?_
    refine jm_iload (n := 114) X 4 rfl dX10_make_112 rfl ?_
    refine jm_ald (n := 115) X 5 0 206 mA_206 rfl rfl hx4 dX10_make_114 rfl (fun h2 => ?_)
    refine jm_iconst (n := 116) X dX10_make_115 rfl ?_
    refine jm_iadd (n := 117) X dX10_make_116 rfl (fun h3 => ?_)
    refine jm_callSi (n := 120) (vs := [.int (iI x5), .int (iI ((gA σ0 206 x4) + (1 : Int)))]) (rest := []) X hA (t10_greater l k0 hx5 h3) (va_cwS 2 X.2.2.2.2.1 gX10_make_X10_greater rfl rfl rfl (by decide +kernel) ⟨Nat.le_of_ble_eq_true rfl, Nat.le_of_ble_eq_true rfl⟩) rfl (Nat.le_of_ble_eq_true rfl) dX10_make_117 rfl (fun σ4 r4 k4 h5 => ?_)
    refine jm_istore (n := 122) (lv' := [(5, .int (iI r4)), (0, .ref (h 299)), (1, .int (iI x1)), (2, .int (iI x2)), (3, .int (iI x3)), (4, .int (iI x4)), (6, .int (iI x6))]) X dX10_make_120 (by decide) rfl rfl ?_
    refine jm_iload (n := 124) X 6 rfl dX10_make_122 rfl ?_
    refine jm_aload_n (n := 125) X 1 rfl dX10_make_124 rfl ?_
    refine jm_get (n := 128) X 0 9 7 mW_X10 rfl (by decide) (fun w h => List.mem_cons_of_mem _ (List.mem_append_right _ h)) (List.mem_of_getElem? (i := 3) rfl) rfl dX10_make_125 rfl ?_
    refine jm_iload (n := 130) X 5 rfl dX10_make_128 rfl ?_
    refine jm_ald (n := 131) X 6 0 207 mA_207 rfl rfl hx4 dX10_make_130 rfl (fun h6 => ?_)
    refine jm_iadd (n := 132) X dX10_make_131 rfl (fun h7 => ?_)
    refine jm_istore (n := 134) (lv' := [(6, .int (iI (x6 + (gA σ4 207 x4)))), (5, .int (iI r4)), (0, .ref (h 299)), (1, .int (iI x1)), (2, .int (iI x2)), (3, .int (iI x3)), (4, .int (iI x4))]) X dX10_make_132 (by decide) rfl rfl ?_
    refine jm_perm [2, 3, 4, 5, 6, 1, 0] rfl ?_
    exact u10_make_134 X hA σ4 x1 x2 x3 x4 r4 (x6 + (gA σ4 207 x4)) k4 hx1 hx2 hx3 hx4 h5 h7
  · refine jm_perm [0, 1, 2, 3, 4, 5, 6] rfl ?_
    exact u10_make_134 X hA σ0 x1 x2 x3 x4 x5 x6 k0 hx1 hx2 hx3 hx4 hx5 hx6
def b10_make_67 (σ0 : Sg) (x1 : Int) (x2 : Int) (x3 : Int) (x4 : Int) (x5 : Int) (x6 : Int) : Option (Sg × Int) :=
  bd (f10_hasB σ0 x1) fun σ1 r1 =>
  if r1 = 0 then ((b10_make_100 σ1 x1 x2 x3 x4 x5 x6))
  else (ck (0 ≤ x3 ∧ x3 < 60) <|
  ck (inR ((gA σ1 206 x3) + (1 : Int))) <|
  bd (f10_greater σ1 x5 ((gA σ1 206 x3) + (1 : Int))) fun σ6 r6 =>
  ck (0 ≤ x3 ∧ x3 < 60) <|
  ck (inR (x6 + (gA σ6 207 x3))) <|
  (b10_make_100 σ6 x1 x2 x3 x4 r6 (x6 + (gA σ6 207 x3))))
set_option maxRecDepth 100000 in
theorem u10_make_67 (X : CX p m meth c cX10_make 7 (some .int) s args wsX10_make RX10 D (mT cI cZ) noE (va_A (mW h cI cZ σz) sz)) (hA : ∀ z : Nat, s.heap.size ≤ z → va_A (mW h cI cZ σz) sz z) (σ0 : Sg) (x1 : Int) (x2 : Int) (x3 : Int) (x4 : Int) (x5 : Int) (x6 : Int) (k0 : ok σ0) (hx1 : inR x1) (hx2 : inR x2) (hx3 : inR x3) (hx4 : inR x4) (hx5 : inR x5) (hx6 : inR x6) : JI l rm10_make (mW h cI cZ) D (mT cI cZ) σz sz 7 p e s m args below meth c σ0 67 [(0, .ref (h 299)), (1, .int (iI x1)), (2, .int (iI x2)), (3, .int (iI x3)), (4, .int (iI x4)), (5, .int (iI x5)), (6, .int (iI x6))] [] (b10_make_67 σ0 x1 x2 x3 x4 x5 x6) := by
  rw [b10_make_67]
  refine jm_iload_n (n := 68) X 1 rfl dX10_make_67 rfl ?_
  refine jm_callSi (n := 71) (vs := [.int (iI x1)]) (rest := []) X hA (t10_hasB l k0 hx1) (va_cwS 1 X.2.2.2.2.1 gX10_make_X10_hasB rfl rfl rfl (by decide +kernel) ⟨Nat.le_of_ble_eq_true rfl, Nat.le_of_ble_eq_true rfl⟩) rfl (Nat.le_of_ble_eq_true rfl) dX10_make_68 rfl (fun σ1 r1 k1 h2 => ?_)
  refine jm_if_eq (n := 74) (tgt := 100) X dX10_make_71 (by decide) h2 rfl (fun c3 => ?_) (fun c3 => ?_)
  · refine jm_perm [0, 1, 2, 3, 4, 5, 6] rfl ?_
    exact u10_make_100 X hA σ1 x1 x2 x3 x4 x5 x6 k1 hx1 hx2 hx3 hx4 hx5 hx6
  · refine jm_iload (n := 76) X 5 rfl dX10_make_74 rfl ?_
    refine jm_aload_n (n := 77) X 0 rfl dX10_make_76 rfl ?_
    refine jm_get (n := 80) X 0 9 6 mW_X10 rfl (by decide) (fun w h => List.mem_cons_of_mem _ (List.mem_append_right _ h)) (List.mem_of_getElem? (i := 2) rfl) rfl dX10_make_77 rfl ?_
    refine jm_iload_n (n := 81) X 3 rfl dX10_make_80 rfl ?_
    refine jm_ald (n := 82) X 5 0 206 mA_206 rfl rfl hx3 dX10_make_81 rfl (fun h4 => ?_)
    refine jm_iconst (n := 83) X dX10_make_82 rfl ?_
    refine jm_iadd (n := 84) X dX10_make_83 rfl (fun h5 => ?_)
    refine jm_callSi (n := 87) (vs := [.int (iI x5), .int (iI ((gA σ1 206 x3) + (1 : Int)))]) (rest := []) X hA (t10_greater l k1 hx5 h5) (va_cwS 2 X.2.2.2.2.1 gX10_make_X10_greater rfl rfl rfl (by decide +kernel) ⟨Nat.le_of_ble_eq_true rfl, Nat.le_of_ble_eq_true rfl⟩) rfl (Nat.le_of_ble_eq_true rfl) dX10_make_84 rfl (fun σ6 r6 k6 h7 => ?_)
    refine jm_istore (n := 89) (lv' := [(5, .int (iI r6)), (0, .ref (h 299)), (1, .int (iI x1)), (2, .int (iI x2)), (3, .int (iI x3)), (4, .int (iI x4)), (6, .int (iI x6))]) X dX10_make_87 (by decide) rfl rfl ?_
    refine jm_iload (n := 91) X 6 rfl dX10_make_89 rfl ?_
    refine jm_aload_n (n := 92) X 1 rfl dX10_make_91 rfl ?_
    refine jm_get (n := 95) X 0 9 7 mW_X10 rfl (by decide) (fun w h => List.mem_cons_of_mem _ (List.mem_append_right _ h)) (List.mem_of_getElem? (i := 3) rfl) rfl dX10_make_92 rfl ?_
    refine jm_iload_n (n := 96) X 4 rfl dX10_make_95 rfl ?_
    refine jm_ald (n := 97) X 6 0 207 mA_207 rfl rfl hx3 dX10_make_96 rfl (fun h8 => ?_)
    refine jm_iadd (n := 98) X dX10_make_97 rfl (fun h9 => ?_)
    refine jm_istore (n := 100) (lv' := [(6, .int (iI (x6 + (gA σ6 207 x3)))), (5, .int (iI r6)), (0, .ref (h 299)), (1, .int (iI x1)), (2, .int (iI x2)), (3, .int (iI x3)), (4, .int (iI x4))]) X dX10_make_98 (by decide) rfl rfl ?_
    refine jm_perm [2, 3, 4, 5, 6, 1, 0] rfl ?_
    exact u10_make_100 X hA σ6 x1 x2 x3 x4 r6 (x6 + (gA σ6 207 x3)) k6 hx1 hx2 hx3 hx4 h7 h9
def f10_make (σ0 : Sg) (x1 : Int) (x2 : Int) (x3 : Int) (x4 : Int) : Option (Sg × Int) :=
  nx (sI σ0 200 (0 : Int)) fun σ1 =>
  bd (f10_in σ1 x1 (0 : Int) (11 : Int)) fun σ2 r2 =>
  if r2 = 0 then ((b10_make_27 σ2 ))
  else (bd (f10_fits σ2 x1 x2 x3 x4) fun σ5 r5 =>
  if r5 = 0 then ((b10_make_27 σ5 ))
  else (bd (f10_hasA σ5 x1) fun σ8 r8 =>
  if r8 = 0 then ((b10_make_67 σ8 x1 x2 x3 x4 (1 : Int) (1 : Int)))
  else (ck (0 ≤ x2 ∧ x2 < 60) <|
  ck (inR ((gA σ8 206 x2) + (1 : Int))) <|
  ck (0 ≤ x2 ∧ x2 < 60) <|
  ck (inR ((1 : Int) + (gA σ8 207 x2))) <|
  (b10_make_67 σ8 x1 x2 x3 x4 ((gA σ8 206 x2) + (1 : Int)) ((1 : Int) + (gA σ8 207 x2))))))
set_option maxRecDepth 100000 in
theorem t10_make (l : Launch) {h : Nat → Nat} {cI cZ : ClassId} {D : va_G} {σ0 : Sg} {x1 : Int} {x2 : Int} {x3 : Int} {x4 : Int} (k0 : ok σ0) (hx1 : inR x1) (hx2 : inR x2) (hx3 : inR x3) (hx4 : inR x4) : ctI noE l (mW h cI cZ) D (mT cI cZ) yX10_make wsX10_make rm10_make [.ref (h 299), .int (iI x1), .int (iI x2), .int (iI x3), .int (iI x4)] σ0 (f10_make σ0 x1 x2 x3 x4) := by
  refine of_I noE_ok (own := RX10) (lv := [(0, .ref (h 299)), (1, .int (iI x1)), (2, .int (iI x2)), (3, .int (iI x3)), (4, .int (iI x4))]) (by decide) rfl rfl (Nat.le_of_ble_eq_true rfl) rfl (fun p e s m below meth c sz X hA => ?_)
  rw [f10_make]
  refine jm_aload_n (n := 1) X 0 rfl dX10_make_0 rfl ?_
  refine jm_iconst (n := 2) X dX10_make_1 rfl ?_
  refine jm_put (n := 5) X 0 9 0 200 mW_X10 rfl (by decide) (fun w h => List.mem_cons_of_mem _ (List.mem_append_right _ h)) tyX10 tyX10_ok nmX10 (List.mem_of_getElem? (i := 1) rfl) rfl rfl rfl rfl (Nat.le_of_ble_eq_true rfl) mS_200 k0 (by decide) dX10_make_2 rfl (fun σ1 k1 => ?_)
  refine jm_iload_n (n := 6) X 1 rfl dX10_make_5 rfl ?_
  refine jm_iconst (n := 7) X dX10_make_6 rfl ?_
  refine jm_bipush (n := 9) X dX10_make_7 (by decide) rfl ?_
  refine jm_callSi (n := 12) (vs := [.int (iI x1), .int (iI (0 : Int)), .int (iI (11 : Int))]) (rest := []) X hA (t10_in l k1 hx1 (by decide) (by decide)) (va_cwS 3 X.2.2.2.2.1 gX10_make_X10_in rfl rfl rfl (by decide +kernel) ⟨Nat.le_of_ble_eq_true rfl, Nat.le_of_ble_eq_true rfl⟩) rfl (Nat.le_of_ble_eq_true rfl) dX10_make_9 rfl (fun σ2 r2 k2 h3 => ?_)
  refine jm_if_eq (n := 15) (tgt := 27) X dX10_make_12 (by decide) h3 rfl (fun c4 => ?_) (fun c4 => ?_)
  · refine jm_perm [0] rfl ?_
    exact u10_make_27 X hA σ2  k2 
  · refine jm_aload_n (n := 16) X 0 rfl dX10_make_15 rfl ?_
    refine jm_iload_n (n := 17) X 1 rfl dX10_make_16 rfl ?_
    refine jm_iload_n (n := 18) X 2 rfl dX10_make_17 rfl ?_
    refine jm_iload_n (n := 19) X 3 rfl dX10_make_18 rfl ?_
    refine jm_iload (n := 21) X 4 rfl dX10_make_19 rfl ?_
    refine jm_callVi (n := 24) (vs := [.int (iI x1), .int (iI x2), .int (iI x3), .int (iI x4)]) (rest := []) X hA (t10_fits l k2 hx1 hx2 hx3 hx4) (cwV 4 X.2.2.2.2.1 gX10_make_X10_fits rfl rfl rfl (by decide +kernel) ⟨Nat.le_of_ble_eq_true rfl, Nat.le_of_ble_eq_true rfl⟩) 0 9 mW_X10 rfl rfl (Nat.le_of_ble_eq_true rfl) dX10_make_21 rfl (fun σ5 r5 k5 h6 => ?_)
    refine jm_if_ne (n := 27) (tgt := 33) X dX10_make_24 (by decide) h6 rfl (fun c7 => ?_) (fun c7 => ?_)
    · refine jm_perm [0] rfl ?_
      exact u10_make_27 X hA σ5  k5 
    · refine jm_iconst (n := 34) X dX10_make_33 rfl ?_
      refine jm_istore (n := 36) (lv' := [(5, .int (iI (1 : Int))), (0, .ref (h 299)), (1, .int (iI x1)), (2, .int (iI x2)), (3, .int (iI x3)), (4, .int (iI x4))]) X dX10_make_34 (by decide) rfl rfl ?_
      refine jm_iconst (n := 37) X dX10_make_36 rfl ?_
      refine jm_istore (n := 39) (lv' := [(6, .int (iI (1 : Int))), (5, .int (iI (1 : Int))), (0, .ref (h 299)), (1, .int (iI x1)), (2, .int (iI x2)), (3, .int (iI x3)), (4, .int (iI x4))]) X dX10_make_37 (by decide) rfl rfl ?_
      refine jm_iload_n (n := 40) X 3 rfl dX10_make_39 rfl ?_
      refine jm_callSi (n := 43) (vs := [.int (iI x1)]) (rest := []) X hA (t10_hasA l k5 hx1) (va_cwS 1 X.2.2.2.2.1 gX10_make_X10_hasA rfl rfl rfl (by decide +kernel) ⟨Nat.le_of_ble_eq_true rfl, Nat.le_of_ble_eq_true rfl⟩) rfl (Nat.le_of_ble_eq_true rfl) dX10_make_40 rfl (fun σ8 r8 k8 h9 => ?_)
      refine jm_if_eq (n := 46) (tgt := 67) X dX10_make_43 (by decide) h9 rfl (fun c10 => ?_) (fun c10 => ?_)
      · refine jm_perm [2, 3, 4, 5, 6, 1, 0] rfl ?_
        exact u10_make_67 X hA σ8 x1 x2 x3 x4 (1 : Int) (1 : Int) k8 hx1 hx2 hx3 hx4 (by decide) (by decide)
      · refine jm_aload_n (n := 47) X 2 rfl dX10_make_46 rfl ?_
        refine jm_get (n := 50) X 0 9 6 mW_X10 rfl (by decide) (fun w h => List.mem_cons_of_mem _ (List.mem_append_right _ h)) (List.mem_of_getElem? (i := 2) rfl) rfl dX10_make_47 rfl ?_
        refine jm_iload_n (n := 51) X 4 rfl dX10_make_50 rfl ?_
        refine jm_ald (n := 52) X 5 0 206 mA_206 rfl rfl hx2 dX10_make_51 rfl (fun h11 => ?_)
        refine jm_iconst (n := 53) X dX10_make_52 rfl ?_
        refine jm_iadd (n := 54) X dX10_make_53 rfl (fun h12 => ?_)
        refine jm_istore (n := 56) (lv' := [(5, .int (iI ((gA σ8 206 x2) + (1 : Int)))), (6, .int (iI (1 : Int))), (0, .ref (h 299)), (1, .int (iI x1)), (2, .int (iI x2)), (3, .int (iI x3)), (4, .int (iI x4))]) X dX10_make_54 (by decide) rfl rfl ?_
        refine jm_iload (n := 58) X 1 rfl dX10_make_56 rfl ?_
        refine jm_aload_n (n := 59) X 2 rfl dX10_make_58 rfl ?_
        refine jm_get (n := 62) X 0 9 7 mW_X10 rfl (by decide) (fun w h => List.mem_cons_of_mem _ (List.mem_append_right _ h)) (List.mem_of_getElem? (i := 3) rfl) rfl dX10_make_59 rfl ?_
        refine jm_iload_n (n := 63) X 4 rfl dX10_make_62 rfl ?_
        refine jm_ald (n := 64) X 6 0 207 mA_207 rfl rfl hx2 dX10_make_63 rfl (fun h13 => ?_)
        refine jm_iadd (n := 65) X dX10_make_64 rfl (fun h14 => ?_)
        refine jm_istore (n := 67) (lv' := [(6, .int (iI ((1 : Int) + (gA σ8 207 x2)))), (5, .int (iI ((gA σ8 206 x2) + (1 : Int)))), (0, .ref (h 299)), (1, .int (iI x1)), (2, .int (iI x2)), (3, .int (iI x3)), (4, .int (iI x4))]) X dX10_make_65 (by decide) rfl rfl ?_
        refine jm_perm [2, 3, 4, 5, 6, 1, 0] rfl ?_
        exact u10_make_67 X hA σ8 x1 x2 x3 x4 ((gA σ8 206 x2) + (1 : Int)) ((1 : Int) + (gA σ8 207 x2)) k8 hx1 hx2 hx3 hx4 h12 h14
abbrev rm10_open : Room := { frames := 2, cells := 0, slots := 0, locals := 43 }
def b10_open_14 (σ0 : Sg) (x1 : Int) (y1 : Int) : Option (Sg × Int) :=
  nx (sI σ0 200 y1) fun σ1 =>
  if (gI σ1 200) ≤ 0 then (ck (0 ≤ x1 ∧ x1 < 60) <|
  some (σ1, (gA σ1 208 x1)))
  else (some (σ1, (0 : Int)))
set_option maxRecDepth 100000 in
theorem u10_open_14 (X : CX p m meth c cX10_open 2 (some .int) s args wsX10_open RX10 D (mT cI cZ) noE (va_A (mW h cI cZ σz) sz)) (hA : ∀ z : Nat, s.heap.size ≤ z → va_A (mW h cI cZ σz) sz z) (σ0 : Sg) (x1 : Int) (y1 : Int) (k0 : ok σ0) (hx1 : inR x1) (hy1 : inR y1) : JI l rm10_open (mW h cI cZ) D (mT cI cZ) σz sz 2 p e s m args below meth c σ0 14 [(0, .ref (h 299)), (1, .int (iI x1))] [.int (iI y1), .ref (h 299)] (b10_open_14 σ0 x1 y1) := by
  rw [b10_open_14]
  refine jm_put (n := 17) X 0 9 0 200 mW_X10 rfl (by decide) (fun w h => List.mem_cons_of_mem _ (List.mem_append_right _ h)) tyX10 tyX10_ok nmX10 (List.mem_of_getElem? (i := 1) rfl) rfl rfl rfl rfl (Nat.le_of_ble_eq_true rfl) mS_200 k0 hy1 dX10_open_14 rfl (fun σ1 k1 => ?_)
  refine jm_aload_n (n := 18) X 0 rfl dX10_open_17 rfl ?_
  refine jm_get (n := 21) X 0 9 0 mW_X10 rfl (by decide) (fun w h => List.mem_cons_of_mem _ (List.mem_append_right _ h)) (List.mem_of_getElem? (i := 1) rfl) rfl dX10_open_18 rfl ?_
  refine jm_if_le (n := 24) (tgt := 28) X dX10_open_21 (by decide) (k1.1 200) rfl (fun c2 => ?_) (fun c2 => ?_)
  · refine jm_aload_n (n := 29) X 0 rfl dX10_open_28 rfl ?_
    refine jm_get (n := 32) X 0 9 8 mW_X10 rfl (by decide) (fun w h => List.mem_cons_of_mem _ (List.mem_append_right _ h)) (List.mem_of_getElem? (i := 2) rfl) rfl dX10_open_29 rfl ?_
    refine jm_iload_n (n := 33) X 1 rfl dX10_open_32 rfl ?_
    refine jm_ald (n := 34) X 7 0 208 mA_208 rfl rfl hx1 dX10_open_33 rfl (fun h3 => ?_)
    exact jm_iret X rfl k1 (k1.2 208 _) dX10_open_34
  · refine jm_iconst (n := 25) X dX10_open_24 rfl ?_
    refine jm_goto (n := 34) X dX10_open_25 (by decide) ?_
    exact jm_iret X rfl k1 (by decide) dX10_open_34
def f10_open (σ0 : Sg) (x1 : Int) : Option (Sg × Int) :=
  bd (f10_isTerm σ0 x1) fun σ1 r1 =>
  if r1 = 0 then ((b10_open_14 σ1 x1 (1 : Int)))
  else ((b10_open_14 σ1 x1 (0 : Int)))
set_option maxRecDepth 100000 in
theorem t10_open (l : Launch) {h : Nat → Nat} {cI cZ : ClassId} {D : va_G} {σ0 : Sg} {x1 : Int} (k0 : ok σ0) (hx1 : inR x1) : ctI noE l (mW h cI cZ) D (mT cI cZ) yX10_open wsX10_open rm10_open [.ref (h 299), .int (iI x1)] σ0 (f10_open σ0 x1) := by
  refine of_I noE_ok (own := RX10) (lv := [(0, .ref (h 299)), (1, .int (iI x1))]) (by decide) rfl rfl (Nat.le_of_ble_eq_true rfl) rfl (fun p e s m below meth c sz X hA => ?_)
  rw [f10_open]
  refine jm_aload_n (n := 1) X 0 rfl dX10_open_0 rfl ?_
  refine jm_aload_n (n := 2) X 0 rfl dX10_open_1 rfl ?_
  refine jm_iload_n (n := 3) X 1 rfl dX10_open_2 rfl ?_
  refine jm_callVi (n := 6) (vs := [.int (iI x1)]) (rest := [.ref (h 299)]) X hA (t10_isTerm l k0 hx1) (cwV 1 X.2.2.2.2.1 gX10_open_X10_isTerm rfl rfl rfl (by decide +kernel) ⟨Nat.le_of_ble_eq_true rfl, Nat.le_of_ble_eq_true rfl⟩) 0 9 mW_X10 rfl rfl (Nat.le_of_ble_eq_true rfl) dX10_open_3 rfl (fun σ1 r1 k1 h2 => ?_)
  refine jm_if_eq (n := 9) (tgt := 13) X dX10_open_6 (by decide) h2 rfl (fun c3 => ?_) (fun c3 => ?_)
  · refine jm_iconst (n := 14) X dX10_open_13 rfl ?_
    refine jm_perm [0, 1] rfl ?_
    exact u10_open_14 X hA σ1 x1 (1 : Int) k1 hx1 (by decide)
  · refine jm_iconst (n := 10) X dX10_open_9 rfl ?_
    refine jm_goto (n := 14) X dX10_open_10 (by decide) ?_
    refine jm_perm [0, 1] rfl ?_
    exact u10_open_14 X hA σ1 x1 (0 : Int) k1 hx1 (by decide)
abbrev rm10_bind : Room := { frames := 0, cells := 0, slots := 0, locals := 0 }
def f10_bind (σ0 : Sg) (x1 : Int) (x2 : Int) (x3 : Int) : Option (Sg × Int) :=
  ck (inR ((gI σ0 209) + (1 : Int))) <|
  nx (sI σ0 209 ((gI σ0 209) + (1 : Int))) fun σ2 =>
  ck (0 ≤ (gI σ2 209) ∧ (gI σ2 209) < 320) <| nx (sA σ2 210 (gI σ2 209) x1) fun σ4 =>
  ck (0 ≤ (gI σ4 209) ∧ (gI σ4 209) < 320) <| nx (sA σ4 211 (gI σ4 209) x2) fun σ6 =>
  ck (0 ≤ (gI σ6 209) ∧ (gI σ6 209) < 320) <| nx (sA σ6 212 (gI σ6 209) x3) fun σ8 =>
  some (σ8, (gI σ8 209))
set_option maxRecDepth 100000 in
theorem t10_bind (l : Launch) {h : Nat → Nat} {cI cZ : ClassId} {D : va_G} {σ0 : Sg} {x1 : Int} {x2 : Int} {x3 : Int} (k0 : ok σ0) (hx1 : inR x1) (hx2 : inR x2) (hx3 : inR x3) : ctI noE l (mW h cI cZ) D (mT cI cZ) yX10_bind wsX10_bind rm10_bind [.ref (h 299), .int (iI x1), .int (iI x2), .int (iI x3)] σ0 (f10_bind σ0 x1 x2 x3) := by
  refine of_I noE_ok (own := RX10) (lv := [(0, .ref (h 299)), (1, .int (iI x1)), (2, .int (iI x2)), (3, .int (iI x3))]) (by decide) rfl rfl (Nat.le_of_ble_eq_true rfl) rfl (fun p e s m below meth c sz X hA => ?_)
  rw [f10_bind]
  refine jm_aload_n (n := 1) X 0 rfl dX10_bind_0 rfl ?_
  refine jm_dup (n := 2) X dX10_bind_1 rfl rfl ?_
  refine jm_get (n := 5) X 0 9 9 mW_X10 rfl (by decide) (fun w h => List.mem_cons_of_mem _ (List.mem_append_right _ h)) (List.mem_of_getElem? (i := 1) rfl) rfl dX10_bind_2 rfl ?_
  refine jm_iconst (n := 6) X dX10_bind_5 rfl ?_
  refine jm_iadd (n := 7) X dX10_bind_6 rfl (fun h1 => ?_)
  refine jm_put (n := 10) X 0 9 9 209 mW_X10 rfl (by decide) (fun w h => List.mem_cons_of_mem _ (List.mem_append_right _ h)) tyX10 tyX10_ok nmX10 (List.mem_of_getElem? (i := 1) rfl) rfl rfl rfl rfl (Nat.le_of_ble_eq_true rfl) mS_209 k0 h1 dX10_bind_7 rfl (fun σ2 k2 => ?_)
  refine jm_aload_n (n := 11) X 0 rfl dX10_bind_10 rfl ?_
  refine jm_get (n := 14) X 0 9 10 mW_X10 rfl (by decide) (fun w h => List.mem_cons_of_mem _ (List.mem_append_right _ h)) (List.mem_of_getElem? (i := 2) rfl) rfl dX10_bind_11 rfl ?_
  refine jm_aload_n (n := 15) X 0 rfl dX10_bind_14 rfl ?_
  refine jm_get (n := 18) X 0 9 9 mW_X10 rfl (by decide) (fun w h => List.mem_cons_of_mem _ (List.mem_append_right _ h)) (List.mem_of_getElem? (i := 1) rfl) rfl dX10_bind_15 rfl ?_
  refine jm_iload_n (n := 19) X 1 rfl dX10_bind_18 rfl ?_
  refine jm_ast (n := 20) X 8 0 210 mA_210 rfl rfl mT_210 k2 (k2.1 209) hx1 dX10_bind_19 rfl (fun h3 σ4 k4 => ?_)
  refine jm_aload_n (n := 21) X 0 rfl dX10_bind_20 rfl ?_
  refine jm_get (n := 24) X 0 9 11 mW_X10 rfl (by decide) (fun w h => List.mem_cons_of_mem _ (List.mem_append_right _ h)) (List.mem_of_getElem? (i := 3) rfl) rfl dX10_bind_21 rfl ?_
  refine jm_aload_n (n := 25) X 0 rfl dX10_bind_24 rfl ?_
  refine jm_get (n := 28) X 0 9 9 mW_X10 rfl (by decide) (fun w h => List.mem_cons_of_mem _ (List.mem_append_right _ h)) (List.mem_of_getElem? (i := 1) rfl) rfl dX10_bind_25 rfl ?_
  refine jm_iload_n (n := 29) X 2 rfl dX10_bind_28 rfl ?_
  refine jm_ast (n := 30) X 9 0 211 mA_211 rfl rfl mT_211 k4 (k4.1 209) hx2 dX10_bind_29 rfl (fun h5 σ6 k6 => ?_)
  refine jm_aload_n (n := 31) X 0 rfl dX10_bind_30 rfl ?_
  refine jm_get (n := 34) X 0 9 12 mW_X10 rfl (by decide) (fun w h => List.mem_cons_of_mem _ (List.mem_append_right _ h)) (List.mem_of_getElem? (i := 4) rfl) rfl dX10_bind_31 rfl ?_
  refine jm_aload_n (n := 35) X 0 rfl dX10_bind_34 rfl ?_
  refine jm_get (n := 38) X 0 9 9 mW_X10 rfl (by decide) (fun w h => List.mem_cons_of_mem _ (List.mem_append_right _ h)) (List.mem_of_getElem? (i := 1) rfl) rfl dX10_bind_35 rfl ?_
  refine jm_iload_n (n := 39) X 3 rfl dX10_bind_38 rfl ?_
  refine jm_ast (n := 40) X 10 0 212 mA_212 rfl rfl mT_212 k6 (k6.1 209) hx3 dX10_bind_39 rfl (fun h7 σ8 k8 => ?_)
  refine jm_aload_n (n := 41) X 0 rfl dX10_bind_40 rfl ?_
  refine jm_get (n := 44) X 0 9 9 mW_X10 rfl (by decide) (fun w h => List.mem_cons_of_mem _ (List.mem_append_right _ h)) (List.mem_of_getElem? (i := 1) rfl) rfl dX10_bind_41 rfl ?_
  exact jm_iret X rfl k8 (k8.1 209) dX10_bind_44
abbrev rm10_then : Room := { frames := 0, cells := 0, slots := 0, locals := 0 }
def f10_then (σ0 : Sg) (x1 : Int) (x2 : Int) (x3 : Int) (x4 : Int) (x5 : Int) : Option (Sg × Int) :=
  ck (inR ((gI σ0 216) + (1 : Int))) <|
  nx (sI σ0 216 ((gI σ0 216) + (1 : Int))) fun σ2 =>
  ck (0 ≤ (gI σ2 216) ∧ (gI σ2 216) < 320) <| nx (sA σ2 217 (gI σ2 216) x1) fun σ4 =>
  ck (0 ≤ (gI σ4 216) ∧ (gI σ4 216) < 320) <| nx (sA σ4 218 (gI σ4 216) x2) fun σ6 =>
  ck (0 ≤ (gI σ6 216) ∧ (gI σ6 216) < 320) <| nx (sA σ6 219 (gI σ6 216) x3) fun σ8 =>
  ck (0 ≤ (gI σ8 216) ∧ (gI σ8 216) < 320) <| nx (sA σ8 220 (gI σ8 216) x4) fun σ10 =>
  ck (0 ≤ (gI σ10 216) ∧ (gI σ10 216) < 320) <| nx (sA σ10 221 (gI σ10 216) x5) fun σ12 =>
  ck (0 ≤ (gI σ12 216) ∧ (gI σ12 216) < 320) <| nx (sA σ12 222 (gI σ12 216) (gI σ12 225)) fun σ14 =>
  nx (sI σ14 225 (gI σ14 216)) fun σ15 =>
  some (σ15, 0)
set_option maxRecDepth 100000 in
theorem t10_then (l : Launch) {h : Nat → Nat} {cI cZ : ClassId} {D : va_G} {σ0 : Sg} {x1 : Int} {x2 : Int} {x3 : Int} {x4 : Int} {x5 : Int} (k0 : ok σ0) (hx1 : inR x1) (hx2 : inR x2) (hx3 : inR x3) (hx4 : inR x4) (hx5 : inR x5) : ctV noE l (mW h cI cZ) D (mT cI cZ) yX10_then wsX10_then rm10_then [.ref (h 299), .int (iI x1), .int (iI x2), .int (iI x3), .int (iI x4), .int (iI x5)] σ0 (f10_then σ0 x1 x2 x3 x4 x5) := by
  refine of_V noE_ok (own := RX10) (lv := [(0, .ref (h 299)), (1, .int (iI x1)), (2, .int (iI x2)), (3, .int (iI x3)), (4, .int (iI x4)), (5, .int (iI x5))]) (by decide) rfl rfl (Nat.le_of_ble_eq_true rfl) rfl (fun p e s m below meth c sz X hA => ?_)
  rw [f10_then]
  refine jm_aload_n (n := 1) X 0 rfl dX10_then_0 rfl ?_
  refine jm_dup (n := 2) X dX10_then_1 rfl rfl ?_
  refine jm_get (n := 5) X 0 9 16 mW_X10 rfl (by decide) (fun w h => List.mem_cons_of_mem _ (List.mem_append_right _ h)) (List.mem_of_getElem? (i := 1) rfl) rfl dX10_then_2 rfl ?_
  refine jm_iconst (n := 6) X dX10_then_5 rfl ?_
  refine jm_iadd (n := 7) X dX10_then_6 rfl (fun h1 => ?_)
  refine jm_put (n := 10) X 0 9 16 216 mW_X10 rfl (by decide) (fun w h => List.mem_cons_of_mem _ (List.mem_append_right _ h)) tyX10 tyX10_ok nmX10 (List.mem_of_getElem? (i := 1) rfl) rfl rfl rfl rfl (Nat.le_of_ble_eq_true rfl) mS_216 k0 h1 dX10_then_7 rfl (fun σ2 k2 => ?_)
  refine jm_aload_n (n := 11) X 0 rfl dX10_then_10 rfl ?_
  refine jm_get (n := 14) X 0 9 17 mW_X10 rfl (by decide) (fun w h => List.mem_cons_of_mem _ (List.mem_append_right _ h)) (List.mem_of_getElem? (i := 2) rfl) rfl dX10_then_11 rfl ?_
  refine jm_aload_n (n := 15) X 0 rfl dX10_then_14 rfl ?_
  refine jm_get (n := 18) X 0 9 16 mW_X10 rfl (by decide) (fun w h => List.mem_cons_of_mem _ (List.mem_append_right _ h)) (List.mem_of_getElem? (i := 1) rfl) rfl dX10_then_15 rfl ?_
  refine jm_iload_n (n := 19) X 1 rfl dX10_then_18 rfl ?_
  refine jm_ast (n := 20) X 13 0 217 mA_217 rfl rfl mT_217 k2 (k2.1 216) hx1 dX10_then_19 rfl (fun h3 σ4 k4 => ?_)
  refine jm_aload_n (n := 21) X 0 rfl dX10_then_20 rfl ?_
  refine jm_get (n := 24) X 0 9 18 mW_X10 rfl (by decide) (fun w h => List.mem_cons_of_mem _ (List.mem_append_right _ h)) (List.mem_of_getElem? (i := 3) rfl) rfl dX10_then_21 rfl ?_
  refine jm_aload_n (n := 25) X 0 rfl dX10_then_24 rfl ?_
  refine jm_get (n := 28) X 0 9 16 mW_X10 rfl (by decide) (fun w h => List.mem_cons_of_mem _ (List.mem_append_right _ h)) (List.mem_of_getElem? (i := 1) rfl) rfl dX10_then_25 rfl ?_
  refine jm_iload_n (n := 29) X 2 rfl dX10_then_28 rfl ?_
  refine jm_ast (n := 30) X 14 0 218 mA_218 rfl rfl mT_218 k4 (k4.1 216) hx2 dX10_then_29 rfl (fun h5 σ6 k6 => ?_)
  refine jm_aload_n (n := 31) X 0 rfl dX10_then_30 rfl ?_
  refine jm_get (n := 34) X 0 9 19 mW_X10 rfl (by decide) (fun w h => List.mem_cons_of_mem _ (List.mem_append_right _ h)) (List.mem_of_getElem? (i := 4) rfl) rfl dX10_then_31 rfl ?_
  refine jm_aload_n (n := 35) X 0 rfl dX10_then_34 rfl ?_
  refine jm_get (n := 38) X 0 9 16 mW_X10 rfl (by decide) (fun w h => List.mem_cons_of_mem _ (List.mem_append_right _ h)) (List.mem_of_getElem? (i := 1) rfl) rfl dX10_then_35 rfl ?_
  refine jm_iload_n (n := 39) X 3 rfl dX10_then_38 rfl ?_
  refine jm_ast (n := 40) X 15 0 219 mA_219 rfl rfl mT_219 k6 (k6.1 216) hx3 dX10_then_39 rfl (fun h7 σ8 k8 => ?_)
  refine jm_aload_n (n := 41) X 0 rfl dX10_then_40 rfl ?_
  refine jm_get (n := 44) X 0 9 20 mW_X10 rfl (by decide) (fun w h => List.mem_cons_of_mem _ (List.mem_append_right _ h)) (List.mem_of_getElem? (i := 5) rfl) rfl dX10_then_41 rfl ?_
  refine jm_aload_n (n := 45) X 0 rfl dX10_then_44 rfl ?_
  refine jm_get (n := 48) X 0 9 16 mW_X10 rfl (by decide) (fun w h => List.mem_cons_of_mem _ (List.mem_append_right _ h)) (List.mem_of_getElem? (i := 1) rfl) rfl dX10_then_45 rfl ?_
  refine jm_iload (n := 50) X 4 rfl dX10_then_48 rfl ?_
  refine jm_ast (n := 51) X 16 0 220 mA_220 rfl rfl mT_220 k8 (k8.1 216) hx4 dX10_then_50 rfl (fun h9 σ10 k10 => ?_)
  refine jm_aload_n (n := 52) X 0 rfl dX10_then_51 rfl ?_
  refine jm_get (n := 55) X 0 9 21 mW_X10 rfl (by decide) (fun w h => List.mem_cons_of_mem _ (List.mem_append_right _ h)) (List.mem_of_getElem? (i := 6) rfl) rfl dX10_then_52 rfl ?_
  refine jm_aload_n (n := 56) X 0 rfl dX10_then_55 rfl ?_
  refine jm_get (n := 59) X 0 9 16 mW_X10 rfl (by decide) (fun w h => List.mem_cons_of_mem _ (List.mem_append_right _ h)) (List.mem_of_getElem? (i := 1) rfl) rfl dX10_then_56 rfl ?_
  refine jm_iload (n := 61) X 5 rfl dX10_then_59 rfl ?_
  refine jm_ast (n := 62) X 17 0 221 mA_221 rfl rfl mT_221 k10 (k10.1 216) hx5 dX10_then_61 rfl (fun h11 σ12 k12 => ?_)
  refine jm_aload_n (n := 63) X 0 rfl dX10_then_62 rfl ?_
  refine jm_get (n := 66) X 0 9 22 mW_X10 rfl (by decide) (fun w h => List.mem_cons_of_mem _ (List.mem_append_right _ h)) (List.mem_of_getElem? (i := 7) rfl) rfl dX10_then_63 rfl ?_
  refine jm_aload_n (n := 67) X 0 rfl dX10_then_66 rfl ?_
  refine jm_get (n := 70) X 0 9 16 mW_X10 rfl (by decide) (fun w h => List.mem_cons_of_mem _ (List.mem_append_right _ h)) (List.mem_of_getElem? (i := 1) rfl) rfl dX10_then_67 rfl ?_
  refine jm_aload_n (n := 71) X 0 rfl dX10_then_70 rfl ?_
  refine jm_get (n := 74) X 0 9 25 mW_X10 rfl (by decide) (fun w h => List.mem_cons_of_mem _ (List.mem_append_right _ h)) (List.mem_of_getElem? (i := 8) rfl) rfl dX10_then_71 rfl ?_
  refine jm_ast (n := 75) X 18 0 222 mA_222 rfl rfl mT_222 k12 (k12.1 216) (k12.1 225) dX10_then_74 rfl (fun h13 σ14 k14 => ?_)
  refine jm_aload_n (n := 76) X 0 rfl dX10_then_75 rfl ?_
  refine jm_aload_n (n := 77) X 0 rfl dX10_then_76 rfl ?_
  refine jm_get (n := 80) X 0 9 16 mW_X10 rfl (by decide) (fun w h => List.mem_cons_of_mem _ (List.mem_append_right _ h)) (List.mem_of_getElem? (i := 1) rfl) rfl dX10_then_77 rfl ?_
  refine jm_put (n := 83) X 0 9 25 225 mW_X10 rfl (by decide) (fun w h => List.mem_cons_of_mem _ (List.mem_append_right _ h)) tyX10 tyX10_ok nmX10 (List.mem_of_getElem? (i := 8) rfl) rfl rfl rfl rfl (Nat.le_of_ble_eq_true rfl) mS_225 k14 (k14.1 216) dX10_then_80 rfl (fun σ15 k15 => ?_)
  exact jm_vret X rfl k15 dX10_then_83
abbrev rm10_give : Room := { frames := 0, cells := 0, slots := 0, locals := 0 }
def f10_give (σ0 : Sg) (x1 : Int) (x2 : Int) : Option (Sg × Int) :=
  nx (sI σ0 226 x1) fun σ1 =>
  nx (sI σ1 227 x2) fun σ2 =>
  some (σ2, 0)
set_option maxRecDepth 100000 in
theorem t10_give (l : Launch) {h : Nat → Nat} {cI cZ : ClassId} {D : va_G} {σ0 : Sg} {x1 : Int} {x2 : Int} (k0 : ok σ0) (hx1 : inR x1) (hx2 : inR x2) : ctV noE l (mW h cI cZ) D (mT cI cZ) yX10_give wsX10_give rm10_give [.ref (h 299), .int (iI x1), .int (iI x2)] σ0 (f10_give σ0 x1 x2) := by
  refine of_V noE_ok (own := RX10) (lv := [(0, .ref (h 299)), (1, .int (iI x1)), (2, .int (iI x2))]) (by decide) rfl rfl (Nat.le_of_ble_eq_true rfl) rfl (fun p e s m below meth c sz X hA => ?_)
  rw [f10_give]
  refine jm_aload_n (n := 1) X 0 rfl dX10_give_0 rfl ?_
  refine jm_iload_n (n := 2) X 1 rfl dX10_give_1 rfl ?_
  refine jm_put (n := 5) X 0 9 26 226 mW_X10 rfl (by decide) (fun w h => List.mem_cons_of_mem _ (List.mem_append_right _ h)) tyX10 tyX10_ok nmX10 (List.mem_of_getElem? (i := 1) rfl) rfl rfl rfl rfl (Nat.le_of_ble_eq_true rfl) mS_226 k0 hx1 dX10_give_2 rfl (fun σ1 k1 => ?_)
  refine jm_aload_n (n := 6) X 0 rfl dX10_give_5 rfl ?_
  refine jm_iload_n (n := 7) X 2 rfl dX10_give_6 rfl ?_
  refine jm_put (n := 10) X 0 9 27 227 mW_X10 rfl (by decide) (fun w h => List.mem_cons_of_mem _ (List.mem_append_right _ h)) tyX10 tyX10_ok nmX10 (List.mem_of_getElem? (i := 2) rfl) rfl rfl rfl rfl (Nat.le_of_ble_eq_true rfl) mS_227 k1 hx2 dX10_give_7 rfl (fun σ2 k2 => ?_)
  exact jm_vret X rfl k2 dX10_give_10
end
end
