section
-- ===== PART A: goes FIRST, ahead of the names: the tables' words, and 'selects' of the private methods out of them =====
/-- a private method of a class that the tables say can be made, by its rows of tables_1 -/
def lw_okq (q : MethodName × Nat) : Prop := (q.1.cls ≠ "java/lang/invoke/MethodHandle" ∧ q.1.cls ≠ "java/lang/invoke/VarHandle") ∧ Cond.instantiable q.1.cls q.2 ∈ tables_1 ∧ Cond.privateMethod q.1 ∈ tables_1 ∧ Cond.instanceMethod q.1 ∈ tables_1
theorem lw_p0 : lw_okq (⟨"java/lang/Throwable", "fillInStackTrace", "(I)Ljava/lang/Throwable;"⟩, 6) := ⟨⟨by decide +kernel, by decide +kernel⟩, List.mem_of_getElem? (i := 382) (by decide +kernel), List.mem_of_getElem? (i := 380) (by decide +kernel), List.mem_of_getElem? (i := 381) (by decide +kernel)⟩
theorem lw_p1 : lw_okq (⟨"MarkDesk$Terms", "heightOver", "(IIII)I"⟩, 8) := ⟨⟨by decide +kernel, by decide +kernel⟩, List.mem_of_getElem? (i := 30) (by decide +kernel), List.mem_of_getElem? (i := 411) (by decide +kernel), List.mem_of_getElem? (i := 412) (by decide +kernel)⟩
theorem lw_p2 : lw_okq (⟨"MarkDesk$Terms", "sizeOver", "(IIII)I"⟩, 8) := ⟨⟨by decide +kernel, by decide +kernel⟩, List.mem_of_getElem? (i := 30) (by decide +kernel), List.mem_of_getElem? (i := 418) (by decide +kernel), List.mem_of_getElem? (i := 419) (by decide +kernel)⟩
theorem lw_p3 : lw_okq (⟨"MarkDesk$Terms", "neededOver", "(IIII)I"⟩, 8) := ⟨⟨by decide +kernel, by decide +kernel⟩, List.mem_of_getElem? (i := 30) (by decide +kernel), List.mem_of_getElem? (i := 441) (by decide +kernel), List.mem_of_getElem? (i := 442) (by decide +kernel)⟩
theorem lw_p4 : lw_okq (⟨"MarkDesk$Machine", "goTo", "(II)V"⟩, 13) := ⟨⟨by decide +kernel, by decide +kernel⟩, List.mem_of_getElem? (i := 72) (by decide +kernel), List.mem_of_getElem? (i := 514) (by decide +kernel), List.mem_of_getElem? (i := 515) (by decide +kernel)⟩
theorem lw_p5 : lw_okq (⟨"MarkDesk$Machine", "doRound", "()V"⟩, 13) := ⟨⟨by decide +kernel, by decide +kernel⟩, List.mem_of_getElem? (i := 72) (by decide +kernel), List.mem_of_getElem? (i := 518) (by decide +kernel), List.mem_of_getElem? (i := 519) (by decide +kernel)⟩
theorem lw_p6 : lw_okq (⟨"MarkDesk$Machine", "leaveMark", "()V"⟩, 13) := ⟨⟨by decide +kernel, by decide +kernel⟩, List.mem_of_getElem? (i := 72) (by decide +kernel), List.mem_of_getElem? (i := 522) (by decide +kernel), List.mem_of_getElem? (i := 523) (by decide +kernel)⟩
theorem lw_p7 : lw_okq (⟨"MarkDesk$Machine", "beginTerm", "()V"⟩, 13) := ⟨⟨by decide +kernel, by decide +kernel⟩, List.mem_of_getElem? (i := 72) (by decide +kernel), List.mem_of_getElem? (i := 526) (by decide +kernel), List.mem_of_getElem? (i := 527) (by decide +kernel)⟩
theorem lw_p8 : lw_okq (⟨"MarkDesk$Machine", "enterMark", "(I)V"⟩, 13) := ⟨⟨by decide +kernel, by decide +kernel⟩, List.mem_of_getElem? (i := 72) (by decide +kernel), List.mem_of_getElem? (i := 538) (by decide +kernel), List.mem_of_getElem? (i := 539) (by decide +kernel)⟩
theorem lw_p9 : lw_okq (⟨"MarkDesk$Machine", "bringValue", "()V"⟩, 13) := ⟨⟨by decide +kernel, by decide +kernel⟩, List.mem_of_getElem? (i := 72) (by decide +kernel), List.mem_of_getElem? (i := 550) (by decide +kernel), List.mem_of_getElem? (i := 551) (by decide +kernel)⟩
theorem lw_p10 : lw_okq (⟨"MarkDesk$Machine", "choose", "(II)V"⟩, 13) := ⟨⟨by decide +kernel, by decide +kernel⟩, List.mem_of_getElem? (i := 72) (by decide +kernel), List.mem_of_getElem? (i := 554) (by decide +kernel), List.mem_of_getElem? (i := 555) (by decide +kernel)⟩
theorem lw_p11 : lw_okq (⟨"MarkDesk$Machine", "callWith", "(II)V"⟩, 13) := ⟨⟨by decide +kernel, by decide +kernel⟩, List.mem_of_getElem? (i := 72) (by decide +kernel), List.mem_of_getElem? (i := 558) (by decide +kernel), List.mem_of_getElem? (i := 559) (by decide +kernel)⟩
theorem lw_p12 : lw_okq (⟨"MarkDesk$Machine", "joinNumbers", "(III)V"⟩, 13) := ⟨⟨by decide +kernel, by decide +kernel⟩, List.mem_of_getElem? (i := 72) (by decide +kernel), List.mem_of_getElem? (i := 562) (by decide +kernel), List.mem_of_getElem? (i := 563) (by decide +kernel)⟩
theorem lw_p13 : lw_okq (⟨"MarkDesk", "keepValue", "()I"⟩, 12) := ⟨⟨by decide +kernel, by decide +kernel⟩, List.mem_of_getElem? (i := 22) (by decide +kernel), List.mem_of_getElem? (i := 566) (by decide +kernel), List.mem_of_getElem? (i := 567) (by decide +kernel)⟩
theorem lw_p14 : lw_okq (⟨"MarkDesk$Types", "addNode", "(I)I"⟩, 9) := ⟨⟨by decide +kernel, by decide +kernel⟩, List.mem_of_getElem? (i := 189) (by decide +kernel), List.mem_of_getElem? (i := 597) (by decide +kernel), List.mem_of_getElem? (i := 598) (by decide +kernel)⟩
theorem lw_p15 : lw_okq (⟨"MarkDesk$Typing", "holds", "(IIIII)Z"⟩, 5) := ⟨⟨by decide +kernel, by decide +kernel⟩, List.mem_of_getElem? (i := 183) (by decide +kernel), List.mem_of_getElem? (i := 605) (by decide +kernel), List.mem_of_getElem? (i := 606) (by decide +kernel)⟩
def lw_privs_1 : List (MethodName × Nat) := [(⟨"java/lang/Throwable", "fillInStackTrace", "(I)Ljava/lang/Throwable;"⟩, 6), (⟨"MarkDesk$Terms", "heightOver", "(IIII)I"⟩, 8), (⟨"MarkDesk$Terms", "sizeOver", "(IIII)I"⟩, 8), (⟨"MarkDesk$Terms", "neededOver", "(IIII)I"⟩, 8), (⟨"MarkDesk$Machine", "goTo", "(II)V"⟩, 13), (⟨"MarkDesk$Machine", "doRound", "()V"⟩, 13), (⟨"MarkDesk$Machine", "leaveMark", "()V"⟩, 13), (⟨"MarkDesk$Machine", "beginTerm", "()V"⟩, 13), (⟨"MarkDesk$Machine", "enterMark", "(I)V"⟩, 13), (⟨"MarkDesk$Machine", "bringValue", "()V"⟩, 13), (⟨"MarkDesk$Machine", "choose", "(II)V"⟩, 13), (⟨"MarkDesk$Machine", "callWith", "(II)V"⟩, 13), (⟨"MarkDesk$Machine", "joinNumbers", "(III)V"⟩, 13), (⟨"MarkDesk", "keepValue", "()I"⟩, 12), (⟨"MarkDesk$Types", "addNode", "(I)I"⟩, 9), (⟨"MarkDesk$Typing", "holds", "(IIIII)Z"⟩, 5)]
theorem lw_r1 : ∀ q ∈ lw_privs_1, lw_okq q := List.forall_mem_cons.mpr ⟨lw_p0, List.forall_mem_cons.mpr ⟨lw_p1, List.forall_mem_cons.mpr ⟨lw_p2, List.forall_mem_cons.mpr ⟨lw_p3, List.forall_mem_cons.mpr ⟨lw_p4, List.forall_mem_cons.mpr ⟨lw_p5, List.forall_mem_cons.mpr ⟨lw_p6, List.forall_mem_cons.mpr ⟨lw_p7, List.forall_mem_cons.mpr ⟨lw_p8, List.forall_mem_cons.mpr ⟨lw_p9, List.forall_mem_cons.mpr ⟨lw_p10, List.forall_mem_cons.mpr ⟨lw_p11, List.forall_mem_cons.mpr ⟨lw_p12, List.forall_mem_cons.mpr ⟨lw_p13, List.forall_mem_cons.mpr ⟨lw_p14, List.forall_mem_cons.mpr ⟨lw_p15, fun _ h => absurd h List.not_mem_nil⟩⟩⟩⟩⟩⟩⟩⟩⟩⟩⟩⟩⟩⟩⟩⟩
theorem lw_p16 : lw_okq (⟨"MarkDesk$Types", "addPair", "(II)V"⟩, 9) := ⟨⟨by decide +kernel, by decide +kernel⟩, List.mem_of_getElem? (i := 189) (by decide +kernel), List.mem_of_getElem? (i := 613) (by decide +kernel), List.mem_of_getElem? (i := 614) (by decide +kernel)⟩
theorem lw_p17 : lw_okq (⟨"MarkDesk$Types", "join", "(II)Z"⟩, 9) := ⟨⟨by decide +kernel, by decide +kernel⟩, List.mem_of_getElem? (i := 189) (by decide +kernel), List.mem_of_getElem? (i := 621) (by decide +kernel), List.mem_of_getElem? (i := 622) (by decide +kernel)⟩
theorem lw_p18 : lw_okq (⟨"MarkDesk$Typing", "typeOfVariable", "(I)I"⟩, 5) := ⟨⟨by decide +kernel, by decide +kernel⟩, List.mem_of_getElem? (i := 183) (by decide +kernel), List.mem_of_getElem? (i := 625) (by decide +kernel), List.mem_of_getElem? (i := 626) (by decide +kernel)⟩
theorem lw_p19 : lw_okq (⟨"MarkDesk$Typing", "functionHolds", "(III)Z"⟩, 5) := ⟨⟨by decide +kernel, by decide +kernel⟩, List.mem_of_getElem? (i := 183) (by decide +kernel), List.mem_of_getElem? (i := 633) (by decide +kernel), List.mem_of_getElem? (i := 634) (by decide +kernel)⟩
theorem lw_p20 : lw_okq (⟨"MarkDesk$Typing", "bind", "(II)V"⟩, 5) := ⟨⟨by decide +kernel, by decide +kernel⟩, List.mem_of_getElem? (i := 183) (by decide +kernel), List.mem_of_getElem? (i := 637) (by decide +kernel), List.mem_of_getElem? (i := 638) (by decide +kernel)⟩
theorem lw_p21 : lw_okq (⟨"MarkDesk$Typing", "callHolds", "(IIIII)Z"⟩, 5) := ⟨⟨by decide +kernel, by decide +kernel⟩, List.mem_of_getElem? (i := 183) (by decide +kernel), List.mem_of_getElem? (i := 641) (by decide +kernel), List.mem_of_getElem? (i := 642) (by decide +kernel)⟩
theorem lw_p22 : lw_okq (⟨"MarkDesk$Typing", "numbersHold", "(IIII)Z"⟩, 5) := ⟨⟨by decide +kernel, by decide +kernel⟩, List.mem_of_getElem? (i := 183) (by decide +kernel), List.mem_of_getElem? (i := 645) (by decide +kernel), List.mem_of_getElem? (i := 646) (by decide +kernel)⟩
theorem lw_p23 : lw_okq (⟨"MarkDesk$Typing", "ifHolds", "(IIIII)Z"⟩, 5) := ⟨⟨by decide +kernel, by decide +kernel⟩, List.mem_of_getElem? (i := 183) (by decide +kernel), List.mem_of_getElem? (i := 649) (by decide +kernel), List.mem_of_getElem? (i := 650) (by decide +kernel)⟩
theorem lw_p24 : lw_okq (⟨"MarkDesk$Typing", "letHolds", "(IIIII)Z"⟩, 5) := ⟨⟨by decide +kernel, by decide +kernel⟩, List.mem_of_getElem? (i := 183) (by decide +kernel), List.mem_of_getElem? (i := 653) (by decide +kernel), List.mem_of_getElem? (i := 654) (by decide +kernel)⟩
theorem lw_p25 : lw_okq (⟨"MarkDesk$Typing", "wholeHolds", "(III)Z"⟩, 5) := ⟨⟨by decide +kernel, by decide +kernel⟩, List.mem_of_getElem? (i := 183) (by decide +kernel), List.mem_of_getElem? (i := 657) (by decide +kernel), List.mem_of_getElem? (i := 658) (by decide +kernel)⟩
theorem lw_p26 : lw_okq (⟨"MarkDesk$Typing", "takeHolds", "(IIIII)Z"⟩, 5) := ⟨⟨by decide +kernel, by decide +kernel⟩, List.mem_of_getElem? (i := 183) (by decide +kernel), List.mem_of_getElem? (i := 661) (by decide +kernel), List.mem_of_getElem? (i := 662) (by decide +kernel)⟩
theorem lw_p27 : lw_okq (⟨"MarkDesk$Types", "endsEverywhere", "(I)Z"⟩, 9) := ⟨⟨by decide +kernel, by decide +kernel⟩, List.mem_of_getElem? (i := 189) (by decide +kernel), List.mem_of_getElem? (i := 669) (by decide +kernel), List.mem_of_getElem? (i := 670) (by decide +kernel)⟩
theorem lw_p28 : lw_okq (⟨"MarkDesk$KnownType", "keepNode", "(LMarkDesk$Types;II)I"⟩, 5) := ⟨⟨by decide +kernel, by decide +kernel⟩, List.mem_of_getElem? (i := 241) (by decide +kernel), List.mem_of_getElem? (i := 685) (by decide +kernel), List.mem_of_getElem? (i := 686) (by decide +kernel)⟩
theorem lw_p29 : lw_okq (⟨"MarkDeskModel", "fits", "(IIII)Z"⟩, 60) := ⟨⟨by decide +kernel, by decide +kernel⟩, List.mem_of_getElem? (i := 690) (by decide +kernel), List.mem_of_getElem? (i := 889) (by decide +kernel), List.mem_of_getElem? (i := 890) (by decide +kernel)⟩
theorem lw_p30 : lw_okq (⟨"MarkDeskModel", "isTerm", "(I)Z"⟩, 60) := ⟨⟨by decide +kernel, by decide +kernel⟩, List.mem_of_getElem? (i := 690) (by decide +kernel), List.mem_of_getElem? (i := 893) (by decide +kernel), List.mem_of_getElem? (i := 894) (by decide +kernel)⟩
theorem lw_p31 : lw_okq (⟨"MarkDeskModel", "fail", "(I)I"⟩, 60) := ⟨⟨by decide +kernel, by decide +kernel⟩, List.mem_of_getElem? (i := 690) (by decide +kernel), List.mem_of_getElem? (i := 900) (by decide +kernel), List.mem_of_getElem? (i := 901) (by decide +kernel)⟩
def lw_privs_2 : List (MethodName × Nat) := [(⟨"MarkDesk$Types", "addPair", "(II)V"⟩, 9), (⟨"MarkDesk$Types", "join", "(II)Z"⟩, 9), (⟨"MarkDesk$Typing", "typeOfVariable", "(I)I"⟩, 5), (⟨"MarkDesk$Typing", "functionHolds", "(III)Z"⟩, 5), (⟨"MarkDesk$Typing", "bind", "(II)V"⟩, 5), (⟨"MarkDesk$Typing", "callHolds", "(IIIII)Z"⟩, 5), (⟨"MarkDesk$Typing", "numbersHold", "(IIII)Z"⟩, 5), (⟨"MarkDesk$Typing", "ifHolds", "(IIIII)Z"⟩, 5), (⟨"MarkDesk$Typing", "letHolds", "(IIIII)Z"⟩, 5), (⟨"MarkDesk$Typing", "wholeHolds", "(III)Z"⟩, 5), (⟨"MarkDesk$Typing", "takeHolds", "(IIIII)Z"⟩, 5), (⟨"MarkDesk$Types", "endsEverywhere", "(I)Z"⟩, 9), (⟨"MarkDesk$KnownType", "keepNode", "(LMarkDesk$Types;II)I"⟩, 5), (⟨"MarkDeskModel", "fits", "(IIII)Z"⟩, 60), (⟨"MarkDeskModel", "isTerm", "(I)Z"⟩, 60), (⟨"MarkDeskModel", "fail", "(I)I"⟩, 60)]
theorem lw_r2 : ∀ q ∈ lw_privs_2, lw_okq q := List.forall_mem_cons.mpr ⟨lw_p16, List.forall_mem_cons.mpr ⟨lw_p17, List.forall_mem_cons.mpr ⟨lw_p18, List.forall_mem_cons.mpr ⟨lw_p19, List.forall_mem_cons.mpr ⟨lw_p20, List.forall_mem_cons.mpr ⟨lw_p21, List.forall_mem_cons.mpr ⟨lw_p22, List.forall_mem_cons.mpr ⟨lw_p23, List.forall_mem_cons.mpr ⟨lw_p24, List.forall_mem_cons.mpr ⟨lw_p25, List.forall_mem_cons.mpr ⟨lw_p26, List.forall_mem_cons.mpr ⟨lw_p27, List.forall_mem_cons.mpr ⟨lw_p28, List.forall_mem_cons.mpr ⟨lw_p29, List.forall_mem_cons.mpr ⟨lw_p30, List.forall_mem_cons.mpr ⟨lw_p31, fun _ h => absurd h List.not_mem_nil⟩⟩⟩⟩⟩⟩⟩⟩⟩⟩⟩⟩⟩⟩⟩⟩
theorem lw_p32 : lw_okq (⟨"MarkDeskModel", "needs", "(IIII)I"⟩, 60) := ⟨⟨by decide +kernel, by decide +kernel⟩, List.mem_of_getElem? (i := 690) (by decide +kernel), List.mem_of_getElem? (i := 910) (by decide +kernel), List.mem_of_getElem? (i := 911) (by decide +kernel)⟩
theorem lw_p33 : lw_okq (⟨"MarkDeskModel", "run", "(II)I"⟩, 60) := ⟨⟨by decide +kernel, by decide +kernel⟩, List.mem_of_getElem? (i := 690) (by decide +kernel), List.mem_of_getElem? (i := 922) (by decide +kernel), List.mem_of_getElem? (i := 923) (by decide +kernel)⟩
theorem lw_p34 : lw_okq (⟨"MarkDeskModel", "begin", "(II)I"⟩, 60) := ⟨⟨by decide +kernel, by decide +kernel⟩, List.mem_of_getElem? (i := 690) (by decide +kernel), List.mem_of_getElem? (i := 926) (by decide +kernel), List.mem_of_getElem? (i := 927) (by decide +kernel)⟩
theorem lw_p35 : lw_okq (⟨"MarkDeskModel", "give", "(II)V"⟩, 60) := ⟨⟨by decide +kernel, by decide +kernel⟩, List.mem_of_getElem? (i := 690) (by decide +kernel), List.mem_of_getElem? (i := 930) (by decide +kernel), List.mem_of_getElem? (i := 931) (by decide +kernel)⟩
theorem lw_p36 : lw_okq (⟨"MarkDeskModel", "closure", "(II)I"⟩, 60) := ⟨⟨by decide +kernel, by decide +kernel⟩, List.mem_of_getElem? (i := 690) (by decide +kernel), List.mem_of_getElem? (i := 934) (by decide +kernel), List.mem_of_getElem? (i := 935) (by decide +kernel)⟩
theorem lw_p37 : lw_okq (⟨"MarkDeskModel", "bind", "(III)I"⟩, 60) := ⟨⟨by decide +kernel, by decide +kernel⟩, List.mem_of_getElem? (i := 690) (by decide +kernel), List.mem_of_getElem? (i := 938) (by decide +kernel), List.mem_of_getElem? (i := 939) (by decide +kernel)⟩
theorem lw_p38 : lw_okq (⟨"MarkDeskModel", "then", "(IIIII)V"⟩, 60) := ⟨⟨by decide +kernel, by decide +kernel⟩, List.mem_of_getElem? (i := 690) (by decide +kernel), List.mem_of_getElem? (i := 942) (by decide +kernel), List.mem_of_getElem? (i := 943) (by decide +kernel)⟩
theorem lw_p39 : lw_okq (⟨"MarkDeskModel", "goOn", "()I"⟩, 60) := ⟨⟨by decide +kernel, by decide +kernel⟩, List.mem_of_getElem? (i := 690) (by decide +kernel), List.mem_of_getElem? (i := 946) (by decide +kernel), List.mem_of_getElem? (i := 947) (by decide +kernel)⟩
theorem lw_p40 : lw_okq (⟨"MarkDeskModel", "call", "(II)I"⟩, 60) := ⟨⟨by decide +kernel, by decide +kernel⟩, List.mem_of_getElem? (i := 690) (by decide +kernel), List.mem_of_getElem? (i := 950) (by decide +kernel), List.mem_of_getElem? (i := 951) (by decide +kernel)⟩
theorem lw_p41 : lw_okq (⟨"MarkDeskModel", "letterCell", "()I"⟩, 60) := ⟨⟨by decide +kernel, by decide +kernel⟩, List.mem_of_getElem? (i := 690) (by decide +kernel), List.mem_of_getElem? (i := 966) (by decide +kernel), List.mem_of_getElem? (i := 967) (by decide +kernel)⟩
theorem lw_p42 : lw_okq (⟨"MarkDeskModel", "cell", "(I)I"⟩, 60) := ⟨⟨by decide +kernel, by decide +kernel⟩, List.mem_of_getElem? (i := 690) (by decide +kernel), List.mem_of_getElem? (i := 970) (by decide +kernel), List.mem_of_getElem? (i := 971) (by decide +kernel)⟩
theorem lw_p43 : lw_okq (⟨"MarkDeskModel", "goal", "(IIIII)V"⟩, 60) := ⟨⟨by decide +kernel, by decide +kernel⟩, List.mem_of_getElem? (i := 690) (by decide +kernel), List.mem_of_getElem? (i := 974) (by decide +kernel), List.mem_of_getElem? (i := 975) (by decide +kernel)⟩
theorem lw_p44 : lw_okq (⟨"MarkDeskModel", "solve", "()V"⟩, 60) := ⟨⟨by decide +kernel, by decide +kernel⟩, List.mem_of_getElem? (i := 690) (by decide +kernel), List.mem_of_getElem? (i := 978) (by decide +kernel), List.mem_of_getElem? (i := 979) (by decide +kernel)⟩
theorem lw_p45 : lw_okq (⟨"MarkDeskModel", "equal", "(II)V"⟩, 60) := ⟨⟨by decide +kernel, by decide +kernel⟩, List.mem_of_getElem? (i := 690) (by decide +kernel), List.mem_of_getElem? (i := 982) (by decide +kernel), List.mem_of_getElem? (i := 983) (by decide +kernel)⟩
theorem lw_p46 : lw_okq (⟨"MarkDeskModel", "end", "(I)I"⟩, 60) := ⟨⟨by decide +kernel, by decide +kernel⟩, List.mem_of_getElem? (i := 690) (by decide +kernel), List.mem_of_getElem? (i := 986) (by decide +kernel), List.mem_of_getElem? (i := 987) (by decide +kernel)⟩
theorem lw_p47 : lw_okq (⟨"MarkDeskModel", "contains", "(II)Z"⟩, 60) := ⟨⟨by decide +kernel, by decide +kernel⟩, List.mem_of_getElem? (i := 690) (by decide +kernel), List.mem_of_getElem? (i := 990) (by decide +kernel), List.mem_of_getElem? (i := 991) (by decide +kernel)⟩
def lw_privs_3 : List (MethodName × Nat) := [(⟨"MarkDeskModel", "needs", "(IIII)I"⟩, 60), (⟨"MarkDeskModel", "run", "(II)I"⟩, 60), (⟨"MarkDeskModel", "begin", "(II)I"⟩, 60), (⟨"MarkDeskModel", "give", "(II)V"⟩, 60), (⟨"MarkDeskModel", "closure", "(II)I"⟩, 60), (⟨"MarkDeskModel", "bind", "(III)I"⟩, 60), (⟨"MarkDeskModel", "then", "(IIIII)V"⟩, 60), (⟨"MarkDeskModel", "goOn", "()I"⟩, 60), (⟨"MarkDeskModel", "call", "(II)I"⟩, 60), (⟨"MarkDeskModel", "letterCell", "()I"⟩, 60), (⟨"MarkDeskModel", "cell", "(I)I"⟩, 60), (⟨"MarkDeskModel", "goal", "(IIIII)V"⟩, 60), (⟨"MarkDeskModel", "solve", "()V"⟩, 60), (⟨"MarkDeskModel", "equal", "(II)V"⟩, 60), (⟨"MarkDeskModel", "end", "(I)I"⟩, 60), (⟨"MarkDeskModel", "contains", "(II)Z"⟩, 60)]
theorem lw_r3 : ∀ q ∈ lw_privs_3, lw_okq q := List.forall_mem_cons.mpr ⟨lw_p32, List.forall_mem_cons.mpr ⟨lw_p33, List.forall_mem_cons.mpr ⟨lw_p34, List.forall_mem_cons.mpr ⟨lw_p35, List.forall_mem_cons.mpr ⟨lw_p36, List.forall_mem_cons.mpr ⟨lw_p37, List.forall_mem_cons.mpr ⟨lw_p38, List.forall_mem_cons.mpr ⟨lw_p39, List.forall_mem_cons.mpr ⟨lw_p40, List.forall_mem_cons.mpr ⟨lw_p41, List.forall_mem_cons.mpr ⟨lw_p42, List.forall_mem_cons.mpr ⟨lw_p43, List.forall_mem_cons.mpr ⟨lw_p44, List.forall_mem_cons.mpr ⟨lw_p45, List.forall_mem_cons.mpr ⟨lw_p46, List.forall_mem_cons.mpr ⟨lw_p47, fun _ h => absurd h List.not_mem_nil⟩⟩⟩⟩⟩⟩⟩⟩⟩⟩⟩⟩⟩⟩⟩⟩
theorem lw_p48 : lw_okq (⟨"MarkDeskModel", "variable", "(III)V"⟩, 60) := ⟨⟨by decide +kernel, by decide +kernel⟩, List.mem_of_getElem? (i := 690) (by decide +kernel), List.mem_of_getElem? (i := 994) (by decide +kernel), List.mem_of_getElem? (i := 995) (by decide +kernel)⟩
theorem lw_p49 : lw_okq (⟨"MarkDeskModel", "functionCell", "(IIII)I"⟩, 60) := ⟨⟨by decide +kernel, by decide +kernel⟩, List.mem_of_getElem? (i := 690) (by decide +kernel), List.mem_of_getElem? (i := 998) (by decide +kernel), List.mem_of_getElem? (i := 999) (by decide +kernel)⟩
theorem lw_p50 : lw_okq (⟨"MarkDeskModel", "function", "(IIII)V"⟩, 60) := ⟨⟨by decide +kernel, by decide +kernel⟩, List.mem_of_getElem? (i := 690) (by decide +kernel), List.mem_of_getElem? (i := 1002) (by decide +kernel), List.mem_of_getElem? (i := 1003) (by decide +kernel)⟩
theorem lw_p51 : lw_okq (⟨"MarkDeskModel", "place", "(III)I"⟩, 60) := ⟨⟨by decide +kernel, by decide +kernel⟩, List.mem_of_getElem? (i := 690) (by decide +kernel), List.mem_of_getElem? (i := 1006) (by decide +kernel), List.mem_of_getElem? (i := 1007) (by decide +kernel)⟩
theorem lw_p52 : lw_okq (⟨"MarkDeskModel", "solveTwo", "(III)V"⟩, 60) := ⟨⟨by decide +kernel, by decide +kernel⟩, List.mem_of_getElem? (i := 690) (by decide +kernel), List.mem_of_getElem? (i := 1010) (by decide +kernel), List.mem_of_getElem? (i := 1011) (by decide +kernel)⟩
theorem lw_p53 : lw_okq (⟨"MarkDeskModel", "endless", "()Z"⟩, 60) := ⟨⟨by decide +kernel, by decide +kernel⟩, List.mem_of_getElem? (i := 690) (by decide +kernel), List.mem_of_getElem? (i := 1014) (by decide +kernel), List.mem_of_getElem? (i := 1015) (by decide +kernel)⟩
theorem lw_p54 : lw_okq (⟨"MarkDeskModel", "numberLetters", "(I)V"⟩, 60) := ⟨⟨by decide +kernel, by decide +kernel⟩, List.mem_of_getElem? (i := 690) (by decide +kernel), List.mem_of_getElem? (i := 1018) (by decide +kernel), List.mem_of_getElem? (i := 1019) (by decide +kernel)⟩
def lw_privs_4 : List (MethodName × Nat) := [(⟨"MarkDeskModel", "variable", "(III)V"⟩, 60), (⟨"MarkDeskModel", "functionCell", "(IIII)I"⟩, 60), (⟨"MarkDeskModel", "function", "(IIII)V"⟩, 60), (⟨"MarkDeskModel", "place", "(III)I"⟩, 60), (⟨"MarkDeskModel", "solveTwo", "(III)V"⟩, 60), (⟨"MarkDeskModel", "endless", "()Z"⟩, 60), (⟨"MarkDeskModel", "numberLetters", "(I)V"⟩, 60)]
theorem lw_r4 : ∀ q ∈ lw_privs_4, lw_okq q := List.forall_mem_cons.mpr ⟨lw_p48, List.forall_mem_cons.mpr ⟨lw_p49, List.forall_mem_cons.mpr ⟨lw_p50, List.forall_mem_cons.mpr ⟨lw_p51, List.forall_mem_cons.mpr ⟨lw_p52, List.forall_mem_cons.mpr ⟨lw_p53, List.forall_mem_cons.mpr ⟨lw_p54, fun _ h => absurd h List.not_mem_nil⟩⟩⟩⟩⟩⟩⟩
def lw_privs : List (MethodName × Nat) := lw_privs_1 ++ (lw_privs_2 ++ (lw_privs_3 ++ (lw_privs_4)))
def lw_tbl : List Cond := k2_sels lw_privs ++ tables_1
theorem lw_privs_ok : ∀ q ∈ lw_privs, lw_okq q := by
  show ∀ q ∈ lw_privs_1 ++ (lw_privs_2 ++ (lw_privs_3 ++ (lw_privs_4))), lw_okq q
  exact List.forall_mem_append.mpr ⟨lw_r1, List.forall_mem_append.mpr ⟨lw_r2, List.forall_mem_append.mpr ⟨lw_r3, lw_r4⟩⟩⟩
end
section
/-! ===== BEGIN words of one list among another's, by their places ===== -/
theorem goodIn_r {big : List Cond} (ws : List Cond) (ps : List Nat) (hp : ws = ps.filterMap (fun i => big[i]?)) (h : ws.all goodWord = true) : GoodIn big ws := by
  intro w hw
  have h1 := List.all_eq_true.mp h w hw
  rw [hp] at hw
  obtain ⟨i, -, hi⟩ := List.mem_filterMap.mp hw
  have hm : w ∈ big := by first | exact List.mem_of_getElem? hi | exact List.getElem?_mem hi
  exact ⟨hm, good_of_word h1⟩
theorem goodIn_app {big a b : List Cond} (ha : GoodIn big a) (hb : GoodIn big b) : GoodIn big (a ++ b) := fun w h => (List.mem_append.mp h).elim (ha w) (hb w)
theorem goodIn_ca {big a b : List Cond} {c : Cond} (ha : GoodIn big (c :: a)) (hb : GoodIn big b) : GoodIn big (c :: (a ++ b)) := fun w h => (List.mem_cons.mp h).elim (fun e => ha w (List.mem_cons.mpr (Or.inl e))) (fun h => (List.mem_append.mp h).elim (fun h => ha w (List.mem_cons.mpr (Or.inr h))) (hb w))
theorem goodIn_sub {big ws : List Cond} (hm : ∀ w ∈ ws, w ∈ big) (h : ws.all goodWord = true) : GoodIn big ws := fun w hw => ⟨hm w hw, good_of_word (List.all_eq_true.mp h w hw)⟩
/-! ===== END ===== -/

/-! ===== BEGIN exceptions that leave a method, and their catching by the caller (launches without stack traces) ===== -/
section VXA
/-! The laws vx_back, vx_callV, vx_callS, vx_callSW, vx_throw0, vx_throwS follow proofs of the library, with one case more: JvmDerived/Free/Laws.lean (Back.of_free), Shelf42/LK1.lean (callV, callS), Shelf/KitTraced.lean (throwNew0V, throwNewS). -/

/-- where a method has thrown q: the class by its name, the cell, what was written, the world -/
def vx_T (XC : String → State → State → Prop) (st : State) (q : Addr) (t : State) (mc ms : Nat) (free : Addr → Prop) : Prop :=
  ∃ (E : String) (ce : Cell) (L : List Loc), XC E st t ∧ t.heap[q]? = some ce ∧ ce.vm = .none ∧ st.vm.findClass E = some ce.cls ∧ st.WarmedH t.vm ∧ st.sameButNew ({ t with vm := st.vm } : State) L mc ms ∧ ∀ z ∈ L, free z.base
def vx_Q (Qc : Array Value → State → Outcome → State → Prop) (XC : String → State → State → Prop) (mc ms : Nat) (free : Addr → Prop) : Array Value → State → Outcome → State → Prop := fun a st o t =>
  (Qc a st o t ∧ ∃ L, FrameEnd st o t L mc ms ∧ ∀ q ∈ L, free q.base) ∨ ∃ q, o = .threw q ∧ vx_T XC st q t mc ms free
/-- a callee that returns or throws -/
def vx_Met (l : Launch) (y : MethodName) (ws : List Cond) (rm : Room) (Pc : Array Value → State → Prop) (Qc : Array Value → State → Outcome → State → Prop) (XC : String → State → State → Prop) (mc ms : Nat) (free : Addr → Prop) : Prop :=
  MetFree l y (headSpec ws rm) Pc (fun _ _ _ _ _ => True) (vx_Q Qc XC mc ms free)
def vx_Post (XC : String → State → State → Prop) (mc ms : Nat) (free : Addr → Prop) : Pt → Array Value → Addr → Pt → Prop := fun A a q B =>
  ∃ (g : JFrame) (mk : MethodId) (t : State) (L : List Loc) (E : String) (ce : Cell), B.U.heap = t.heap ∧ B.U.vm = t.vm ∧ XC E (A.U.calling g mk a) t ∧ t.heap[q]? = some ce ∧ ce.vm = .none ∧ A.U.vm.findClass E = some ce.cls ∧ B.locs = A.locs ++ L ∧ (∀ z ∈ L, free z.base) ∧ B.cells = A.cells + mc ∧ B.slots = A.slots + ms
def vx_Back (l : Launch) (R : Room) (p : Program) (e : Env) (below : List Frame) (s : State) (sargs : Array Value) (y : MethodName) (len W9 : Nat)
    (Pre : Pt → Array Value → Prop) (Post : Pt → Array Value → Option Value → Pt → Prop) (PostX : Pt → Array Value → Addr → Pt → Prop) : Prop :=
  ∀ (m : MethodId) (meth : Method) (c : Code) (A : Pt) (g : JFrame) (ig : Instr) (mk : MethodId) (a : Array Value),
    Stand p l e R s m sargs below meth c A.U A.locs A.cells A.slots → g.method = m → g.locals.size = c.maxLocals → decode c.code g.pc = .ok (ig, len) →
    2 * g.monitorRoom + (g.stack.map fun v => v.category).sum ≤ W9 → A.U.methodNamed? y = some mk → Pre A a →
    (∃ (v : Option Value) (B : Pt), Stand p l e R s m sargs below meth c B.U B.locs B.cells B.slots ∧ Post A a v B ∧
      Steps p.tables e below (doInvoke e (A.U.setTop g) [] mk a).1 (B.U.setTop { g with pc := g.pc + len, stack := v.toList ++ g.stack })) ∨
    (∃ (q : Addr) (B : Pt), Stand p l e R s m sargs below meth c B.U B.locs B.cells B.slots ∧ PostX A a q B ∧
      Steps p.tables e below (doInvoke e (A.U.setTop g) [] mk a).1 ((B.U.setTop g).pushFrame (.throwing q)))
section Payer
variable {l : Launch} {R : Room} {p : Program} {e : Env} {below : List Frame} {s : State} {sargs : Array Value} {y : MethodName} {len W9 : Nat}
theorem vx_back {ws : List Cond} {rm : Room} {Pc : Array Value → State → Prop} {Qc : Array Value → State → Outcome → State → Prop} {XC : String → State → State → Prop} {mc ms : Nat} {free : Addr → Prop} {bytes : ByteArray} {maxL : Nat} {ret : Option FieldType}
    (hM : vx_Met l y ws rm Pc Qc XC mc ms free) (hblind : FrameBlind Pc) (hrc : rm.cells = mc) (hrs : rm.slots = ms)
    (hframes : rm.frames + 1 ≤ R.frames) (hlocals : W9 + (maxL + 11) + rm.locals ≤ R.locals)
    (hws : ∀ w ∈ ws, ∀ a' U, s.WarmedH U.vm → w.before a' U = true) (hcode : Cond.code y bytes maxL ret ∈ ws) (hinit : ∀ a' U, s.WarmedH U.vm → (Cond.initialized y.cls).before a' U = true) :
    vx_Back l R p e below s sargs y len W9 (PreOf R mc ms Pc) (PostOf Qc mc ms free) (vx_Post XC mc ms free) := by
  intro m meth c A g ig mk a X hg hsize hdg hW hn hp
  have h1 : (headSpec ws rm).pre.before a A.U = true := atoms_intro fun w hw => hws w hw _ _ X.warmed
  have h2 : (Cond.code y bytes maxL ret).before a A.U = true := hws _ hcode _ _ X.warmed
  have h3 : (Cond.initialized y.cls).before a A.U = true := hinit _ _ X.warmed
  have h4 : A.cells + (headSpec ws rm).room.cells ≤ R.cells := by rw [show (headSpec ws rm).room.cells = mc from hrc]; exact hp.1
  have h5 : A.slots + (headSpec ws rm).room.slots ≤ R.slots := by rw [show (headSpec ws rm).room.slots = ms from hrs]; exact hp.2.1
  have hPc : Pc a (A.U.calling g mk a) := hblind _ _ _ _ hp.2.2
  obtain ⟨U, Ls, c0, s0⟩ := A
  dsimp only [Pt.U, Pt.locs, Pt.cells, Pt.slots] at h1 h2 h3 h4 h5 X hn hPc ⊢
  obtain ⟨methY, cY, hmY, hcY, -, hlY, -, -, -, -⟩ := Cond.code_spec hn h2
  obtain ⟨kY, hkY, -⟩ := className_of_methodNamed hn
  have hinitY : kY.init = .initialized := Cond.initialized_spec (findClass_of_methodNamed hn) hkY h3
  have h : At U g.method c below := by rw [hg]; exact X.here
  have hlocals9 : W9 + (maxL + 11) + (headSpec ws rm).room.locals ≤ R.locals := hlocals
  have happ : (headSpec ws rm).appliesLoose y e.platform (U.calling g mk a) = true :=
    Spec.appliesLoose_calling (g := g) h hdg hn hkY hinitY
      (X.room_calling (g := g) (R' := (headSpec ws rm).room) hsize hmY hcY hframes (by rw [hlY]; omega) h4 h5) h1
  obtain ⟨mid, hmid⟩ := h.above
  have hfr : (U.setTop g).frames = (.java g :: mid) ++ below := by rw [State.frames_setTop' g h.top, hmid]; rfl
  obtain ⟨o, s₂, hsteps, -, hend, hq⟩ := Steps.callFree hM p X.admits X.cas X.clock (acts := []) hfr happ hPc trivial
  have hq' : vx_Q Qc XC mc ms free a (U.calling g mk a) o s₂ := hq
  rw [State.frames_setTop' g h.top] at hend
  obtain ⟨g₀, hg0⟩ := Option.isSome_iff_exists.mp h.top
  obtain ⟨r, hr⟩ := State.topJava?_eq_some.mp hg0
  have hr' : (({ U with heap := s₂.heap, slotsUsed := s₂.slotsUsed } : State).setVm s₂.vm).frames = .java g₀ :: r := hr
  rcases hq' with ⟨hqc, L, hfe, hL⟩ | ⟨q, rfl, E, ce, L, hx, hce, hcv, hcl, hW₂, hsm, hL⟩
  · obtain ⟨⟨v, rfl⟩, hW₂, e2, q2, q3, q4, q5, q6⟩ := id hfe
    have e3 : s₂ = ({ (U.calling g mk a).setFrames s₂.frames with heap := s₂.heap, slotsUsed := s₂.slotsUsed } : State).setVm s₂.vm := by
      have : s₂ = ({ s₂ with vm := (U.calling g mk a).vm } : State).setVm s₂.vm := rfl
      rw [e2] at this
      exact this
    obtain ⟨c₂, i₂, len₂, hc₂, hd₂, hf₂⟩ := hend
    have hW' : U.WarmedH s₂.vm := hW₂
    have hcc : c₂ = c := by
      have h1 : s₂.code? g.method = U.code? g.method := by
        rw [State.code?_eq, State.code?_eq, hW'.alike.method?]
      exact Option.some.inj (hc₂.symm.trans (h1.trans h.code))
    subst hcc
    have hlen : len₂ = len := by rw [hdg] at hd₂; cases hd₂; rfl
    subst hlen
    have hs₂ : s₂ = (({ U with heap := s₂.heap, slotsUsed := s₂.slotsUsed } : State).setVm s₂.vm).setTop { g with pc := g.pc + len₂, stack := v.toList ++ g.stack } := by
      refine e3.trans ?_
      rw [hf₂, State.calling_eq h.top, State.setFrames_setFrames, State.setTop_of_frames _ hr', hr]
      rfl
    have hsame : U.sameButNew ({ U with heap := s₂.heap, slotsUsed := s₂.slotsUsed } : State) L mc ms := by
      refine ⟨?_, q2, q3, q4, q5, q6⟩
      obtain ⟨t, ht, -⟩ := State.frames_cons hr
      show ({ U with heap := s₂.heap, slotsUsed := s₂.slotsUsed } : State) = { U.setFrames U.frames with heap := s₂.heap, slotsUsed := s₂.slotsUsed }
      rw [State.setFrames_self ht]
    subst hg
    refine Or.inl ⟨v, ⟨(({ U with heap := s₂.heap, slotsUsed := s₂.slotsUsed } : State).setVm s₂.vm), Ls ++ L, c0 + mc, s0 + ms⟩,
      ⟨X.admits, X.cas, X.clock, X.frames, X.room, X.hears, X.method, X.code, (X.here.setHeapUsed s₂.heap s₂.slotsUsed).setVm hW'.alike, X.tail, State.WarmedH.trans X.warmed hW', X.limits, X.bytes, X.same.trans (hsame.setVm s.vm)⟩,
      ⟨g, mk, s₂, L, rfl, rfl, hqc, rfl, hL, rfl, rfl⟩, ?_⟩
    show Steps p.tables e below _ ((({ U with heap := s₂.heap, slotsUsed := s₂.slotsUsed } : State).setVm s₂.vm).setTop { g with pc := g.pc + len₂, stack := v.toList ++ g.stack })
    rw [← hs₂]
    exact hsteps
  · obtain ⟨e2, q2, q3, q4, q5, q6⟩ := id hsm
    have e3 : s₂ = ({ (U.calling g mk a).setFrames s₂.frames with heap := s₂.heap, slotsUsed := s₂.slotsUsed } : State).setVm s₂.vm := by
      have : s₂ = ({ s₂ with vm := (U.calling g mk a).vm } : State).setVm s₂.vm := rfl
      rw [e2] at this
      exact this
    have hf₂ : s₂.frames = .throwing q :: .java g :: U.frames.tail := hend
    have hW' : U.WarmedH s₂.vm := hW₂
    have hs₂ : s₂ = ((({ U with heap := s₂.heap, slotsUsed := s₂.slotsUsed } : State).setVm s₂.vm).setTop g).pushFrame (.throwing q) := by
      refine e3.trans ?_
      rw [hf₂, State.calling_eq h.top, State.setFrames_setFrames, State.pushFrame, State.frames_setTop _ hr', State.setTop_of_frames _ hr', State.setFrames_setFrames, hr]
      rfl
    have hsame : U.sameButNew ({ U with heap := s₂.heap, slotsUsed := s₂.slotsUsed } : State) L mc ms := by
      refine ⟨?_, q2, q3, q4, q5, q6⟩
      obtain ⟨t, ht, -⟩ := State.frames_cons hr
      show ({ U with heap := s₂.heap, slotsUsed := s₂.slotsUsed } : State) = { U.setFrames U.frames with heap := s₂.heap, slotsUsed := s₂.slotsUsed }
      rw [State.setFrames_self ht]
    subst hg
    refine Or.inr ⟨q, ⟨(({ U with heap := s₂.heap, slotsUsed := s₂.slotsUsed } : State).setVm s₂.vm), Ls ++ L, c0 + mc, s0 + ms⟩,
      ⟨X.admits, X.cas, X.clock, X.frames, X.room, X.hears, X.method, X.code, (X.here.setHeapUsed s₂.heap s₂.slotsUsed).setVm hW'.alike, X.tail, State.WarmedH.trans X.warmed hW', X.limits, X.bytes, X.same.trans (hsame.setVm s.vm)⟩,
      ⟨g, mk, s₂, L, E, ce, rfl, rfl, hx, hce, hcv, hcl, rfl, hL, rfl, rfl⟩, ?_⟩
    show Steps p.tables e below _ (((({ U with heap := s₂.heap, slotsUsed := s₂.slotsUsed } : State).setVm s₂.vm).setTop g).pushFrame (.throwing q))
    rw [← hs₂]
    exact hsteps
end Payer
section Calls
variable {p : Program} {l : Launch} {e : Env} {R : Room} {s : State} {m : MethodId} {args : Array Value} {below : List Frame} {meth : Method} {c : Code} {T : State} {locs : List Loc} {cells slots : Nat}
theorem vx_callV (X : Stand p l e R s m args below meth c T locs cells slots) (hexec : p.tables.exec = Jvm.exec) {own C : String} {index : Nat} {y : MethodName} {bytes : ByteArray} {maxL : Nat} {ret : Option FieldType}
    (hown : s.vm.findClass own = some m.cls) (hlink : (Cond.methodLink own index y).before args s = true) (hinst : (Cond.instanceMethod y).before args s = true) (hsel : (Cond.selects C y y).before args s = true)
    (hcode : (Cond.code y bytes maxL ret).before args s = true) (hy : y.cls ≠ "java/lang/invoke/MethodHandle" ∧ y.cls ≠ "java/lang/invoke/VarHandle")
    {W9 : Nat} {Pre : Pt → Array Value → Prop} {Post : Pt → Array Value → Option Value → Pt → Prop} {PostX : Pt → Array Value → Addr → Pt → Prop} (hK : vx_Back l R p e below s args y 3 W9 Pre Post PostX)
    {b : Addr} {cellB : Cell} (hcell : T.heap[b]? = some cellB) (hobj : cellB.vm.isStatics = false) (hcls : s.vm.findClass C = some cellB.cls)
    {g : JFrame} (hg : g.method = m) (hsize : g.locals.size = c.maxLocals) {argsL rest : List Value} (hlen : ∀ sig, parseMethodDescriptor y.desc = some sig → argsL.length = sig.parameters.length)
    (hstack : g.stack = argsL.reverse ++ .ref b :: rest) (hW : 2 * g.monitorRoom + (rest.map fun v => v.category).sum ≤ W9) (hdg : decode c.code g.pc = .ok (.invokevirtual index, 3))
    (hpre : ∀ vm₁, s.WarmedH vm₁ → Pre ⟨T.setVm vm₁, locs, cells, slots⟩ (Value.ref b :: argsL).toArray) :
    (∃ (v : Option Value) (vm₁ : Vm) (B : Pt), s.WarmedH vm₁ ∧ Stand p l e R s m args below meth c B.U B.locs B.cells B.slots ∧ Post ⟨T.setVm vm₁, locs, cells, slots⟩ (Value.ref b :: argsL).toArray v B ∧
      ∀ target, Steps p.tables e below (B.U.setTop { g with pc := g.pc + 3, stack := v.toList ++ rest }) target → Steps p.tables e below (T.setTop g) target) ∨
    (∃ (q : Addr) (vm₁ : Vm) (B : Pt), s.WarmedH vm₁ ∧ Stand p l e R s m args below meth c B.U B.locs B.cells B.slots ∧ PostX ⟨T.setVm vm₁, locs, cells, slots⟩ (Value.ref b :: argsL).toArray q B ∧
      Steps p.tables e below (T.setTop g) ((B.U.setTop { g with stack := rest }).pushFrame (.throwing q))) := by
  obtain ⟨mk, methM, hnamed, hmethM, hstM, habM⟩ := Cond.instanceMethod_spec hinst
  obtain ⟨methM', cM, hmethM', -, -, -, -, -, -, hsigM⟩ := Cond.code_spec hnamed hcode
  cases hmethM.symm.trans hmethM'
  obtain ⟨c2, r2, m2, q1, q2, q3, q4, kP, hkP, hkPi⟩ := Cond.selects_spec hsel
  cases hcls.symm.trans q1
  cases (State.methodFound?_of_named hnamed hy).symm.trans q2
  cases hnamed.symm.trans q3
  have hselP : selectMethod e.platform s.vm cellB.cls mk = .method mk := by rw [Launch.admits_selectMethod X.admits]; exact q4
  obtain ⟨vm₁, X₁, hstep₁⟩ := X.invokevirtual hexec hown hlink hnamed hmethM hstM hkP hkPi hy (a := b) (cell := cellB) hcell
    (fun z h => by rw [h] at hobj; cases hobj) hselP hmethM habM hkP hkPi (g := g) hg (argsL := argsL) (rest := rest) (hlen _ hsigM) hstack hdg
  rcases hK m meth c ⟨T.setVm vm₁, locs, cells, slots⟩ { g with stack := rest } (.invokevirtual index) mk (Value.ref b :: argsL).toArray X₁ hg hsize hdg hW (X₁.named hnamed) (hpre vm₁ X₁.warmed) with ⟨v, B, X', hpost, hsteps⟩ | ⟨q, B, X', hpost, hsteps⟩
  · exact Or.inl ⟨v, vm₁, B, X₁.warmed, X', hpost, fun target h => hstep₁ _ fun acts => by rw [doInvoke_state]; exact hsteps.trans h⟩
  · exact Or.inr ⟨q, vm₁, B, X₁.warmed, X', hpost, hstep₁ _ fun acts => by rw [doInvoke_state]; exact hsteps⟩
theorem vx_callS (X : Stand p l e R s m args below meth c T locs cells slots) (hexec : p.tables.exec = Jvm.exec) {own : String} {index : Nat} {y : MethodName} {bytes : ByteArray} {maxL : Nat} {ret : Option FieldType}
    (hown : s.vm.findClass own = some m.cls) (hlink : (Cond.methodLink own index y).before args s = true) (hstat : (Cond.static y).before args s = true) (hinit : (Cond.initialized y.cls).before args s = true)
    (hcode : (Cond.code y bytes maxL ret).before args s = true) (hy : y.cls ≠ "java/lang/invoke/MethodHandle" ∧ y.cls ≠ "java/lang/invoke/VarHandle")
    {W9 : Nat} {Pre : Pt → Array Value → Prop} {Post : Pt → Array Value → Option Value → Pt → Prop} {PostX : Pt → Array Value → Addr → Pt → Prop} (hK : vx_Back l R p e below s args y 3 W9 Pre Post PostX)
    {g : JFrame} (hg : g.method = m) (hsize : g.locals.size = c.maxLocals) {argsL rest : List Value} (hlen : ∀ sig, parseMethodDescriptor y.desc = some sig → argsL.length = sig.parameters.length)
    (hstack : g.stack = argsL.reverse ++ rest) (hW : 2 * g.monitorRoom + (rest.map fun v => v.category).sum ≤ W9) (hdg : decode c.code g.pc = .ok (.invokestatic index, 3))
    (hpre : ∀ vm₁, s.WarmedH vm₁ → Pre ⟨T.setVm vm₁, locs, cells, slots⟩ argsL.toArray) :
    (∃ (v : Option Value) (vm₁ : Vm) (B : Pt), s.WarmedH vm₁ ∧ Stand p l e R s m args below meth c B.U B.locs B.cells B.slots ∧ Post ⟨T.setVm vm₁, locs, cells, slots⟩ argsL.toArray v B ∧
      ∀ target, Steps p.tables e below (B.U.setTop { g with pc := g.pc + 3, stack := v.toList ++ rest }) target → Steps p.tables e below (T.setTop g) target) ∨
    (∃ (q : Addr) (vm₁ : Vm) (B : Pt), s.WarmedH vm₁ ∧ Stand p l e R s m args below meth c B.U B.locs B.cells B.slots ∧ PostX ⟨T.setVm vm₁, locs, cells, slots⟩ argsL.toArray q B ∧
      Steps p.tables e below (T.setTop g) ((B.U.setTop { g with stack := rest }).pushFrame (.throwing q))) := by
  obtain ⟨mk, hnamed⟩ := Cond.code_named hcode
  obtain ⟨methM, cM, hmethM, -, -, -, -, -, -, hsigM⟩ := Cond.code_spec hnamed hcode
  have hstatic : methM.isStatic = true := Cond.static_spec hnamed hmethM hstat
  obtain ⟨kP, hkP, -⟩ := className_of_methodNamed hnamed
  have hinitP : kP.init = .initialized := Cond.initialized_spec (findClass_of_methodNamed hnamed) hkP hinit
  obtain ⟨vm₁, X₁, hstep₁⟩ := X.invokestatic hexec hown hlink hnamed hmethM hstatic hkP hinitP hy (g := g) hg (argsL := argsL) (rest := rest) (hlen _ hsigM) hstack hdg
  rcases hK m meth c ⟨T.setVm vm₁, locs, cells, slots⟩ { g with stack := rest } (.invokestatic index) mk argsL.toArray X₁ hg hsize hdg hW (X₁.named hnamed) (hpre vm₁ X₁.warmed) with ⟨v, B, X', hpost, hsteps⟩ | ⟨q, B, X', hpost, hsteps⟩
  · exact Or.inl ⟨v, vm₁, B, X₁.warmed, X', hpost, fun target h => hstep₁ _ fun acts => by rw [doInvoke_state]; exact hsteps.trans h⟩
  · exact Or.inr ⟨q, vm₁, B, X₁.warmed, X', hpost, hstep₁ _ fun acts => by rw [doInvoke_state]; exact hsteps⟩
end Calls
theorem vx_cls {s : State} {T : State} {vm₁ : Vm} {E : String} {k : ClassId} (hW : s.WarmedH vm₁) (h : (T.setVm vm₁).vm.findClass E = some k) : s.vm.findClass E = some k := by
  have h1 : vm₁.findClass E = some k := h
  rw [hW.alike.findClass] at h1
  exact h1
/-- the method's frame g, with q thrown over it -/
def vx_W (p : Program) (l : Launch) (e : Env) (R : Room) (s : State) (m : MethodId) (args : Array Value) (below : List Frame) (meth : Method) (c : Code) (H : Heap) (locs : List Loc) (cells slots : Nat) (Q : State → Prop) (g : JFrame) (q : Addr) : Prop :=
  ∀ T : State, T.heap = H → Stand p l e R s m args below meth c T locs cells slots → ∃ t, Steps p.tables e below ((T.setTop g).pushFrame (.throwing q)) t ∧ Q t
def vx_Run (p : Program) (l : Launch) (e : Env) (R : Room) (s : State) (m : MethodId) (args : Array Value) (below : List Frame) (meth : Method) (c : Code) (H : Heap) (locs : List Loc) (cells slots mc ms : Nat) (g : JFrame) (rest : List Value) (Qa : State → Outcome → State → Prop) (XC : String → State → State → Prop) (free : Addr → Prop) : Prop :=
  ∀ T : State, T.heap = H → Stand p l e R s m args below meth c T locs cells slots →
    (∃ (v : Option Value) (st₀ t T' : State) (L : List Loc), st₀.heap = H ∧ Stand p l e R s m args below meth c T' (locs ++ L) (cells + mc) (slots + ms) ∧ (∀ q ∈ L, free q.base) ∧ T'.heap = t.heap ∧ T'.vm = t.vm ∧ Qa st₀ (.returned v) t ∧
      Goes p e below T g T' { g with pc := g.pc + 3, stack := v.toList ++ rest }) ∨
    (∃ (q : Addr) (st₀ t T' : State) (L : List Loc) (E : String) (ce : Cell), st₀.heap = H ∧ Stand p l e R s m args below meth c T' (locs ++ L) (cells + mc) (slots + ms) ∧ (∀ z ∈ L, free z.base) ∧ T'.heap = t.heap ∧ T'.vm = t.vm ∧ XC E st₀ t ∧ t.heap[q]? = some ce ∧ ce.vm = .none ∧ s.vm.findClass E = some ce.cls ∧
      Steps p.tables e below (T.setTop g) ((T'.setTop { g with stack := rest }).pushFrame (.throwing q)))
def vx_X {S : Type} (px : S → Prop) (B : String → S → State → Prop) (A : Nat → Prop) : String → State → State → Prop := fun E st t => ∃ u : S, px u ∧ B E u t ∧ va_F A st t
section Runs
variable {p : Program} {l : Launch} {e : Env} {R : Room} {s : State} {m : MethodId} {args : Array Value} {below : List Frame} {meth : Method} {c : Code} {H : Heap} {locs : List Loc} {cells slots : Nat}
variable {y : MethodName} {bytes cc : ByteArray} {maxL nL mc ms n index : Nat} {ret : Option FieldType} {ws : List Cond} {rm : Room} {Pc : Array Value → State → Prop} {Qc : Array Value → State → Outcome → State → Prop} {XC : String → State → State → Prop} {free : Addr → Prop} {Ts : List Cond} {own C : String} {b : Addr} {As rest : List Value} {g : JFrame}
theorem vx_callBack (cb : CallB R s args own index y bytes maxL ret ws rm mc ms n) (hM : vx_Met l y ws rm Pc Qc XC mc ms free) (hbl : FrameBlind Pc) : vx_Back l R p e below s args y 3 8 (PreOf R mc ms Pc) (PostOf Qc mc ms free) (vx_Post XC mc ms free) := by
  obtain ⟨hrc, hrs, hfr, hlo, hws, hcw, -, hini, -⟩ := cb
  exact vx_back (bytes := bytes) (maxL := maxL) (ret := ret) hM hbl hrc hrs hfr hlo hws hcw (fun a' U hW => word_at hW (Or.inl (by first | rfl | simp [Cond.onTables, Cond.keeps, Cond.steady])) hini)
theorem vx_runV (S : CallFix p m c cc nL s args Ts own) (hM : vx_Met l y ws rm Pc Qc XC mc ms free) (cw : CallW R s args own C index y bytes maxL ret ws rm mc ms n) (hp : PreV s H C b Pc As)
    (hg : g.method = m) (hn : As.length = n) (hsize : g.locals.size = nL) (hstack : g.stack = As.reverse ++ .ref b :: rest) (hW : 2 * g.monitorRoom + (rest.map fun v => v.category).sum ≤ 8) (hdg : decode cc g.pc = .ok (.invokevirtual index, 3)) (hf : cells + mc ≤ R.cells ∧ slots + ms ≤ R.slots) :
    vx_Run p l e R s m args below meth c H locs cells slots mc ms g rest (Qc (Value.ref b :: As).toArray) XC free := by
  have hK : vx_Back l R p e below s args y 3 8 (PreOf R mc ms Pc) (PostOf Qc mc ms free) (vx_Post XC mc ms free) := vx_callBack cw.1 hM hp.1
  obtain ⟨⟨-, -, -, -, -, -, hcode, -, hy, hlen, hl⟩, hin, hse⟩ := cw
  obtain ⟨hx, hb, hml, ho, -⟩ := S
  obtain ⟨-, ⟨cellB, hcB, hoB, hclB⟩, hPc⟩ := hp
  intro T hT X
  rcases vx_callV X hx (C := C) (bytes := bytes) (maxL := maxL) (ret := ret) ho hl hin hse hcode hy hK (by rw [hT]; exact hcB) hoB hclB hg (hsize.trans hml.symm) (argsL := As) (rest := rest) (fun sig h => hn.trans (hlen sig h)) hstack hW (by rw [hb]; exact hdg)
    (fun vm₁ hW₁ => ⟨hf.1, hf.2, hPc (T.setVm vm₁) hT hW₁⟩) with ⟨v, vm₁, ⟨U', l2, c2, s2⟩, hW₁, X', ⟨g', mk, t, L, e1, e2, hq, h1, hL, h2, h3⟩, st⟩ | ⟨q, vm₁, ⟨U', l2, c2, s2⟩, hW₁, X', ⟨g', mk, t, L, E, ce, e1, e2, hq, hce, hcv, hcl, h1, hL, h2, h3⟩, st⟩
  · dsimp only [Pt.U, Pt.locs, Pt.cells, Pt.slots] at X' e1 e2 h1 h2 h3 st
    subst h1; subst h2; subst h3
    exact Or.inl ⟨v, (T.setVm vm₁).calling g' mk (Value.ref b :: As).toArray, t, U', L, hT, X', hL, e1, e2, hq, st⟩
  · dsimp only [Pt.U, Pt.locs, Pt.cells, Pt.slots] at X' e1 e2 h1 h2 h3 st hcl
    subst h1; subst h2; subst h3
    exact Or.inr ⟨q, (T.setVm vm₁).calling g' mk (Value.ref b :: As).toArray, t, U', L, E, ce, hT, X', hL, e1, e2, hq, hce, hcv, vx_cls hW₁ hcl, st⟩
theorem vx_runS (S : CallFix p m c cc nL s args Ts own) (hM : vx_Met l y ws rm Pc Qc XC mc ms free) (cw : CallB R s args own index y bytes maxL ret ws rm mc ms n ∧ (Cond.static y).before args s = true) (hp : PreS s H Pc As)
    (hg : g.method = m) (hn : As.length = n) (hsize : g.locals.size = nL) (hstack : g.stack = As.reverse ++ rest) (hW : 2 * g.monitorRoom + (rest.map fun v => v.category).sum ≤ 8) (hdg : decode cc g.pc = .ok (.invokestatic index, 3)) (hf : cells + mc ≤ R.cells ∧ slots + ms ≤ R.slots) :
    vx_Run p l e R s m args below meth c H locs cells slots mc ms g rest (Qc As.toArray) XC free := by
  have hK : vx_Back l R p e below s args y 3 8 (PreOf R mc ms Pc) (PostOf Qc mc ms free) (vx_Post XC mc ms free) := vx_callBack cw.1 hM hp.1
  obtain ⟨⟨-, -, -, -, -, -, hcode, hini, hy, hlen, hl⟩, hstt⟩ := cw
  obtain ⟨hx, hb, hml, ho, -⟩ := S
  intro T hT X
  rcases vx_callS X hx (bytes := bytes) (maxL := maxL) (ret := ret) ho hl hstt hini hcode hy hK hg (hsize.trans hml.symm) (argsL := As) (rest := rest) (fun sig h => hn.trans (hlen sig h)) hstack hW (by rw [hb]; exact hdg)
    (fun vm₁ hW₁ => ⟨hf.1, hf.2, hp.2 (T.setVm vm₁) hT hW₁⟩) with ⟨v, vm₁, ⟨U', l2, c2, s2⟩, hW₁, X', ⟨g', mk, t, L, e1, e2, hq, h1, hL, h2, h3⟩, st⟩ | ⟨q, vm₁, ⟨U', l2, c2, s2⟩, hW₁, X', ⟨g', mk, t, L, E, ce, e1, e2, hq, hce, hcv, hcl, h1, hL, h2, h3⟩, st⟩
  · dsimp only [Pt.U, Pt.locs, Pt.cells, Pt.slots] at X' e1 e2 h1 h2 h3 st
    subst h1; subst h2; subst h3
    exact Or.inl ⟨v, (T.setVm vm₁).calling g' mk As.toArray, t, U', L, hT, X', hL, e1, e2, hq, st⟩
  · dsimp only [Pt.U, Pt.locs, Pt.cells, Pt.slots] at X' e1 e2 h1 h2 h3 st hcl
    subst h1; subst h2; subst h3
    exact Or.inr ⟨q, (T.setVm vm₁).calling g' mk As.toArray, t, U', L, E, ce, hT, X', hL, e1, e2, hq, hce, hcv, vx_cls hW₁ hcl, st⟩
end Runs
section Rows
variable {p : Program} {l : Launch} {e : Env} {R : Room} {s : State} {m : MethodId} {args : Array Value} {below : List Frame} {meth : Method} {c : Code} {H : Heap} {locs : List Loc} {cells slots : Nat} {Q : State → Prop}
variable {mc ms : Nat} {free : Addr → Prop} {A0 A1 : Nat → Prop} {H0 : Heap} {a : Array Value} {pc : Nat} {ls : Array Slot} {st0 rest : List Value}
theorem vx_keep {st₀ t T' : State} {L : List Loc} (h0 : st₀.heap = H) (e1 : T'.heap = t.heap) (hS : va_S A0 H0 H locs) (hA : ∀ q, q < H.size → A1 q → A0 q) (hf : ∀ q, free q → A0 q) (hL : ∀ q ∈ L, free q.base) (hF : va_F A1 st₀ t) :
    H.size ≤ T'.heap.size ∧ (∀ q : Nat, q < H.size → ¬ A1 q → T'.heap[q]? = H[q]?) ∧ va_S A0 H0 T'.heap (locs ++ L) := by
  obtain ⟨hz, hk⟩ := hF
  rw [h0] at hz hk
  exact ⟨by rw [e1]; exact hz, fun q h1 h2 => by rw [e1]; exact hk q h1 h2,
    ⟨Nat.le_trans hS.1 (by rw [e1]; exact hz), fun q h1 h2 => by rw [e1, hk q (Nat.lt_of_lt_of_le h1 hS.1) (fun z => h2 (hA q (Nat.lt_of_lt_of_le h1 hS.1) z))]; exact hS.2.1 q h1 h2, fun q hq => by
      rcases List.mem_append.mp hq with h | h
      · exact hS.2.2 q h
      · exact hf _ (hL q h)⟩⟩
theorem vx_calli {S SX : Type} {post : Int32 → S → Prop} {px : SX → Prop} {B : S → State → Prop} {BX : String → SX → State → Prop} {AX : Nat → Prop} (hr : vx_Run p l e R s m args below meth c H locs cells slots mc ms (F0 m pc ls st0) rest (va_Qi post B A1 a) (vx_X px BX AX) free) (hS : va_S A0 H0 H locs) (hA : ∀ q, q < H.size → A1 q → A0 q) (hf : ∀ q, free q → A0 q) (hAX : ∀ q, q < H.size → AX q → A0 q)
    (kx : ∀ (E : String) (ce : Cell) (q9 : Addr) (u : SX) (t : State) (H1 : Heap) (locs1 : List Loc), t.heap = H1 → s.vm.Alike t.vm → px u → BX E u t → H.size ≤ H1.size → (∀ q : Nat, q < H.size → ¬ AX q → H1[q]? = H[q]?) → va_S A0 H0 H1 locs1 → H1[q9]? = some ce → ce.vm = .none → s.vm.findClass E = some ce.cls → vx_W p l e R s m args below meth c H1 locs1 (cells + mc) (slots + ms) Q (F0 m pc ls rest) q9)
    (kk : ∀ (r : Int32) (u : S) (t : State) (H1 : Heap) (locs1 : List Loc), t.heap = H1 → s.vm.Alike t.vm → post r u → B u t → H.size ≤ H1.size → (∀ q : Nat, q < H.size → ¬ A1 q → H1[q]? = H[q]?) → va_S A0 H0 H1 locs1 → W p l e R s m args below meth c H1 locs1 (cells + mc) (slots + ms) Q (F0 m (pc + 3) ls (.int r :: rest))) : W p l e R s m args below meth c H locs cells slots Q (F0 m pc ls st0) := by
  intro T hT X
  rcases hr T hT X with ⟨v, st₀, t, T', L, h0, X', hL, e1, e2, ⟨⟨r, u, hv, hp, hb⟩, hF⟩, st⟩ | ⟨q, st₀, t, T', L, E, ce, h0, X', hL, e1, e2, ⟨u, hp, hb, hF⟩, hce, hcv, hcl, st⟩
  · cases hv
    obtain ⟨k1, k2, k3⟩ := vx_keep h0 e1 hS hA hf hL hF
    obtain ⟨t2, a1, b1⟩ := kk r u t T'.heap (locs ++ L) e1.symm (by rw [← e2]; exact X'.warmed.alike) hp hb k1 k2 k3 T' rfl X'
    exact ⟨t2, st t2 a1, b1⟩
  · obtain ⟨k1, k2, k3⟩ := vx_keep h0 e1 hS hAX hf hL hF
    obtain ⟨t2, a1, b1⟩ := kx E ce q u t T'.heap (locs ++ L) e1.symm (by rw [← e2]; exact X'.warmed.alike) hp hb k1 k2 k3 (by rw [e1]; exact hce) hcv hcl T' rfl X'
    exact ⟨t2, st.trans a1, b1⟩
theorem vx_calll {S SX : Type} {post : Int64 → S → Prop} {px : SX → Prop} {B : S → State → Prop} {BX : String → SX → State → Prop} {AX : Nat → Prop} (hr : vx_Run p l e R s m args below meth c H locs cells slots mc ms (F0 m pc ls st0) rest (va_Ql post B A1 a) (vx_X px BX AX) free) (hS : va_S A0 H0 H locs) (hA : ∀ q, q < H.size → A1 q → A0 q) (hf : ∀ q, free q → A0 q) (hAX : ∀ q, q < H.size → AX q → A0 q)
    (kx : ∀ (E : String) (ce : Cell) (q9 : Addr) (u : SX) (t : State) (H1 : Heap) (locs1 : List Loc), t.heap = H1 → s.vm.Alike t.vm → px u → BX E u t → H.size ≤ H1.size → (∀ q : Nat, q < H.size → ¬ AX q → H1[q]? = H[q]?) → va_S A0 H0 H1 locs1 → H1[q9]? = some ce → ce.vm = .none → s.vm.findClass E = some ce.cls → vx_W p l e R s m args below meth c H1 locs1 (cells + mc) (slots + ms) Q (F0 m pc ls rest) q9)
    (kk : ∀ (r : Int64) (u : S) (t : State) (H1 : Heap) (locs1 : List Loc), t.heap = H1 → s.vm.Alike t.vm → post r u → B u t → H.size ≤ H1.size → (∀ q : Nat, q < H.size → ¬ A1 q → H1[q]? = H[q]?) → va_S A0 H0 H1 locs1 → W p l e R s m args below meth c H1 locs1 (cells + mc) (slots + ms) Q (F0 m (pc + 3) ls (.long r :: rest))) : W p l e R s m args below meth c H locs cells slots Q (F0 m pc ls st0) := by
  intro T hT X
  rcases hr T hT X with ⟨v, st₀, t, T', L, h0, X', hL, e1, e2, ⟨⟨r, u, hv, hp, hb⟩, hF⟩, st⟩ | ⟨q, st₀, t, T', L, E, ce, h0, X', hL, e1, e2, ⟨u, hp, hb, hF⟩, hce, hcv, hcl, st⟩
  · cases hv
    obtain ⟨k1, k2, k3⟩ := vx_keep h0 e1 hS hA hf hL hF
    obtain ⟨t2, a1, b1⟩ := kk r u t T'.heap (locs ++ L) e1.symm (by rw [← e2]; exact X'.warmed.alike) hp hb k1 k2 k3 T' rfl X'
    exact ⟨t2, st t2 a1, b1⟩
  · obtain ⟨k1, k2, k3⟩ := vx_keep h0 e1 hS hAX hf hL hF
    obtain ⟨t2, a1, b1⟩ := kx E ce q u t T'.heap (locs ++ L) e1.symm (by rw [← e2]; exact X'.warmed.alike) hp hb k1 k2 k3 (by rw [e1]; exact hce) hcv hcl T' rfl X'
    exact ⟨t2, st.trans a1, b1⟩
theorem vx_callf {S SX : Type} {post : UInt32 → S → Prop} {px : SX → Prop} {B : S → State → Prop} {BX : String → SX → State → Prop} {AX : Nat → Prop} (hr : vx_Run p l e R s m args below meth c H locs cells slots mc ms (F0 m pc ls st0) rest (va_Qf post B A1 a) (vx_X px BX AX) free) (hS : va_S A0 H0 H locs) (hA : ∀ q, q < H.size → A1 q → A0 q) (hf : ∀ q, free q → A0 q) (hAX : ∀ q, q < H.size → AX q → A0 q)
    (kx : ∀ (E : String) (ce : Cell) (q9 : Addr) (u : SX) (t : State) (H1 : Heap) (locs1 : List Loc), t.heap = H1 → s.vm.Alike t.vm → px u → BX E u t → H.size ≤ H1.size → (∀ q : Nat, q < H.size → ¬ AX q → H1[q]? = H[q]?) → va_S A0 H0 H1 locs1 → H1[q9]? = some ce → ce.vm = .none → s.vm.findClass E = some ce.cls → vx_W p l e R s m args below meth c H1 locs1 (cells + mc) (slots + ms) Q (F0 m pc ls rest) q9)
    (kk : ∀ (r : UInt32) (u : S) (t : State) (H1 : Heap) (locs1 : List Loc), t.heap = H1 → s.vm.Alike t.vm → post r u → B u t → H.size ≤ H1.size → (∀ q : Nat, q < H.size → ¬ A1 q → H1[q]? = H[q]?) → va_S A0 H0 H1 locs1 → W p l e R s m args below meth c H1 locs1 (cells + mc) (slots + ms) Q (F0 m (pc + 3) ls (.float r :: rest))) : W p l e R s m args below meth c H locs cells slots Q (F0 m pc ls st0) := by
  intro T hT X
  rcases hr T hT X with ⟨v, st₀, t, T', L, h0, X', hL, e1, e2, ⟨⟨r, u, hv, hp, hb⟩, hF⟩, st⟩ | ⟨q, st₀, t, T', L, E, ce, h0, X', hL, e1, e2, ⟨u, hp, hb, hF⟩, hce, hcv, hcl, st⟩
  · cases hv
    obtain ⟨k1, k2, k3⟩ := vx_keep h0 e1 hS hA hf hL hF
    obtain ⟨t2, a1, b1⟩ := kk r u t T'.heap (locs ++ L) e1.symm (by rw [← e2]; exact X'.warmed.alike) hp hb k1 k2 k3 T' rfl X'
    exact ⟨t2, st t2 a1, b1⟩
  · obtain ⟨k1, k2, k3⟩ := vx_keep h0 e1 hS hAX hf hL hF
    obtain ⟨t2, a1, b1⟩ := kx E ce q u t T'.heap (locs ++ L) e1.symm (by rw [← e2]; exact X'.warmed.alike) hp hb k1 k2 k3 (by rw [e1]; exact hce) hcv hcl T' rfl X'
    exact ⟨t2, st.trans a1, b1⟩
theorem vx_calld {S SX : Type} {post : UInt64 → S → Prop} {px : SX → Prop} {B : S → State → Prop} {BX : String → SX → State → Prop} {AX : Nat → Prop} (hr : vx_Run p l e R s m args below meth c H locs cells slots mc ms (F0 m pc ls st0) rest (va_Qd post B A1 a) (vx_X px BX AX) free) (hS : va_S A0 H0 H locs) (hA : ∀ q, q < H.size → A1 q → A0 q) (hf : ∀ q, free q → A0 q) (hAX : ∀ q, q < H.size → AX q → A0 q)
    (kx : ∀ (E : String) (ce : Cell) (q9 : Addr) (u : SX) (t : State) (H1 : Heap) (locs1 : List Loc), t.heap = H1 → s.vm.Alike t.vm → px u → BX E u t → H.size ≤ H1.size → (∀ q : Nat, q < H.size → ¬ AX q → H1[q]? = H[q]?) → va_S A0 H0 H1 locs1 → H1[q9]? = some ce → ce.vm = .none → s.vm.findClass E = some ce.cls → vx_W p l e R s m args below meth c H1 locs1 (cells + mc) (slots + ms) Q (F0 m pc ls rest) q9)
    (kk : ∀ (r : UInt64) (u : S) (t : State) (H1 : Heap) (locs1 : List Loc), t.heap = H1 → s.vm.Alike t.vm → post r u → B u t → H.size ≤ H1.size → (∀ q : Nat, q < H.size → ¬ A1 q → H1[q]? = H[q]?) → va_S A0 H0 H1 locs1 → W p l e R s m args below meth c H1 locs1 (cells + mc) (slots + ms) Q (F0 m (pc + 3) ls (.double r :: rest))) : W p l e R s m args below meth c H locs cells slots Q (F0 m pc ls st0) := by
  intro T hT X
  rcases hr T hT X with ⟨v, st₀, t, T', L, h0, X', hL, e1, e2, ⟨⟨r, u, hv, hp, hb⟩, hF⟩, st⟩ | ⟨q, st₀, t, T', L, E, ce, h0, X', hL, e1, e2, ⟨u, hp, hb, hF⟩, hce, hcv, hcl, st⟩
  · cases hv
    obtain ⟨k1, k2, k3⟩ := vx_keep h0 e1 hS hA hf hL hF
    obtain ⟨t2, a1, b1⟩ := kk r u t T'.heap (locs ++ L) e1.symm (by rw [← e2]; exact X'.warmed.alike) hp hb k1 k2 k3 T' rfl X'
    exact ⟨t2, st t2 a1, b1⟩
  · obtain ⟨k1, k2, k3⟩ := vx_keep h0 e1 hS hAX hf hL hF
    obtain ⟨t2, a1, b1⟩ := kx E ce q u t T'.heap (locs ++ L) e1.symm (by rw [← e2]; exact X'.warmed.alike) hp hb k1 k2 k3 (by rw [e1]; exact hce) hcv hcl T' rfl X'
    exact ⟨t2, st.trans a1, b1⟩
theorem vx_callv {S SX : Type} {post : S → Prop} {px : SX → Prop} {B : S → State → Prop} {BX : String → SX → State → Prop} {AX : Nat → Prop} (hr : vx_Run p l e R s m args below meth c H locs cells slots mc ms (F0 m pc ls st0) rest (va_Qv post B A1 a) (vx_X px BX AX) free) (hS : va_S A0 H0 H locs) (hA : ∀ q, q < H.size → A1 q → A0 q) (hf : ∀ q, free q → A0 q) (hAX : ∀ q, q < H.size → AX q → A0 q)
    (kx : ∀ (E : String) (ce : Cell) (q9 : Addr) (u : SX) (t : State) (H1 : Heap) (locs1 : List Loc), t.heap = H1 → s.vm.Alike t.vm → px u → BX E u t → H.size ≤ H1.size → (∀ q : Nat, q < H.size → ¬ AX q → H1[q]? = H[q]?) → va_S A0 H0 H1 locs1 → H1[q9]? = some ce → ce.vm = .none → s.vm.findClass E = some ce.cls → vx_W p l e R s m args below meth c H1 locs1 (cells + mc) (slots + ms) Q (F0 m pc ls rest) q9)
    (kk : ∀ (u : S) (t : State) (H1 : Heap) (locs1 : List Loc), t.heap = H1 → s.vm.Alike t.vm → post u → B u t → H.size ≤ H1.size → (∀ q : Nat, q < H.size → ¬ A1 q → H1[q]? = H[q]?) → va_S A0 H0 H1 locs1 → W p l e R s m args below meth c H1 locs1 (cells + mc) (slots + ms) Q (F0 m (pc + 3) ls (rest))) : W p l e R s m args below meth c H locs cells slots Q (F0 m pc ls st0) := by
  intro T hT X
  rcases hr T hT X with ⟨v, st₀, t, T', L, h0, X', hL, e1, e2, ⟨⟨u, hv, hp, hb⟩, hF⟩, st⟩ | ⟨q, st₀, t, T', L, E, ce, h0, X', hL, e1, e2, ⟨u, hp, hb, hF⟩, hce, hcv, hcl, st⟩
  · cases hv
    obtain ⟨k1, k2, k3⟩ := vx_keep h0 e1 hS hA hf hL hF
    obtain ⟨t2, a1, b1⟩ := kk u t T'.heap (locs ++ L) e1.symm (by rw [← e2]; exact X'.warmed.alike) hp hb k1 k2 k3 T' rfl X'
    exact ⟨t2, st t2 a1, b1⟩
  · obtain ⟨k1, k2, k3⟩ := vx_keep h0 e1 hS hAX hf hL hF
    obtain ⟨t2, a1, b1⟩ := kx E ce q u t T'.heap (locs ++ L) e1.symm (by rw [← e2]; exact X'.warmed.alike) hp hb k1 k2 k3 (by rw [e1]; exact hce) hcv hcl T' rfl X'
    exact ⟨t2, st.trans a1, b1⟩
end Rows
section Ends
variable {p : Program} {l : Launch} {e : Env} {R : Room} {s : State} {m : MethodId} {args : Array Value} {below : List Frame} {meth : Method} {c : Code} {H : Heap} {locs : List Loc} {cells slots : Nat} {Q : State → Prop}
variable {mc ms : Nat} {free : Addr → Prop} {A0 A1 : Nat → Prop} {H0 : Heap} {a : Array Value} {ls : Array Slot} {st0 rest : List Value}
variable {Qc : Array Value → State → Outcome → State → Prop} {XC : String → State → State → Prop}
/-- what a body that may throw owes at its end -/
def vx_MQ (below : List Frame) (Qc : Array Value → State → Outcome → State → Prop) (XC : String → State → State → Prop) (a : Array Value) (s : State) (mc ms : Nat) (free : Addr → Prop) : State → Prop := fun t =>
  ∃ o, t.status = .running ∧ Ended t below o ∧ vx_Q Qc XC mc ms free a s o t
theorem vx_ret {g : JFrame} {mc ms : Nat} (k : W p l e R s m args below meth c H locs cells slots (MQ below Qc args s mc ms free) g) : W p l e R s m args below meth c H locs cells slots (vx_MQ below Qc XC args s mc ms free) g := by
  intro T hT X
  obtain ⟨t, a1, o, b1, b2, b3, b4⟩ := k T hT X
  exact ⟨t, a1, o, b1, b2, Or.inl ⟨b3, b4⟩⟩
/-- not caught here: it goes on to the caller -/
theorem vx_widen {g : JFrame} {q : Addr} {k n : Nat} (h1 : cells ≤ k) (h2 : slots ≤ n) (kk : vx_W p l e R s m args below meth c H locs k n Q g q) : vx_W p l e R s m args below meth c H locs cells slots Q g q := fun T hT X => kk T hT (stand_widen X h1 h2)
theorem vx_out {pc : Nat} {E : String} {ce : Cell} {q : Addr} {mc ms : Nat} (hout : ∀ x ∈ c.exceptionTable.toList, covers x pc = false) (hlocks : meth.locks = false) (hcell : H[q]? = some ce) (hv : ce.vm = .none) (hcl : s.vm.findClass E = some ce.cls)
    (hx : ∀ t : State, t.heap = H → s.vm.Alike t.vm → XC E s t) (hf : ∀ z ∈ locs, free z.base) (hc : cells ≤ mc) (hs : slots ≤ ms) :
    vx_W p l e R s m args below meth c H locs cells slots (vx_MQ below Qc XC args s mc ms free) (F0 m pc ls rest) q := by
  intro T hT X
  obtain ⟨st1, hrun, hend, hW, hsm⟩ := X.leaveThrown q (g := F0 m pc ls rest) rfl rfl rfl hout hlocks
  have hcell9 : (T.setFrames (.throwing q :: below)).heap[q]? = some ce := by
    show T.heap[q]? = some ce
    rw [hT]; exact hcell
  exact ⟨_, st1, .threw q, hrun, hend, Or.inr ⟨q, rfl, E, ce, locs, hx _ hT hW.alike, hcell9, hv, hcl, hW, hsm.mono hc hs, hf⟩⟩
theorem vx_frame {U : State} {k n : Nat} (h : s.sameButNew ({ U with vm := s.vm } : State) locs k n) : s.heap.size ≤ U.heap.size ∧ ∀ q : Nat, q < s.heap.size → (∀ z ∈ locs, z.base ≠ q) → U.heap[q]? = s.heap[q]? := by
  obtain ⟨-, h2, -, -, -, h6⟩ := h
  refine ⟨h2, fun q hq hz => ?_⟩
  obtain ⟨c9, e1, e2, e3, e4⟩ := h6 q _ (Array.getElem?_eq_getElem hq)
  have hs : c9.slots = (s.heap[q]).slots := Array.ext_getElem? fun i => e4 i fun hm => hz _ hm rfl
  have h9 : c9 = s.heap[q] := by
    rw [hs] at e2
    exact e2
  have e5 : U.heap[q]? = some c9 := e1
  rw [e5, h9, Array.getElem?_eq_getElem hq]
/-- the words of a throw but the four that speak of the heap -/
def vx_no (w : Cond) : Bool := decide (w ≠ .isRef (.static Bundle.tN "UNASSIGNED_STACK" Bundle.steD)) && decide (w ≠ .isRef (.static Bundle.tN "SUPPRESSED_SENTINEL" Bundle.listD)) && decide (w ≠ .laysStatic Bundle.tN "UNASSIGNED_STACK" Bundle.steD) && decide (w ≠ .laysStatic Bundle.tN "SUPPRESSED_SENTINEL" Bundle.listD)
def vx_at0 (own : String) (ic : Nat) (X : String) (names : List String) : List Cond := (Bundle.ownAtoms0 own ic X names).filter vx_no
def vx_atS (own : String) (ic : Nat) (X : String) (names : List String) : List Cond := (Bundle.ownAtoms own ic X names).filter vx_no
/-- a word that the tables alone decide, or a good one -/
def vx_ot (w : Cond) : Bool := w.onTables || goodWord w
theorem vx_ot_at {args a' : Array Value} {s U : State} {w : Cond} (hW : s.WarmedH U.vm) (hvm : s.vm = U.vm) (hg : vx_ot w = true) (h : w.before args s = true) : w.before a' U = true := by
  simp only [vx_ot, Bool.or_eq_true] at hg
  rcases hg with hg | hg
  · exact va_tabs hg hvm h
  · exact word_at hW (good_of_word hg) h
/-- a list's words: the good ones out of the method's own list, the others by premises of their own -/
theorem vx_hat {args : Array Value} {s : State} {L B : List Cond} (h1 : ∀ w ∈ L.filter goodWord, w.before args s = true) (h2 : ∀ w ∈ L.filter (fun w => !goodWord w), w ∈ B) (h3 : ∀ w ∈ B, w.before args s = true) : ∀ w ∈ L, w.before args s = true := by
  intro w hw
  by_cases g : goodWord w = true
  · exact h1 w (List.mem_filter.mpr ⟨hw, g⟩)
  · refine h3 w (h2 w (List.mem_filter.mpr ⟨hw, ?_⟩))
    show (!goodWord w) = true
    cases hgw : goodWord w
    · rfl
    · exact absurd hgw g
theorem vx_c {args : Array Value} {s : State} {w : Cond} {B : List Cond} (h : w.before args s = true) (t : ∀ w ∈ B, w.before args s = true) : ∀ w' ∈ w :: B, w'.before args s = true := fun w' h' => (List.mem_cons.mp h').elim (fun e => by rw [e]; exact h) (t w')
theorem vx_n {args : Array Value} {s : State} : ∀ w ∈ ([] : List Cond), w.before args s = true := fun _ h => nomatch h
theorem vx_own {args : Array Value} {s : State} {L : List Cond} (h1 : ∀ w ∈ L.filter vx_no, w.before args s = true)
    (hU : (Cond.isRef (.static Bundle.tN "UNASSIGNED_STACK" Bundle.steD)).before args s = true) (hN : (Cond.isRef (.static Bundle.tN "SUPPRESSED_SENTINEL" Bundle.listD)).before args s = true)
    (lU : (Cond.laysStatic Bundle.tN "UNASSIGNED_STACK" Bundle.steD).before args s = true) (lN : (Cond.laysStatic Bundle.tN "SUPPRESSED_SENTINEL" Bundle.listD).before args s = true) : ∀ w ∈ L, w.before args s = true := by
  intro w hw
  by_cases e1 : w = .isRef (.static Bundle.tN "UNASSIGNED_STACK" Bundle.steD)
  · rw [e1]; exact hU
  · by_cases e2 : w = .isRef (.static Bundle.tN "SUPPRESSED_SENTINEL" Bundle.listD)
    · rw [e2]; exact hN
    · by_cases e3 : w = .laysStatic Bundle.tN "UNASSIGNED_STACK" Bundle.steD
      · rw [e3]; exact lU
      · by_cases e4 : w = .laysStatic Bundle.tN "SUPPRESSED_SENTINEL" Bundle.listD
        · rw [e4]; exact lN
        · exact h1 w (List.mem_filter.mpr ⟨hw, by unfold vx_no; rw [decide_eq_true e1, decide_eq_true e2, decide_eq_true e3, decide_eq_true e4]; rfl⟩)
/-- where a static field lies, its class's statics cell in H -/
def vx_L (C n d : String) (A : Nat → Prop) (U : State) (H : Heap) : Prop := ∃ (c : ClassId) (k : Class) (i : Nat) (f : Field) (a : Nat) (cell : Cell), U.vm.findClass C = some c ∧ U.fieldFound? C n d = some (c, k, i, f) ∧ f.isStatic = true ∧ k.statics = some a ∧ H[a]? = some cell ∧ cell.vm.isStatics = true ∧ cell.cls = c ∧ f.slot < cell.slots.size ∧ k.staticTypes[f.slot]? = some f.type ∧ ¬ A a
theorem vx_L.moved {C n d : String} {A : Nat → Prop} {u U : State} {H : Heap} (hvm : u.vm.Alike U.vm) (h : vx_L C n d A u H) : vx_L C n d A U H := by
  obtain ⟨c, k, i, f, a, cell, h1, h2, h3, h4, h5, h6, h7, h8, h9, h10⟩ := h
  obtain ⟨k', hi', he⟩ := State.fieldFound?_setVm hvm h2
  exact ⟨c, k', i, f, a, cell, by rw [hvm.findClass]; exact h1, hi', h3, by rw [he]; exact h4, h5, h6, h7, h8, by rw [he]; exact h9, h10⟩
theorem vx_L.kept {C n d : String} {A : Nat → Prop} {U : State} {H H1 : Heap} (h : vx_L C n d A U H) (hq : ∀ a : Nat, a < H.size → ¬ A a → H1[a]? = H[a]?) : vx_L C n d A U H1 := by
  obtain ⟨c, k, i, f, a, cell, h1, h2, h3, h4, h5, h6, h7, h8, h9, h10⟩ := h
  exact ⟨c, k, i, f, a, cell, h1, h2, h3, h4, by rw [hq a (Array.getElem?_eq_some_iff.mp h5).1 h10]; exact h5, h6, h7, h8, h9, h10⟩
theorem vx_L.narrow {C n d : String} {A B : Nat → Prop} {U : State} {H : Heap} (h : vx_L C n d A U H) (hAB : ∀ q, B q → A q) : vx_L C n d B U H := by
  obtain ⟨c, k, i, f, a, cell, h1, h2, h3, h4, h5, h6, h7, h8, h9, h10⟩ := h
  exact ⟨c, k, i, f, a, cell, h1, h2, h3, h4, h5, h6, h7, h8, h9, fun z => h10 (hAB _ z)⟩
theorem vx_L.word {C n d : String} {A : Nat → Prop} {s : State} {args : Array Value} (h : vx_L C n d A s s.heap) : (Cond.laysStatic C n d).before args s = true := by
  obtain ⟨c, k, i, f, a, cell, h1, h2, h3, h4, h5, h6, h7, h8, h9, -⟩ := h
  show (Cond.laysStatic C n d).holds args s none s [] = true
  exact Cond.laysStatic_of h1 h2 h3 h4 h5 h6 h7 h8 h9
/-- .. and what it holds: null or some reference -/
def vx_Zq (C n d : String) (A : Nat → Prop) (U : State) (H : Heap) : Prop := va_Zq C n d A U H ∧ vx_L C n d A U H
theorem vx_Zq.moved {C n d : String} {A : Nat → Prop} {u U : State} {H : Heap} (hvm : u.vm.Alike U.vm) (h : vx_Zq C n d A u H) : vx_Zq C n d A U H := ⟨va_Zq.moved hvm h.1, vx_L.moved hvm h.2⟩
theorem vx_Zq.kept {C n d : String} {A : Nat → Prop} {U : State} {H H1 : Heap} (h : vx_Zq C n d A U H) (hq : ∀ a : Nat, a < H.size → ¬ A a → H1[a]? = H[a]?) : vx_Zq C n d A U H1 := ⟨va_Zq.kept h.1 hq, vx_L.kept h.2 hq⟩
theorem vx_Zq.narrow {C n d : String} {A B : Nat → Prop} {U : State} {H : Heap} (h : vx_Zq C n d A U H) (hAB : ∀ q, B q → A q) : vx_Zq C n d B U H := ⟨va_Zq.narrow h.1 hAB, vx_L.narrow h.2 hAB⟩
theorem vx_Zqof {args : Array Value} {s : State} {C n d : String} {A : Nat → Prop} (hl : (Cond.laysStatic C n d).before args s = true) (hini : (Cond.initialized C).before args s = true) (h : (Cond.isRef (.static C n d)).before args s = true) (hA : ∀ a : Nat, a < s.heap.size → ¬ A a) : vx_Zq C n d A s s.heap := by
  refine ⟨va_Zqof hl hini h hA, ?_⟩
  obtain ⟨c, k, i, f, a, cell, h1, h2, h3, h4, h5, h6, h7, h8, h9⟩ := Cond.laysStatic_spec hl
  exact ⟨c, k, i, f, a, cell, h1, h2, h3, h4, h5, h6, h7, h8, h9, hA a (Array.getElem?_eq_some_iff.mp h5).1⟩
theorem vx_isRef {C n d : String} {v : Value} {A : Nat → Prop} {s : State} {args : Array Value} (h : va_Z C n d v A s s.heap) (hv : v.isRef = true) : (Cond.isRef (.static C n d)).before args s = true := by
  obtain ⟨cf, kf, fi, f, a, cell, h1, h2, h3, h4, h5, h6, h7, -⟩ := h
  have he : (Term.static C n d).eval args s none [] s = some v := by
    simp [Term.eval, State.fieldNamed?, h1, h2, h4, h5, h6, h7]
  simp only [Cond.before, Cond.holds, Cond.value, he]
  cases v <;> simp_all [Value.isRef]
theorem vx_isRefq {C n d : String} {A : Nat → Prop} {s : State} {args : Array Value} (h : va_Zq C n d A s s.heap) : (Cond.isRef (.static C n d)).before args s = true := by
  rcases h with h | ⟨t, h⟩
  · exact vx_isRef h rfl
  · exact vx_isRef h rfl
/-- the same frame, seen from here: as if the method were called anew in this heap -/
theorem vx_rebase {T : State} (X : Stand p l e R s m args below meth c T locs cells slots) {R' : Room} (hf : R'.frames ≤ R.frames) (hl : R'.locals ≤ R.locals) (hc : cells + R'.cells ≤ R.cells) (hs : slots + R'.slots ≤ R.slots) :
    Stand p l e R' ((T.setVm s.vm).setFrames (.invoking m args :: below)) m args below meth c T [] 0 0 := by
  have htop : (T.setVm s.vm).topJava?.isSome := X.here.top
  have hF : ((T.setVm s.vm).setFrames (.invoking m args :: below)).frames = .invoking m args :: below := State.frames_setFrames _ (State.cur_lt_of_top htop)
  obtain ⟨g₀, hg0⟩ := Option.isSome_iff_exists.mp htop
  obtain ⟨r, hr⟩ := State.topJava?_eq_some.mp hg0
  have hl9 : e.platform.stackLimits (T.setVm s.vm).me = e.platform.stackLimits s.me := X.limits
  have hb9 : (T.setVm s.vm).me.stackBytes = s.me.stackBytes := X.bytes
  refine ⟨X.admits, X.cas, X.clock, hF, ?_, X.hears, X.method, X.code, X.here, X.tail, X.warmed, ?_, ?_, ?_⟩
  · have h := X.room
    have hU : ((T.setVm s.vm).setFrames (.invoking m args :: below)).localsInUse = s.localsInUse := by
      rw [State.localsInUse_invoking hF (meth := meth) (c := c) X.method X.code, State.localsInUse_invoking X.frames X.method X.code]
    simp only [State.hasRoom, Bool.and_eq_true, decide_eq_true_eq] at h ⊢
    obtain ⟨⟨⟨⟨h1, h2, h3, h4, h5, h6⟩, h7⟩, h8⟩, h9⟩ := h
    rw [X.frames, List.length_cons] at h2 h3
    have q1 := X.heapSize
    have q2 := X.used
    simp only [hF, hU, List.length_cons, State.stackLimits_setFrames, State.stackBytes_setFrames, hl9, hb9]
    refine ⟨⟨⟨⟨by omega, by omega, by omega, by omega, by omega, h6⟩, ?_⟩, ?_⟩, X.book⟩
    · show T.heap.size + R'.cells ≤ e.platform.maxCells
      omega
    · show T.slotsUsed + R'.slots ≤ e.platform.maxSlots
      omega
  · rw [State.stackLimits_setFrames]; rfl
  · rw [State.stackBytes_setFrames]; rfl
  · refine ⟨?_, Nat.le_refl _, Nat.le_refl _, ?_, ?_, fun a c9 h9 => ⟨c9, h9, rfl, rfl, fun _ _ => rfl⟩⟩
    · obtain ⟨t, ht, -⟩ := State.frames_cons hr
      show T.setVm s.vm = { ((T.setVm s.vm).setFrames (.invoking m args :: below)).setFrames (T.setVm s.vm).frames with heap := T.heap, slotsUsed := T.slotsUsed }
      rw [State.setFrames_setFrames, State.setFrames_self ht]
      rfl
    · show T.slotsUsed = T.slotsUsed + ((T.heap.toList.drop T.heap.size).map (·.slots.size)).sum
      rw [List.drop_eq_nil_of_le (Nat.le_of_eq Array.length_toList)]
      rfl
    · show ((T.heap.toList.drop T.heap.size).map (·.slots.size)).sum ≤ 0
      rw [List.drop_eq_nil_of_le (Nat.le_of_eq Array.length_toList)]
      exact Nat.le_refl _
/-- 'throw new E()': new; dup; invokespecial; athrow -/
theorem vx_throw0 {cc : ByteArray} {pc : Nat} (hexec : p.tables.exec = Jvm.exec) (hb : c.code = cc) (hl : l.stackTraces = false) {own cls : String} {names : List String} {ik ic mc ms : Nat} {A : Nat → Prop}
    (hown : s.vm.findClass own = some m.cls) (hcls : Bundle.fit cls = true) (hnames : ∀ n ∈ names, Bundle.fit n = true)
    (hk : (Cond.classLink own ik cls).before args s = true) (hini : (Cond.initialized cls).before args s = true) (hat : ∀ w ∈ vx_at0 own ic cls names, w.before args s = true)
    (hgood : ∀ w ∈ Cond.classLink own ik cls :: Cond.initialized cls :: vx_at0 own ic cls names, vx_ot w = true)
    (hU : vx_Zq Bundle.tN "UNASSIGNED_STACK" Bundle.steD A s s.heap) (hN : vx_Zq Bundle.tN "SUPPRESSED_SENTINEL" Bundle.listD A s s.heap) (hS : va_S A s.heap H locs) (hsize : ls.size = c.maxLocals)
    (d0 : decode cc pc = .ok (.new ik, 3)) (d3 : decode cc (pc + 3) = .ok (.dup, 1)) (d4 : decode cc (pc + 4) = .ok (.invokespecial ic, 3)) (d7 : decode cc (pc + 7) = .ok (.athrow, 1))
    (hout : ∀ x ∈ c.exceptionTable.toList, covers x (pc + 7) = false)
    (hRframes : names.length + 3 < R.frames) (hRlocals : (rest.map fun v => v.category).sum + (13 * (names.length + 1) + 42) ≤ R.locals) (hRcells : cells + 1 ≤ R.cells) (hRslots : slots + 6 ≤ R.slots) (hlocks : meth.locks = false)
    (hx : ∀ t : State, s.vm.Alike t.vm → H.size ≤ t.heap.size → (∀ q : Nat, q < H.size → t.heap[q]? = H[q]?) → XC cls s t)
    (hf : ∀ z ∈ locs, free z.base) (hc : cells + 1 ≤ mc) (hs : slots + 6 ≤ ms) :
    W p l e R s m args below meth c H locs cells slots (vx_MQ below Qc XC args s mc ms free) (F0 m pc ls rest) := by
  intro T hT X
  have htr : e.platform.stackTraces = false := (show e.platform.stackTraces = l.stackTraces by rw [X.admits.platform]).trans hl
  have Y := vx_rebase X (R' := { frames := R.frames, locals := R.locals, cells := 1, slots := 6 }) (Nat.le_refl _) (Nat.le_refl _) hRcells hRslots
  obtain ⟨s', hA⟩ : ∃ z, z = (T.setVm s.vm).setFrames (.invoking m args :: below) := ⟨_, rfl⟩
  rw [← hA] at Y
  have hvm : s'.vm = s.vm := by rw [hA]; rfl
  have hhp : s'.heap = H := by rw [hA]; exact hT
  have hW0 : s.WarmedH s'.vm := by rw [hvm]; exact State.WarmedH.refl s
  have hat' : ∀ w ∈ vx_at0 own ic cls names, w.before args s' = true := fun w hw => vx_ot_at hW0 hvm.symm (hgood w (List.mem_cons_of_mem _ (List.mem_cons_of_mem _ hw))) (hat w hw)
  have hk' : (Cond.classLink own ik cls).before args s' = true := vx_ot_at hW0 hvm.symm (hgood _ List.mem_cons_self) hk
  have hini' : (Cond.initialized cls).before args s' = true := vx_ot_at hW0 hvm.symm (hgood _ (List.mem_cons_of_mem _ List.mem_cons_self)) hini
  have hU' : vx_Zq Bundle.tN "UNASSIGNED_STACK" Bundle.steD A s' s'.heap := by rw [hhp]; exact vx_Zq.moved hW0.alike (hU.kept hS.2.1)
  have hN' : vx_Zq Bundle.tN "SUPPRESSED_SENTINEL" Bundle.listD A s' s'.heap := by rw [hhp]; exact vx_Zq.moved hW0.alike (hN.kept hS.2.1)
  have h : ∀ w ∈ Bundle.ownAtoms0 own ic cls names, w.before args s' = true := vx_own hat' (vx_isRefq hU'.1) (vx_isRefq hN'.1) hU'.2.word hN'.2.word
  have hown' : s'.vm.findClass own = some m.cls := by rw [hvm]; exact hown
  have hins : (Cond.instantiable cls 6).before args s' = true := h _ (by simp [Bundle.ownAtoms0])
  obtain ⟨vm₁, cX, kX, hfX, hkX, -, -, X₁, st1⟩ := Y.newCold hexec (own := own) (C := cls) (index := ik) (n := 6) hown' hk' hins hini'
    (g := F0 m pc ls rest) rfl (by rw [hb]; exact d0) (Nat.le_refl _) (Nat.le_refl _)
  generalize hT1 : (T.setVm vm₁).pushCell { cls := cX, slots := kX.instanceTypes.map defaultValue, vm := .none } = T1 at X₁ st1
  have hcat : (Value.ref T.heap.size).category = 1 := rfl
  have hcellA : T1.heap[T.heap.size]? = some (freshCell cX kX) := by rw [← hT1]; exact State.heap_pushCell_size _ _
  have d3' : decode c.code (pc + 3) = .ok (.dup, 1) := by rw [hb]; exact d3
  obtain ⟨U, hsteps, hrun, hend, hW, hsame, ce, hce, hO⟩ := X₁.ctorThrow0 hexec htr (own := own) (cls := cls) (names := names) (ic := ic) hown' hcls hnames h (fun x hx => nomatch hx) hfX hkX hcellA (by rw [hhp, hT]; exact Nat.le_refl _)
    (g := { method := m, pc := pc + 4, locals := ls, stack := .ref T.heap.size :: .ref T.heap.size :: rest, locked := none }) rfl hsize rfl rfl (rest := rest) rfl
    (by rw [hb]; exact d4) (by rw [hb]; exact d7) hout hRframes (by simp only [List.map_cons, List.sum_cons, hcat]; omega) hlocks
  obtain ⟨f1, f2⟩ := vx_frame hsame
  rw [hhp] at f1 f2
  have hWs : s.WarmedH U.vm := State.WarmedH.trans hW0 hW
  have hcl : s.vm.findClass cls = some ce.cls := by
    have h9 := hO.cls
    rw [hvm] at h9
    exact h9
  have hall : s.sameButNew ({ U with vm := s.vm } : State) locs mc ms := by
    subst hA
    obtain ⟨e1, e2⟩ := hsame
    rw [State.setFrames_setFrames] at e1
    have h2 : (T.setVm s.vm).sameButNew ({ U with vm := s.vm } : State) [] (0 + 1) (0 + 6) := ⟨e1, e2⟩
    have h3 := X.same.trans h2
    rw [List.append_nil] at h3
    exact h3.mono hc hs
  refine ⟨U, ?_, .threw T.heap.size, hrun, hend, Or.inr ⟨T.heap.size, rfl, cls, ce, locs, hx U hWs.alike f1 (fun q hq => f2 q hq (fun z hz => nomatch hz)), hce, hO.vm, hcl, hWs, hall, hf⟩⟩
  refine st1 _ ?_
  show Steps p.tables e below (T1.setTop { method := m, pc := pc + 3, locals := ls, stack := .ref T.heap.size :: rest, locked := none }) _
  jvm_step X₁.here [X₁.here.top, hexec, d3', Value.category]
  exact hsteps
/-- 'throw new E("text")': new; dup; ldc; invokespecial; athrow -/
theorem vx_throwS {cc : ByteArray} {pc : Nat} (hexec : p.tables.exec = Jvm.exec) (hb : c.code = cc) (hl : l.stackTraces = false) {own cls text : String} {names : List String} {ik is ic mc ms sa : Nat} {A : Nat → Prop}
    (hown : s.vm.findClass own = some m.cls) (hcls : Bundle.fit cls = true) (hnames : ∀ n ∈ names, Bundle.fit n = true)
    (hk : (Cond.classLink own ik cls).before args s = true) (hini : (Cond.initialized cls).before args s = true) (hstr : vk_R own is text sa s) (hat : ∀ w ∈ vx_atS own ic cls names, w.before args s = true)
    (hgood : ∀ w ∈ Cond.classLink own ik cls :: Cond.initialized cls :: vx_atS own ic cls names, vx_ot w = true)
    (hU : vx_Zq Bundle.tN "UNASSIGNED_STACK" Bundle.steD A s s.heap) (hN : vx_Zq Bundle.tN "SUPPRESSED_SENTINEL" Bundle.listD A s s.heap) (hS : va_S A s.heap H locs) (hsize : ls.size = c.maxLocals)
    (d0 : decode cc pc = .ok (.new ik, 3)) (d3 : decode cc (pc + 3) = .ok (.dup, 1)) (d4 : decode cc (pc + 4) = .ok (.ldc is, 2)) (d6 : decode cc (pc + 6) = .ok (.invokespecial ic, 3)) (d9 : decode cc (pc + 9) = .ok (.athrow, 1))
    (hout : ∀ x ∈ c.exceptionTable.toList, covers x (pc + 9) = false)
    (hRframes : names.length + 3 < R.frames) (hRlocals : (rest.map fun v => v.category).sum + (13 * (names.length + 1) + 43) ≤ R.locals) (hRcells : cells + 1 ≤ R.cells) (hRslots : slots + 6 ≤ R.slots) (hlocks : meth.locks = false)
    (hx : ∀ t : State, s.vm.Alike t.vm → H.size ≤ t.heap.size → (∀ q : Nat, q < H.size → t.heap[q]? = H[q]?) → XC cls s t)
    (hf : ∀ z ∈ locs, free z.base) (hc : cells + 1 ≤ mc) (hs : slots + 6 ≤ ms) :
    W p l e R s m args below meth c H locs cells slots (vx_MQ below Qc XC args s mc ms free) (F0 m pc ls rest) := by
  intro T hT X
  have htr : e.platform.stackTraces = false := (show e.platform.stackTraces = l.stackTraces by rw [X.admits.platform]).trans hl
  have Y := vx_rebase X (R' := { frames := R.frames, locals := R.locals, cells := 1, slots := 6 }) (Nat.le_refl _) (Nat.le_refl _) hRcells hRslots
  obtain ⟨s', hA⟩ : ∃ z, z = (T.setVm s.vm).setFrames (.invoking m args :: below) := ⟨_, rfl⟩
  rw [← hA] at Y
  have hvm : s'.vm = s.vm := by rw [hA]; rfl
  have hhp : s'.heap = H := by rw [hA]; exact hT
  have hW0 : s.WarmedH s'.vm := by rw [hvm]; exact State.WarmedH.refl s
  have hat' : ∀ w ∈ vx_atS own ic cls names, w.before args s' = true := fun w hw => vx_ot_at hW0 hvm.symm (hgood w (List.mem_cons_of_mem _ (List.mem_cons_of_mem _ hw))) (hat w hw)
  have hk' : (Cond.classLink own ik cls).before args s' = true := vx_ot_at hW0 hvm.symm (hgood _ List.mem_cons_self) hk
  have hini' : (Cond.initialized cls).before args s' = true := vx_ot_at hW0 hvm.symm (hgood _ (List.mem_cons_of_mem _ List.mem_cons_self)) hini
  have hU' : vx_Zq Bundle.tN "UNASSIGNED_STACK" Bundle.steD A s' s'.heap := by rw [hhp]; exact vx_Zq.moved hW0.alike (hU.kept hS.2.1)
  have hN' : vx_Zq Bundle.tN "SUPPRESSED_SENTINEL" Bundle.listD A s' s'.heap := by rw [hhp]; exact vx_Zq.moved hW0.alike (hN.kept hS.2.1)
  have h : ∀ w ∈ Bundle.ownAtoms own ic cls names, w.before args s' = true := vx_own hat' (vx_isRefq hU'.1) (vx_isRefq hN'.1) hU'.2.word hN'.2.word
  have hown' : s'.vm.findClass own = some m.cls := by rw [hvm]; exact hown
  have hins : (Cond.instantiable cls 6).before args s' = true := h _ (by simp [Bundle.ownAtoms])
  obtain ⟨vm₁, cX, kX, hfX, hkX, -, -, X₁, st1⟩ := Y.newCold hexec (own := own) (C := cls) (index := ik) (n := 6) hown' hk' hins hini'
    (g := F0 m pc ls rest) rfl (by rw [hb]; exact d0) (Nat.le_refl _) (Nat.le_refl _)
  generalize hT1 : (T.setVm vm₁).pushCell { cls := cX, slots := kX.instanceTypes.map defaultValue, vm := .none } = T1 at X₁ st1
  have hcat : (Value.ref T.heap.size).category = 1 := rfl
  have hcellA : T1.heap[T.heap.size]? = some (freshCell cX kX) := by rw [← hT1]; exact State.heap_pushCell_size _ _
  have d3' : decode c.code (pc + 3) = .ok (.dup, 1) := by rw [hb]; exact d3
  have d4' : decode c.code (pc + 4) = .ok (.ldc is, 2) := by rw [hb]; exact d4
  have hstr' : vk_R own is text sa s' := vk_R.warm hW0 hstr
  obtain ⟨U, hsteps, hrun, hend, hW, hsame, ce, hce, hO⟩ := X₁.ctorThrowS hexec htr (own := own) (cls := cls) (names := names) (ic := ic) hown' hcls hnames h (fun x hx => nomatch hx) hfX hkX hcellA (by rw [hhp, hT]; exact Nat.le_refl _) (msg := .ref sa) rfl
    (g := { method := m, pc := pc + 6, locals := ls, stack := .ref sa :: .ref T.heap.size :: .ref T.heap.size :: rest, locked := none }) rfl hsize rfl rfl (rest := rest) rfl
    (by rw [hb]; exact d6) (by rw [hb]; exact d9) hout hRframes (by simp only [List.map_cons, List.sum_cons, hcat]; omega) hlocks
  obtain ⟨f1, f2⟩ := vx_frame hsame
  rw [hhp] at f1 f2
  have hWs : s.WarmedH U.vm := State.WarmedH.trans hW0 hW
  have hcl : s.vm.findClass cls = some ce.cls := by
    have h9 := hO.cls
    rw [hvm] at h9
    exact h9
  have hall : s.sameButNew ({ U with vm := s.vm } : State) locs mc ms := by
    subst hA
    obtain ⟨e1, e2⟩ := hsame
    rw [State.setFrames_setFrames] at e1
    have h2 : (T.setVm s.vm).sameButNew ({ U with vm := s.vm } : State) [] (0 + 1) (0 + 6) := ⟨e1, e2⟩
    have h3 := X.same.trans h2
    rw [List.append_nil] at h3
    exact h3.mono hc hs
  refine ⟨U, ?_, .threw T.heap.size, hrun, hend, Or.inr ⟨T.heap.size, rfl, cls, ce, locs, hx U hWs.alike f1 (fun q hq => f2 q hq (fun z hz => nomatch hz)), hce, hO.vm, hcl, hWs, hall, hf⟩⟩
  refine st1 _ ?_
  show Steps p.tables e below (T1.setTop { method := m, pc := pc + 3, locals := ls, stack := .ref T.heap.size :: rest, locked := none }) _
  jvm_step X₁.here [X₁.here.top, hexec, d3', Value.category]
  exact X₁.ldcString hexec (own := own) (text := text) (index := is) (a := sa) hown' hstr'.1 hstr'.2
    (g := { method := m, pc := pc + 4, locals := ls, stack := .ref T.heap.size :: .ref T.heap.size :: rest, locked := none }) rfl d4' _ hsteps
/-- 'throw new E("text")', the text by a wide index -/
theorem vx_throwSW {cc : ByteArray} {pc : Nat} (hexec : p.tables.exec = Jvm.exec) (hb : c.code = cc) (hl : l.stackTraces = false) {own cls text : String} {names : List String} {ik is ic mc ms sa : Nat} {A : Nat → Prop}
    (hown : s.vm.findClass own = some m.cls) (hcls : Bundle.fit cls = true) (hnames : ∀ n ∈ names, Bundle.fit n = true)
    (hk : (Cond.classLink own ik cls).before args s = true) (hini : (Cond.initialized cls).before args s = true) (hstr : vk_R own is text sa s) (hat : ∀ w ∈ vx_atS own ic cls names, w.before args s = true)
    (hgood : ∀ w ∈ Cond.classLink own ik cls :: Cond.initialized cls :: vx_atS own ic cls names, vx_ot w = true)
    (hU : vx_Zq Bundle.tN "UNASSIGNED_STACK" Bundle.steD A s s.heap) (hN : vx_Zq Bundle.tN "SUPPRESSED_SENTINEL" Bundle.listD A s s.heap) (hS : va_S A s.heap H locs) (hsize : ls.size = c.maxLocals)
    (d0 : decode cc pc = .ok (.new ik, 3)) (d3 : decode cc (pc + 3) = .ok (.dup, 1)) (d4 : decode cc (pc + 4) = .ok (.ldc_w is, 3)) (d7 : decode cc (pc + 7) = .ok (.invokespecial ic, 3)) (d10 : decode cc (pc + 10) = .ok (.athrow, 1))
    (hout : ∀ x ∈ c.exceptionTable.toList, covers x (pc + 10) = false)
    (hRframes : names.length + 3 < R.frames) (hRlocals : (rest.map fun v => v.category).sum + (13 * (names.length + 1) + 43) ≤ R.locals) (hRcells : cells + 1 ≤ R.cells) (hRslots : slots + 6 ≤ R.slots) (hlocks : meth.locks = false)
    (hx : ∀ t : State, s.vm.Alike t.vm → H.size ≤ t.heap.size → (∀ q : Nat, q < H.size → t.heap[q]? = H[q]?) → XC cls s t)
    (hf : ∀ z ∈ locs, free z.base) (hc : cells + 1 ≤ mc) (hs : slots + 6 ≤ ms) :
    W p l e R s m args below meth c H locs cells slots (vx_MQ below Qc XC args s mc ms free) (F0 m pc ls rest) := by
  intro T hT X
  have htr : e.platform.stackTraces = false := (show e.platform.stackTraces = l.stackTraces by rw [X.admits.platform]).trans hl
  have Y := vx_rebase X (R' := { frames := R.frames, locals := R.locals, cells := 1, slots := 6 }) (Nat.le_refl _) (Nat.le_refl _) hRcells hRslots
  obtain ⟨s', hA⟩ : ∃ z, z = (T.setVm s.vm).setFrames (.invoking m args :: below) := ⟨_, rfl⟩
  rw [← hA] at Y
  have hvm : s'.vm = s.vm := by rw [hA]; rfl
  have hhp : s'.heap = H := by rw [hA]; exact hT
  have hW0 : s.WarmedH s'.vm := by rw [hvm]; exact State.WarmedH.refl s
  have hat' : ∀ w ∈ vx_atS own ic cls names, w.before args s' = true := fun w hw => vx_ot_at hW0 hvm.symm (hgood w (List.mem_cons_of_mem _ (List.mem_cons_of_mem _ hw))) (hat w hw)
  have hk' : (Cond.classLink own ik cls).before args s' = true := vx_ot_at hW0 hvm.symm (hgood _ List.mem_cons_self) hk
  have hini' : (Cond.initialized cls).before args s' = true := vx_ot_at hW0 hvm.symm (hgood _ (List.mem_cons_of_mem _ List.mem_cons_self)) hini
  have hU' : vx_Zq Bundle.tN "UNASSIGNED_STACK" Bundle.steD A s' s'.heap := by rw [hhp]; exact vx_Zq.moved hW0.alike (hU.kept hS.2.1)
  have hN' : vx_Zq Bundle.tN "SUPPRESSED_SENTINEL" Bundle.listD A s' s'.heap := by rw [hhp]; exact vx_Zq.moved hW0.alike (hN.kept hS.2.1)
  have h : ∀ w ∈ Bundle.ownAtoms own ic cls names, w.before args s' = true := vx_own hat' (vx_isRefq hU'.1) (vx_isRefq hN'.1) hU'.2.word hN'.2.word
  have hown' : s'.vm.findClass own = some m.cls := by rw [hvm]; exact hown
  have hins : (Cond.instantiable cls 6).before args s' = true := h _ (by simp [Bundle.ownAtoms])
  obtain ⟨vm₁, cX, kX, hfX, hkX, -, -, X₁, st1⟩ := Y.newCold hexec (own := own) (C := cls) (index := ik) (n := 6) hown' hk' hins hini'
    (g := F0 m pc ls rest) rfl (by rw [hb]; exact d0) (Nat.le_refl _) (Nat.le_refl _)
  generalize hT1 : (T.setVm vm₁).pushCell { cls := cX, slots := kX.instanceTypes.map defaultValue, vm := .none } = T1 at X₁ st1
  have hcat : (Value.ref T.heap.size).category = 1 := rfl
  have hcellA : T1.heap[T.heap.size]? = some (freshCell cX kX) := by rw [← hT1]; exact State.heap_pushCell_size _ _
  have d3' : decode c.code (pc + 3) = .ok (.dup, 1) := by rw [hb]; exact d3
  have d4' : decode c.code (pc + 4) = .ok (.ldc_w is, 3) := by rw [hb]; exact d4
  have hstr' : vk_R own is text sa s' := vk_R.warm hW0 hstr
  obtain ⟨U, hsteps, hrun, hend, hW, hsame, ce, hce, hO⟩ := X₁.ctorThrowS hexec htr (own := own) (cls := cls) (names := names) (ic := ic) hown' hcls hnames h (fun x hx => nomatch hx) hfX hkX hcellA (by rw [hhp, hT]; exact Nat.le_refl _) (msg := .ref sa) rfl
    (g := { method := m, pc := pc + 7, locals := ls, stack := .ref sa :: .ref T.heap.size :: .ref T.heap.size :: rest, locked := none }) rfl hsize rfl rfl (rest := rest) rfl
    (by rw [hb]; exact d7) (by rw [hb]; exact d10) hout hRframes (by simp only [List.map_cons, List.sum_cons, hcat]; omega) hlocks
  obtain ⟨f1, f2⟩ := vx_frame hsame
  rw [hhp] at f1 f2
  have hWs : s.WarmedH U.vm := State.WarmedH.trans hW0 hW
  have hcl : s.vm.findClass cls = some ce.cls := by
    have h9 := hO.cls
    rw [hvm] at h9
    exact h9
  have hall : s.sameButNew ({ U with vm := s.vm } : State) locs mc ms := by
    subst hA
    obtain ⟨e1, e2⟩ := hsame
    rw [State.setFrames_setFrames] at e1
    have h2 : (T.setVm s.vm).sameButNew ({ U with vm := s.vm } : State) [] (0 + 1) (0 + 6) := ⟨e1, e2⟩
    have h3 := X.same.trans h2
    rw [List.append_nil] at h3
    exact h3.mono hc hs
  refine ⟨U, ?_, .threw T.heap.size, hrun, hend, Or.inr ⟨T.heap.size, rfl, cls, ce, locs, hx U hWs.alike f1 (fun q hq => f2 q hq (fun z hz => nomatch hz)), hce, hO.vm, hcl, hWs, hall, hf⟩⟩
  refine st1 _ ?_
  show Steps p.tables e below (T1.setTop { method := m, pc := pc + 3, locals := ls, stack := .ref T.heap.size :: rest, locked := none }) _
  jvm_step X₁.here [X₁.here.top, hexec, d3', Value.category]
  exact X₁.ldcStringW hexec (own := own) (text := text) (index := is) (a := sa) hown' hstr'.1 hstr'.2
    (g := { method := m, pc := pc + 4, locals := ls, stack := .ref T.heap.size :: .ref T.heap.size :: rest, locked := none }) rfl d4' _ hsteps
end Ends
section Bodies
variable {l : Launch}
theorem vx_ofW {y : MethodName} {ws ws' : List Cond} {rm : Room} {Pc : Array Value → State → Prop} {Qc : Array Value → State → Outcome → State → Prop} {XC : String → State → State → Prop} {mc ms : Nat} {free : Addr → Prop} {cc : ByteArray} {maxL : Nat} {ret : Option FieldType}
    (hy : plainName y.cls = true) (hw : ws = Cond.code y cc maxL ret :: ws')
    (body : ∀ p e s m args below meth c s₁, BodyLoose p l y (headSpec ws rm) cc maxL ret e s m args below meth c s₁ → c.maxLocals = maxL → (∀ x ∈ c.exceptionTable.toList, False) → Pc args s →
      W p l e (headSpec ws rm).room s m args below meth c s.heap [] 0 0 (vx_MQ below Qc XC args s mc ms free) (entryFrame m args maxL)) : vx_Met l y ws rm Pc Qc XC mc ms free := by
  refine MetFree.of_bodyS (code := cc) (maxLocals := maxL) (ret := ret) hy ?_ ?_
  · intro args s m h hn
    obtain ⟨meth, c, h1, h2, h3, h4, h5, h6, -, -⟩ := Cond.code_spec hn (atoms_spec (ws := ws) h _ (by rw [hw]; exact List.mem_cons_self))
    exact ⟨meth, c, h1, h2, h3, h4, h5, h6⟩
  · intro p e s m args below meth c s₁ B hml hP _
    have hh0 : s₁.heap = s.heap := by rw [B.state]; rfl
    have ht : ∀ x ∈ c.exceptionTable.toList, False := by
      obtain ⟨meth9, c9, h1, h2, -, -, -, -, h7, -⟩ := Cond.code_spec B.named (atoms_spec (ws := ws) B.pre _ (by rw [hw]; exact List.mem_cons_self))
      cases Option.some.inj (h1.symm.trans B.method)
      cases Option.some.inj (h2.symm.trans (Stand.of_body B).code)
      intro x hx
      rw [Array.isEmpty_iff.mp h7] at hx
      cases hx
    obtain ⟨t, a1, o, b1, b2, b3⟩ := body p e s m args below meth c s₁ B hml ht hP s₁ hh0 (Stand.of_body B)
    exact ⟨t, o, a1, b1, b2, b3⟩
/-- the table of a body with handlers -/
theorem vx_table {p : Program} {x y : MethodName} {S : Spec} {cc bytes : ByteArray} {maxL maxL' : Nat} {ret ret' : Option FieldType} {e : Env} {s s₁ : State} {m : MethodId} {args : Array Value} {below : List Frame} {meth : Method} {c : Code} {hh : List (Nat × Nat × Nat × Nat)}
    (B : BodyLoose p l y S cc maxL ret e s m args below meth c s₁) (h : (Cond.codeWith y bytes maxL' ret' hh).before args s = true) : c.exceptionTable.toList = tableOf hh := by
  obtain ⟨m9, meth9, c9, hn9, h1, h2, -, -, h6, -⟩ := Cond.codeWith_spec h
  cases Option.some.inj (hn9.symm.trans B.named)
  cases Option.some.inj (h1.symm.trans B.method)
  cases Option.some.inj (h2.symm.trans (Stand.of_body B).code)
  rw [← h6, table_eq]
end Bodies
end VXA
/-! ===== END ===== -/
/-! ===== BEGIN a static call of a method with an exception table ===== -/
section VXS
variable {p : Program} {l : Launch} {e : Env} {R : Room} {s : State} {m : MethodId} {args : Array Value} {below : List Frame} {meth : Method} {c : Code} {T : State} {H : Heap} {locs : List Loc} {cells slots : Nat}
abbrev vx_CSW (R : Room) (s : State) (args : Array Value) (own : String) (index : Nat) (y : MethodName) (bytes : ByteArray) (maxL : Nat) (ret : Option FieldType) (hh : List (Nat × Nat × Nat × Nat)) (ws : List Cond) (rm : Room) (mc ms n : Nat) : Prop :=
  (rm.cells = mc ∧ rm.slots = ms ∧ rm.frames + 1 ≤ R.frames ∧ 8 + (maxL + 11) + rm.locals ≤ R.locals ∧ (∀ w ∈ ws, ∀ (a' : Array Value) (U : State), s.WarmedH U.vm → w.before a' U = true) ∧ Cond.codeWith y bytes maxL ret hh ∈ ws) ∧
  (Cond.codeWith y bytes maxL ret hh).before args s = true ∧ (Cond.initialized y.cls).before args s = true ∧ (y.cls ≠ "java/lang/invoke/MethodHandle" ∧ y.cls ≠ "java/lang/invoke/VarHandle") ∧
  (∀ sig, parseMethodDescriptor y.desc = some sig → n = sig.parameters.length) ∧ (Cond.methodLink own index y).before args s = true ∧ (Cond.static y).before args s = true
theorem vx_cwSW {own : String} {index maxL mc ms : Nat} {y : MethodName} {bytes : ByteArray} {ret : Option FieldType} {hh : List (Nat × Nat × Nat × Nat)} {Ts ws ws' : List Cond} {rm : Room} (n : Nat) (ht : ∀ w ∈ Ts, w.before args s = true) (hT : GoodIn Ts (va_wsS own index y ws)) (hw : ws = Cond.codeWith y bytes maxL ret hh :: ws') (hrc : rm.cells = mc) (hrs : rm.slots = ms)
    (hd : y.cls ≠ "java/lang/invoke/MethodHandle" ∧ y.cls ≠ "java/lang/invoke/VarHandle" ∧ (parseMethodDescriptor y.desc).map (fun d => d.parameters.length) = some n) (hR : rm.frames + 1 ≤ R.frames ∧ 8 + (maxL + 11) + rm.locals ≤ R.locals) :
    vx_CSW R s args own index y bytes maxL ret hh ws rm mc ms n := by
  have ok : ∀ w ∈ va_wsS own index y ws, w.before args s = true := fun w h => ht w (hT w h).1
  have hG : GoodIn Ts ws := fun w h => hT w (by unfold va_wsS; exact List.mem_append_right _ h)
  have hc : Cond.codeWith y bytes maxL ret hh ∈ ws := by rw [hw]; exact List.mem_cons_self
  refine ⟨⟨hrc, hrs, hR.1, hR.2, pay_in ht hG, hc⟩, ht _ (hG _ hc).1, ok _ (by simp [va_wsS]), ⟨hd.1, hd.2.1⟩, fun sig h => ?_, ok _ (by simp [va_wsS]), ok _ (by simp [va_wsS])⟩
  have h2 := hd.2.2
  rw [h] at h2
  exact (Option.some.inj h2).symm
theorem vx_callSW (X : Stand p l e R s m args below meth c T locs cells slots) (hexec : p.tables.exec = Jvm.exec) {own : String} {index : Nat} {y : MethodName} {bytes : ByteArray} {maxL : Nat} {ret : Option FieldType} {hh : List (Nat × Nat × Nat × Nat)}
    (hown : s.vm.findClass own = some m.cls) (hlink : (Cond.methodLink own index y).before args s = true) (hstat : (Cond.static y).before args s = true) (hinit : (Cond.initialized y.cls).before args s = true)
    (hcode : (Cond.codeWith y bytes maxL ret hh).before args s = true) (hy : y.cls ≠ "java/lang/invoke/MethodHandle" ∧ y.cls ≠ "java/lang/invoke/VarHandle")
    {W9 : Nat} {Pre : Pt → Array Value → Prop} {Post : Pt → Array Value → Option Value → Pt → Prop} (hK : Back l R p e below s args y 3 W9 Pre Post)
    {g : JFrame} (hg : g.method = m) (hsize : g.locals.size = c.maxLocals) {argsL rest : List Value} (hlen : ∀ sig, parseMethodDescriptor y.desc = some sig → argsL.length = sig.parameters.length)
    (hstack : g.stack = argsL.reverse ++ rest) (hW : 2 * g.monitorRoom + (rest.map fun v => v.category).sum ≤ W9) (hdg : decode c.code g.pc = .ok (.invokestatic index, 3))
    (hpre : ∀ vm₁, s.WarmedH vm₁ → Pre ⟨T.setVm vm₁, locs, cells, slots⟩ argsL.toArray) :
    ∃ (v : Option Value) (vm₁ : Vm) (B : Pt), s.WarmedH vm₁ ∧ Stand p l e R s m args below meth c B.U B.locs B.cells B.slots ∧ Post ⟨T.setVm vm₁, locs, cells, slots⟩ argsL.toArray v B ∧
      ∀ target, Steps p.tables e below (B.U.setTop { g with pc := g.pc + 3, stack := v.toList ++ rest }) target → Steps p.tables e below (T.setTop g) target := by
  obtain ⟨mk, methM, cM, hnamed, hmethM, -, -, -, -, -, -, hsigM⟩ := Cond.codeWith_spec hcode
  have hstatic : methM.isStatic = true := Cond.static_spec hnamed hmethM hstat
  obtain ⟨kP, hkP, -⟩ := className_of_methodNamed hnamed
  have hinitP : kP.init = .initialized := Cond.initialized_spec (findClass_of_methodNamed hnamed) hkP hinit
  obtain ⟨vm₁, X₁, hstep₁⟩ := X.invokestatic hexec hown hlink hnamed hmethM hstatic hkP hinitP hy (g := g) hg (argsL := argsL) (rest := rest) (hlen _ hsigM) hstack hdg
  obtain ⟨v, B, X', hpost, hsteps⟩ := hK m meth c ⟨T.setVm vm₁, locs, cells, slots⟩ { g with stack := rest } (.invokestatic index) mk argsL.toArray X₁ hg hsize hdg hW (X₁.named hnamed) (hpre vm₁ X₁.warmed)
  exact ⟨v, vm₁, B, X₁.warmed, X', hpost, fun target h => hstep₁ _ fun acts => by rw [doInvoke_state]; exact hsteps.trans h⟩
theorem vx_runSW {y : MethodName} {bytes cc : ByteArray} {maxL nL mc ms n index : Nat} {ret : Option FieldType} {hh : List (Nat × Nat × Nat × Nat)} {ws : List Cond} {rm : Room} {Pc : Array Value → State → Prop} {Qc : Array Value → State → Outcome → State → Prop} {free : Addr → Prop} {Ts : List Cond} {own : String} {As rest : List Value} {g : JFrame}
    (S : CallFix p m c cc nL s args Ts own) (hM : Met l y ws rm Pc Qc mc ms free) (cw : vx_CSW R s args own index y bytes maxL ret hh ws rm mc ms n) (hp : PreS s H Pc As)
    (hg : g.method = m) (hn : As.length = n) (hsize : g.locals.size = nL) (hstack : g.stack = As.reverse ++ rest) (hW : 2 * g.monitorRoom + (rest.map fun v => v.category).sum ≤ 8) (hdg : decode cc g.pc = .ok (.invokestatic index, 3)) (hf : cells + mc ≤ R.cells ∧ slots + ms ≤ R.slots) :
    va_Run p l e R s m args below meth c H locs cells slots mc ms g rest (Qc As.toArray) (free) := by
  obtain ⟨⟨hrc, hrs, hfr, hlo, hws, hcw⟩, hcode, hini, hy, hlen, hl, hstt⟩ := cw
  have hK : Back l R p e below s args y 3 8 (PreOf R mc ms Pc) (PostOf Qc mc ms free) := va_backW (hh := hh) (bytes := bytes) (maxL := maxL) (ret := ret) hM hp.1 hrc hrs hfr hlo hws hcw (fun a' U hW => word_at hW (Or.inl (by first | rfl | simp [Cond.onTables, Cond.keeps, Cond.steady])) hini)
  obtain ⟨hx, hb, hml, ho, -⟩ := S
  intro T hT X
  obtain ⟨v, vm₁, ⟨U', l2, c2, s2⟩, hW₁, X', ⟨g', mk, t, L, e1, e2, hq, h1, hL, h2, h3⟩, st⟩ := vx_callSW X hx (hh := hh) (bytes := bytes) (maxL := maxL) (ret := ret) ho hl hstt hini hcode hy hK hg (hsize.trans hml.symm) (argsL := As) (rest := rest) (fun sig h => hn.trans (hlen sig h)) hstack hW (by rw [hb]; exact hdg)
    (fun vm₁ hW₁ => ⟨hf.1, hf.2, hp.2 (T.setVm vm₁) hT hW₁⟩)
  dsimp only [Pt.U, Pt.locs, Pt.cells, Pt.slots] at X' e1 e2 h1 h2 h3 st
  subst h1; subst h2; subst h3
  exact ⟨v, (T.setVm vm₁).calling g' mk As.toArray, t, U', L, hT, X', hL, e1, e2, hq, st⟩
/-- a thing of a world lies in the heap -/
theorem vx_lt {D : va_G} {cl : List vw_C} {ws : va_W} {H1 : Heap} (h : va_P D cl ws H1) {k : Nat} {q : Nat × va_E} (hk : ws[k]? = some q) : q.1 < H1.size := (h k q hk).lt
end VXS
/-! ===== END ===== -/
/-! ===== BEGIN methods with a table of their own: called by a name, returning or throwing ===== -/
section VXH
/-! vx_backW, vx_callVX, vx_callSX, vx_callVW, vx_runVW, vx_runVX, vx_runSX, vx_ofWH follow the same proofs as their sisters above (Free/Laws.lean, Shelf42/LK1.lean); vx_outP calls Shelf42/NT130.lean (outThrough). -/
section
variable {l : Launch} {R : Room} {p : Program} {e : Env} {below : List Frame} {s : State} {sargs : Array Value} {y : MethodName} {len W9 : Nat}
theorem vx_backW {ws : List Cond} {rm : Room} {Pc : Array Value → State → Prop} {Qc : Array Value → State → Outcome → State → Prop} {XC : String → State → State → Prop} {mc ms : Nat} {free : Addr → Prop} {bytes : ByteArray} {maxL : Nat} {ret : Option FieldType} {hh : List (Nat × Nat × Nat × Nat)}
    (hM : vx_Met l y ws rm Pc Qc XC mc ms free) (hblind : FrameBlind Pc) (hrc : rm.cells = mc) (hrs : rm.slots = ms)
    (hframes : rm.frames + 1 ≤ R.frames) (hlocals : W9 + (maxL + 11) + rm.locals ≤ R.locals)
    (hws : ∀ w ∈ ws, ∀ a' U, s.WarmedH U.vm → w.before a' U = true) (hcode : Cond.codeWith y bytes maxL ret hh ∈ ws) (hinit : ∀ a' U, s.WarmedH U.vm → (Cond.initialized y.cls).before a' U = true) :
    vx_Back l R p e below s sargs y len W9 (PreOf R mc ms Pc) (PostOf Qc mc ms free) (vx_Post XC mc ms free) := by
  intro m meth c A g ig mk a X hg hsize hdg hW hn hp
  have h1 : (headSpec ws rm).pre.before a A.U = true := atoms_intro fun w hw => hws w hw _ _ X.warmed
  have h2 : (Cond.codeWith y bytes maxL ret hh).before a A.U = true := hws _ hcode _ _ X.warmed
  have h3 : (Cond.initialized y.cls).before a A.U = true := hinit _ _ X.warmed
  have h4 : A.cells + (headSpec ws rm).room.cells ≤ R.cells := by rw [show (headSpec ws rm).room.cells = mc from hrc]; exact hp.1
  have h5 : A.slots + (headSpec ws rm).room.slots ≤ R.slots := by rw [show (headSpec ws rm).room.slots = ms from hrs]; exact hp.2.1
  have hPc : Pc a (A.U.calling g mk a) := hblind _ _ _ _ hp.2.2
  obtain ⟨U, Ls, c0, s0⟩ := A
  dsimp only [Pt.U, Pt.locs, Pt.cells, Pt.slots] at h1 h2 h3 h4 h5 X hn hPc ⊢
  obtain ⟨m9, methY, cY, hn9, hmY, hcY, -, hlY, -⟩ := Cond.codeWith_spec h2
  cases Option.some.inj (hn9.symm.trans hn)
  obtain ⟨kY, hkY, -⟩ := className_of_methodNamed hn
  have hinitY : kY.init = .initialized := Cond.initialized_spec (findClass_of_methodNamed hn) hkY h3
  have h : At U g.method c below := by rw [hg]; exact X.here
  have hlocals9 : W9 + (maxL + 11) + (headSpec ws rm).room.locals ≤ R.locals := hlocals
  have happ : (headSpec ws rm).appliesLoose y e.platform (U.calling g mk a) = true :=
    Spec.appliesLoose_calling (g := g) h hdg hn hkY hinitY
      (X.room_calling (g := g) (R' := (headSpec ws rm).room) hsize hmY hcY hframes (by rw [hlY]; omega) h4 h5) h1
  obtain ⟨mid, hmid⟩ := h.above
  have hfr : (U.setTop g).frames = (.java g :: mid) ++ below := by rw [State.frames_setTop' g h.top, hmid]; rfl
  obtain ⟨o, s₂, hsteps, -, hend, hq⟩ := Steps.callFree hM p X.admits X.cas X.clock (acts := []) hfr happ hPc trivial
  have hq' : vx_Q Qc XC mc ms free a (U.calling g mk a) o s₂ := hq
  rw [State.frames_setTop' g h.top] at hend
  obtain ⟨g₀, hg0⟩ := Option.isSome_iff_exists.mp h.top
  obtain ⟨r, hr⟩ := State.topJava?_eq_some.mp hg0
  have hr' : (({ U with heap := s₂.heap, slotsUsed := s₂.slotsUsed } : State).setVm s₂.vm).frames = .java g₀ :: r := hr
  rcases hq' with ⟨hqc, L, hfe, hL⟩ | ⟨q, rfl, E, ce, L, hx, hce, hcv, hcl, hW₂, hsm, hL⟩
  · obtain ⟨⟨v, rfl⟩, hW₂, e2, q2, q3, q4, q5, q6⟩ := id hfe
    have e3 : s₂ = ({ (U.calling g mk a).setFrames s₂.frames with heap := s₂.heap, slotsUsed := s₂.slotsUsed } : State).setVm s₂.vm := by
      have : s₂ = ({ s₂ with vm := (U.calling g mk a).vm } : State).setVm s₂.vm := rfl
      rw [e2] at this
      exact this
    obtain ⟨c₂, i₂, len₂, hc₂, hd₂, hf₂⟩ := hend
    have hW' : U.WarmedH s₂.vm := hW₂
    have hcc : c₂ = c := by
      have h1 : s₂.code? g.method = U.code? g.method := by
        rw [State.code?_eq, State.code?_eq, hW'.alike.method?]
      exact Option.some.inj (hc₂.symm.trans (h1.trans h.code))
    subst hcc
    have hlen : len₂ = len := by rw [hdg] at hd₂; cases hd₂; rfl
    subst hlen
    have hs₂ : s₂ = (({ U with heap := s₂.heap, slotsUsed := s₂.slotsUsed } : State).setVm s₂.vm).setTop { g with pc := g.pc + len₂, stack := v.toList ++ g.stack } := by
      refine e3.trans ?_
      rw [hf₂, State.calling_eq h.top, State.setFrames_setFrames, State.setTop_of_frames _ hr', hr]
      rfl
    have hsame : U.sameButNew ({ U with heap := s₂.heap, slotsUsed := s₂.slotsUsed } : State) L mc ms := by
      refine ⟨?_, q2, q3, q4, q5, q6⟩
      obtain ⟨t, ht, -⟩ := State.frames_cons hr
      show ({ U with heap := s₂.heap, slotsUsed := s₂.slotsUsed } : State) = { U.setFrames U.frames with heap := s₂.heap, slotsUsed := s₂.slotsUsed }
      rw [State.setFrames_self ht]
    subst hg
    refine Or.inl ⟨v, ⟨(({ U with heap := s₂.heap, slotsUsed := s₂.slotsUsed } : State).setVm s₂.vm), Ls ++ L, c0 + mc, s0 + ms⟩,
      ⟨X.admits, X.cas, X.clock, X.frames, X.room, X.hears, X.method, X.code, (X.here.setHeapUsed s₂.heap s₂.slotsUsed).setVm hW'.alike, X.tail, State.WarmedH.trans X.warmed hW', X.limits, X.bytes, X.same.trans (hsame.setVm s.vm)⟩,
      ⟨g, mk, s₂, L, rfl, rfl, hqc, rfl, hL, rfl, rfl⟩, ?_⟩
    show Steps p.tables e below _ ((({ U with heap := s₂.heap, slotsUsed := s₂.slotsUsed } : State).setVm s₂.vm).setTop { g with pc := g.pc + len₂, stack := v.toList ++ g.stack })
    rw [← hs₂]
    exact hsteps
  · obtain ⟨e2, q2, q3, q4, q5, q6⟩ := id hsm
    have e3 : s₂ = ({ (U.calling g mk a).setFrames s₂.frames with heap := s₂.heap, slotsUsed := s₂.slotsUsed } : State).setVm s₂.vm := by
      have : s₂ = ({ s₂ with vm := (U.calling g mk a).vm } : State).setVm s₂.vm := rfl
      rw [e2] at this
      exact this
    have hf₂ : s₂.frames = .throwing q :: .java g :: U.frames.tail := hend
    have hW' : U.WarmedH s₂.vm := hW₂
    have hs₂ : s₂ = ((({ U with heap := s₂.heap, slotsUsed := s₂.slotsUsed } : State).setVm s₂.vm).setTop g).pushFrame (.throwing q) := by
      refine e3.trans ?_
      rw [hf₂, State.calling_eq h.top, State.setFrames_setFrames, State.pushFrame, State.frames_setTop _ hr', State.setTop_of_frames _ hr', State.setFrames_setFrames, hr]
      rfl
    have hsame : U.sameButNew ({ U with heap := s₂.heap, slotsUsed := s₂.slotsUsed } : State) L mc ms := by
      refine ⟨?_, q2, q3, q4, q5, q6⟩
      obtain ⟨t, ht, -⟩ := State.frames_cons hr
      show ({ U with heap := s₂.heap, slotsUsed := s₂.slotsUsed } : State) = { U.setFrames U.frames with heap := s₂.heap, slotsUsed := s₂.slotsUsed }
      rw [State.setFrames_self ht]
    subst hg
    refine Or.inr ⟨q, ⟨(({ U with heap := s₂.heap, slotsUsed := s₂.slotsUsed } : State).setVm s₂.vm), Ls ++ L, c0 + mc, s0 + ms⟩,
      ⟨X.admits, X.cas, X.clock, X.frames, X.room, X.hears, X.method, X.code, (X.here.setHeapUsed s₂.heap s₂.slotsUsed).setVm hW'.alike, X.tail, State.WarmedH.trans X.warmed hW', X.limits, X.bytes, X.same.trans (hsame.setVm s.vm)⟩,
      ⟨g, mk, s₂, L, E, ce, rfl, rfl, hx, hce, hcv, hcl, rfl, hL, rfl, rfl⟩, ?_⟩
    show Steps p.tables e below _ (((({ U with heap := s₂.heap, slotsUsed := s₂.slotsUsed } : State).setVm s₂.vm).setTop g).pushFrame (.throwing q))
    rw [← hs₂]
    exact hsteps
end
variable {p : Program} {l : Launch} {e : Env} {R : Room} {s : State} {m : MethodId} {args : Array Value} {below : List Frame} {meth : Method} {c : Code} {T : State} {H : Heap} {locs : List Loc} {cells slots : Nat}
theorem vx_callVX (X : Stand p l e R s m args below meth c T locs cells slots) (hexec : p.tables.exec = Jvm.exec) {own C : String} {index : Nat} {y : MethodName} {bytes : ByteArray} {maxL : Nat} {ret : Option FieldType} {hh : List (Nat × Nat × Nat × Nat)}
    (hown : s.vm.findClass own = some m.cls) (hlink : (Cond.methodLink own index y).before args s = true) (hinst : (Cond.instanceMethod y).before args s = true) (hsel : (Cond.selects C y y).before args s = true)
    (hcode : (Cond.codeWith y bytes maxL ret hh).before args s = true) (hy : y.cls ≠ "java/lang/invoke/MethodHandle" ∧ y.cls ≠ "java/lang/invoke/VarHandle")
    {W9 : Nat} {Pre : Pt → Array Value → Prop} {Post : Pt → Array Value → Option Value → Pt → Prop} {PostX : Pt → Array Value → Addr → Pt → Prop} (hK : vx_Back l R p e below s args y 3 W9 Pre Post PostX)
    {b : Addr} {cellB : Cell} (hcell : T.heap[b]? = some cellB) (hobj : cellB.vm.isStatics = false) (hcls : s.vm.findClass C = some cellB.cls)
    {g : JFrame} (hg : g.method = m) (hsize : g.locals.size = c.maxLocals) {argsL rest : List Value} (hlen : ∀ sig, parseMethodDescriptor y.desc = some sig → argsL.length = sig.parameters.length)
    (hstack : g.stack = argsL.reverse ++ .ref b :: rest) (hW : 2 * g.monitorRoom + (rest.map fun v => v.category).sum ≤ W9) (hdg : decode c.code g.pc = .ok (.invokevirtual index, 3))
    (hpre : ∀ vm₁, s.WarmedH vm₁ → Pre ⟨T.setVm vm₁, locs, cells, slots⟩ (Value.ref b :: argsL).toArray) :
    (∃ (v : Option Value) (vm₁ : Vm) (B : Pt), s.WarmedH vm₁ ∧ Stand p l e R s m args below meth c B.U B.locs B.cells B.slots ∧ Post ⟨T.setVm vm₁, locs, cells, slots⟩ (Value.ref b :: argsL).toArray v B ∧
      ∀ target, Steps p.tables e below (B.U.setTop { g with pc := g.pc + 3, stack := v.toList ++ rest }) target → Steps p.tables e below (T.setTop g) target) ∨
    (∃ (q : Addr) (vm₁ : Vm) (B : Pt), s.WarmedH vm₁ ∧ Stand p l e R s m args below meth c B.U B.locs B.cells B.slots ∧ PostX ⟨T.setVm vm₁, locs, cells, slots⟩ (Value.ref b :: argsL).toArray q B ∧
      Steps p.tables e below (T.setTop g) ((B.U.setTop { g with stack := rest }).pushFrame (.throwing q))) := by
  obtain ⟨mk, methM, hnamed, hmethM, hstM, habM⟩ := Cond.instanceMethod_spec hinst
  obtain ⟨m8, methM', cM, hn8, hmethM', -, -, -, -, -, -, hsigM⟩ := Cond.codeWith_spec hcode
  cases Option.some.inj (hn8.symm.trans hnamed)
  cases hmethM.symm.trans hmethM'
  obtain ⟨c2, r2, m2, q1, q2, q3, q4, kP, hkP, hkPi⟩ := Cond.selects_spec hsel
  cases hcls.symm.trans q1
  cases (State.methodFound?_of_named hnamed hy).symm.trans q2
  cases hnamed.symm.trans q3
  have hselP : selectMethod e.platform s.vm cellB.cls mk = .method mk := by rw [Launch.admits_selectMethod X.admits]; exact q4
  obtain ⟨vm₁, X₁, hstep₁⟩ := X.invokevirtual hexec hown hlink hnamed hmethM hstM hkP hkPi hy (a := b) (cell := cellB) hcell
    (fun z h => by rw [h] at hobj; cases hobj) hselP hmethM habM hkP hkPi (g := g) hg (argsL := argsL) (rest := rest) (hlen _ hsigM) hstack hdg
  rcases hK m meth c ⟨T.setVm vm₁, locs, cells, slots⟩ { g with stack := rest } (.invokevirtual index) mk (Value.ref b :: argsL).toArray X₁ hg hsize hdg hW (X₁.named hnamed) (hpre vm₁ X₁.warmed) with ⟨v, B, X', hpost, hsteps⟩ | ⟨q, B, X', hpost, hsteps⟩
  · exact Or.inl ⟨v, vm₁, B, X₁.warmed, X', hpost, fun target h => hstep₁ _ fun acts => by rw [doInvoke_state]; exact hsteps.trans h⟩
  · exact Or.inr ⟨q, vm₁, B, X₁.warmed, X', hpost, hstep₁ _ fun acts => by rw [doInvoke_state]; exact hsteps⟩
theorem vx_callSX (X : Stand p l e R s m args below meth c T locs cells slots) (hexec : p.tables.exec = Jvm.exec) {own : String} {index : Nat} {y : MethodName} {bytes : ByteArray} {maxL : Nat} {ret : Option FieldType} {hh : List (Nat × Nat × Nat × Nat)}
    (hown : s.vm.findClass own = some m.cls) (hlink : (Cond.methodLink own index y).before args s = true) (hstat : (Cond.static y).before args s = true) (hinit : (Cond.initialized y.cls).before args s = true)
    (hcode : (Cond.codeWith y bytes maxL ret hh).before args s = true) (hy : y.cls ≠ "java/lang/invoke/MethodHandle" ∧ y.cls ≠ "java/lang/invoke/VarHandle")
    {W9 : Nat} {Pre : Pt → Array Value → Prop} {Post : Pt → Array Value → Option Value → Pt → Prop} {PostX : Pt → Array Value → Addr → Pt → Prop} (hK : vx_Back l R p e below s args y 3 W9 Pre Post PostX)
    {g : JFrame} (hg : g.method = m) (hsize : g.locals.size = c.maxLocals) {argsL rest : List Value} (hlen : ∀ sig, parseMethodDescriptor y.desc = some sig → argsL.length = sig.parameters.length)
    (hstack : g.stack = argsL.reverse ++ rest) (hW : 2 * g.monitorRoom + (rest.map fun v => v.category).sum ≤ W9) (hdg : decode c.code g.pc = .ok (.invokestatic index, 3))
    (hpre : ∀ vm₁, s.WarmedH vm₁ → Pre ⟨T.setVm vm₁, locs, cells, slots⟩ argsL.toArray) :
    (∃ (v : Option Value) (vm₁ : Vm) (B : Pt), s.WarmedH vm₁ ∧ Stand p l e R s m args below meth c B.U B.locs B.cells B.slots ∧ Post ⟨T.setVm vm₁, locs, cells, slots⟩ argsL.toArray v B ∧
      ∀ target, Steps p.tables e below (B.U.setTop { g with pc := g.pc + 3, stack := v.toList ++ rest }) target → Steps p.tables e below (T.setTop g) target) ∨
    (∃ (q : Addr) (vm₁ : Vm) (B : Pt), s.WarmedH vm₁ ∧ Stand p l e R s m args below meth c B.U B.locs B.cells B.slots ∧ PostX ⟨T.setVm vm₁, locs, cells, slots⟩ argsL.toArray q B ∧
      Steps p.tables e below (T.setTop g) ((B.U.setTop { g with stack := rest }).pushFrame (.throwing q))) := by
  obtain ⟨mk, methM, cM, hnamed, hmethM, -, -, -, -, -, -, hsigM⟩ := Cond.codeWith_spec hcode
  have hstatic : methM.isStatic = true := Cond.static_spec hnamed hmethM hstat
  obtain ⟨kP, hkP, -⟩ := className_of_methodNamed hnamed
  have hinitP : kP.init = .initialized := Cond.initialized_spec (findClass_of_methodNamed hnamed) hkP hinit
  obtain ⟨vm₁, X₁, hstep₁⟩ := X.invokestatic hexec hown hlink hnamed hmethM hstatic hkP hinitP hy (g := g) hg (argsL := argsL) (rest := rest) (hlen _ hsigM) hstack hdg
  rcases hK m meth c ⟨T.setVm vm₁, locs, cells, slots⟩ { g with stack := rest } (.invokestatic index) mk argsL.toArray X₁ hg hsize hdg hW (X₁.named hnamed) (hpre vm₁ X₁.warmed) with ⟨v, B, X', hpost, hsteps⟩ | ⟨q, B, X', hpost, hsteps⟩
  · exact Or.inl ⟨v, vm₁, B, X₁.warmed, X', hpost, fun target h => hstep₁ _ fun acts => by rw [doInvoke_state]; exact hsteps.trans h⟩
  · exact Or.inr ⟨q, vm₁, B, X₁.warmed, X', hpost, hstep₁ _ fun acts => by rw [doInvoke_state]; exact hsteps⟩
theorem vx_callVW (X : Stand p l e R s m args below meth c T locs cells slots) (hexec : p.tables.exec = Jvm.exec) {own C : String} {index : Nat} {y : MethodName} {bytes : ByteArray} {maxL : Nat} {ret : Option FieldType} {hh : List (Nat × Nat × Nat × Nat)}
    (hown : s.vm.findClass own = some m.cls) (hlink : (Cond.methodLink own index y).before args s = true) (hinst : (Cond.instanceMethod y).before args s = true) (hsel : (Cond.selects C y y).before args s = true)
    (hcode : (Cond.codeWith y bytes maxL ret hh).before args s = true) (hy : y.cls ≠ "java/lang/invoke/MethodHandle" ∧ y.cls ≠ "java/lang/invoke/VarHandle")
    {W9 : Nat} {Pre : Pt → Array Value → Prop} {Post : Pt → Array Value → Option Value → Pt → Prop} (hK : Back l R p e below s args y 3 W9 Pre Post)
    {b : Addr} {cellB : Cell} (hcell : T.heap[b]? = some cellB) (hobj : cellB.vm.isStatics = false) (hcls : s.vm.findClass C = some cellB.cls)
    {g : JFrame} (hg : g.method = m) (hsize : g.locals.size = c.maxLocals) {argsL rest : List Value} (hlen : ∀ sig, parseMethodDescriptor y.desc = some sig → argsL.length = sig.parameters.length)
    (hstack : g.stack = argsL.reverse ++ .ref b :: rest) (hW : 2 * g.monitorRoom + (rest.map fun v => v.category).sum ≤ W9) (hdg : decode c.code g.pc = .ok (.invokevirtual index, 3))
    (hpre : ∀ vm₁, s.WarmedH vm₁ → Pre ⟨T.setVm vm₁, locs, cells, slots⟩ (Value.ref b :: argsL).toArray) :
    ∃ (v : Option Value) (vm₁ : Vm) (B : Pt), s.WarmedH vm₁ ∧ Stand p l e R s m args below meth c B.U B.locs B.cells B.slots ∧ Post ⟨T.setVm vm₁, locs, cells, slots⟩ (Value.ref b :: argsL).toArray v B ∧
      ∀ target, Steps p.tables e below (B.U.setTop { g with pc := g.pc + 3, stack := v.toList ++ rest }) target → Steps p.tables e below (T.setTop g) target := by
  obtain ⟨mk, methM, hnamed, hmethM, hstM, habM⟩ := Cond.instanceMethod_spec hinst
  obtain ⟨m8, methM', cM, hn8, hmethM', -, -, -, -, -, -, hsigM⟩ := Cond.codeWith_spec hcode
  cases Option.some.inj (hn8.symm.trans hnamed)
  cases hmethM.symm.trans hmethM'
  obtain ⟨c2, r2, m2, q1, q2, q3, q4, kP, hkP, hkPi⟩ := Cond.selects_spec hsel
  cases hcls.symm.trans q1
  cases (State.methodFound?_of_named hnamed hy).symm.trans q2
  cases hnamed.symm.trans q3
  have hselP : selectMethod e.platform s.vm cellB.cls mk = .method mk := by rw [Launch.admits_selectMethod X.admits]; exact q4
  obtain ⟨vm₁, X₁, hstep₁⟩ := X.invokevirtual hexec hown hlink hnamed hmethM hstM hkP hkPi hy (a := b) (cell := cellB) hcell
    (fun z h => by rw [h] at hobj; cases hobj) hselP hmethM habM hkP hkPi (g := g) hg (argsL := argsL) (rest := rest) (hlen _ hsigM) hstack hdg
  obtain ⟨v, B, X', hpost, hsteps⟩ := hK m meth c ⟨T.setVm vm₁, locs, cells, slots⟩ { g with stack := rest } (.invokevirtual index) mk (Value.ref b :: argsL).toArray X₁ hg hsize hdg hW (X₁.named hnamed) (hpre vm₁ X₁.warmed)
  exact ⟨v, vm₁, B, X₁.warmed, X', hpost, fun target h => hstep₁ _ fun acts => by rw [doInvoke_state]; exact hsteps.trans h⟩
abbrev vx_CVW (R : Room) (s : State) (args : Array Value) (own C : String) (index : Nat) (y : MethodName) (bytes : ByteArray) (maxL : Nat) (ret : Option FieldType) (hh : List (Nat × Nat × Nat × Nat)) (ws : List Cond) (rm : Room) (mc ms n : Nat) : Prop :=
  (rm.cells = mc ∧ rm.slots = ms ∧ rm.frames + 1 ≤ R.frames ∧ 8 + (maxL + 11) + rm.locals ≤ R.locals ∧ (∀ w ∈ ws, ∀ (a' : Array Value) (U : State), s.WarmedH U.vm → w.before a' U = true) ∧ Cond.codeWith y bytes maxL ret hh ∈ ws) ∧
  (Cond.codeWith y bytes maxL ret hh).before args s = true ∧ (Cond.initialized y.cls).before args s = true ∧ (y.cls ≠ "java/lang/invoke/MethodHandle" ∧ y.cls ≠ "java/lang/invoke/VarHandle") ∧
  (∀ sig, parseMethodDescriptor y.desc = some sig → n = sig.parameters.length) ∧ (Cond.methodLink own index y).before args s = true ∧ (Cond.instanceMethod y).before args s = true ∧ (Cond.selects C y y).before args s = true
theorem vx_cwVW {own C : String} {index maxL mc ms : Nat} {y : MethodName} {bytes : ByteArray} {ret : Option FieldType} {hh : List (Nat × Nat × Nat × Nat)} {Ts ws ws' : List Cond} {rm : Room} (n : Nat) (ht : ∀ w ∈ Ts, w.before args s = true) (hT : GoodIn Ts (wsV own index C y ws)) (hw : ws = Cond.codeWith y bytes maxL ret hh :: ws') (hrc : rm.cells = mc) (hrs : rm.slots = ms)
    (hd : y.cls = C ∧ y.cls ≠ "java/lang/invoke/MethodHandle" ∧ y.cls ≠ "java/lang/invoke/VarHandle" ∧ (parseMethodDescriptor y.desc).map (fun d => d.parameters.length) = some n) (hR : rm.frames + 1 ≤ R.frames ∧ 8 + (maxL + 11) + rm.locals ≤ R.locals) :
    vx_CVW R s args own C index y bytes maxL ret hh ws rm mc ms n := by
  obtain ⟨hC, hd⟩ := hd
  subst hC
  have ok : ∀ w ∈ wsV own index y.cls y ws, w.before args s = true := fun w h => ht w (hT w h).1
  have hG : GoodIn Ts ws := fun w h => hT w (by unfold wsV; exact List.mem_append_right _ h)
  have hc : Cond.codeWith y bytes maxL ret hh ∈ ws := by rw [hw]; exact List.mem_cons_self
  refine ⟨⟨hrc, hrs, hR.1, hR.2, pay_in ht hG, hc⟩, ht _ (hG _ hc).1, ok _ (by simp [wsV]), ⟨hd.1, hd.2.1⟩, fun sig h => ?_, ok _ (by simp [wsV]), ok _ (by simp [wsV]), ok _ (by simp [wsV])⟩
  have h2 := hd.2.2
  rw [h] at h2
  exact (Option.some.inj h2).symm
theorem vx_runVW {y : MethodName} {bytes cc : ByteArray} {maxL nL mc ms n index : Nat} {ret : Option FieldType} {hh : List (Nat × Nat × Nat × Nat)} {ws : List Cond} {rm : Room} {Pc : Array Value → State → Prop} {Qc : Array Value → State → Outcome → State → Prop} {free : Addr → Prop} {Ts : List Cond} {own C : String} {b : Addr} {As rest : List Value} {g : JFrame}
    (S : CallFix p m c cc nL s args Ts own) (hM : Met l y ws rm Pc Qc mc ms free) (cw : vx_CVW R s args own C index y bytes maxL ret hh ws rm mc ms n) (hp : PreV s H C b Pc As)
    (hg : g.method = m) (hn : As.length = n) (hsize : g.locals.size = nL) (hstack : g.stack = As.reverse ++ .ref b :: rest) (hW : 2 * g.monitorRoom + (rest.map fun v => v.category).sum ≤ 8) (hdg : decode cc g.pc = .ok (.invokevirtual index, 3)) (hf : cells + mc ≤ R.cells ∧ slots + ms ≤ R.slots) :
    va_Run p l e R s m args below meth c H locs cells slots mc ms g rest (Qc (Value.ref b :: As).toArray) free := by
  obtain ⟨⟨hrc, hrs, hfr, hlo, hws, hcw⟩, hcode, hini, hy, hlen, hl, hin, hse⟩ := cw
  have hK : Back l R p e below s args y 3 8 (PreOf R mc ms Pc) (PostOf Qc mc ms free) := va_backW (hh := hh) (bytes := bytes) (maxL := maxL) (ret := ret) hM hp.1 hrc hrs hfr hlo hws hcw (fun a' U hW => word_at hW (Or.inl (by first | rfl | simp [Cond.onTables, Cond.keeps, Cond.steady])) hini)
  obtain ⟨hx, hb, hml, ho, -⟩ := S
  obtain ⟨-, ⟨cellB, hcB, hoB, hclB⟩, hPc⟩ := hp
  intro T hT X
  obtain ⟨v, vm₁, ⟨U', l2, c2, s2⟩, hW₁, X', ⟨g', mk, t, L, e1, e2, hq, h1, hL, h2, h3⟩, st⟩ := vx_callVW X hx (C := C) (hh := hh) (bytes := bytes) (maxL := maxL) (ret := ret) ho hl hin hse hcode hy hK (by rw [hT]; exact hcB) hoB hclB hg (hsize.trans hml.symm) (argsL := As) (rest := rest) (fun sig h => hn.trans (hlen sig h)) hstack hW (by rw [hb]; exact hdg)
    (fun vm₁ hW₁ => ⟨hf.1, hf.2, hPc (T.setVm vm₁) hT hW₁⟩)
  dsimp only [Pt.U, Pt.locs, Pt.cells, Pt.slots] at X' e1 e2 h1 h2 h3 st
  subst h1; subst h2; subst h3
  exact ⟨v, (T.setVm vm₁).calling g' mk (Value.ref b :: As).toArray, t, U', L, hT, X', hL, e1, e2, hq, st⟩
section
variable {y : MethodName} {bytes cc : ByteArray} {maxL nL mc ms n index : Nat} {ret : Option FieldType} {ws : List Cond} {rm : Room} {Pc : Array Value → State → Prop} {Qc : Array Value → State → Outcome → State → Prop} {XC : String → State → State → Prop} {free : Addr → Prop} {Ts : List Cond} {own C : String} {b : Addr} {As rest : List Value} {g : JFrame}
theorem vx_runVX {hh : List (Nat × Nat × Nat × Nat)} (S : CallFix p m c cc nL s args Ts own) (hM : vx_Met l y ws rm Pc Qc XC mc ms free) (cw : vx_CVW R s args own C index y bytes maxL ret hh ws rm mc ms n) (hp : PreV s H C b Pc As)
    (hg : g.method = m) (hn : As.length = n) (hsize : g.locals.size = nL) (hstack : g.stack = As.reverse ++ .ref b :: rest) (hW : 2 * g.monitorRoom + (rest.map fun v => v.category).sum ≤ 8) (hdg : decode cc g.pc = .ok (.invokevirtual index, 3)) (hf : cells + mc ≤ R.cells ∧ slots + ms ≤ R.slots) :
    vx_Run p l e R s m args below meth c H locs cells slots mc ms g rest (Qc (Value.ref b :: As).toArray) XC free := by
  obtain ⟨⟨hrc, hrs, hfr, hlo, hws, hcw⟩, hcode, hini, hy, hlen, hl, hin, hse⟩ := cw
  have hK : vx_Back l R p e below s args y 3 8 (PreOf R mc ms Pc) (PostOf Qc mc ms free) (vx_Post XC mc ms free) := vx_backW (hh := hh) (bytes := bytes) (maxL := maxL) (ret := ret) hM hp.1 hrc hrs hfr hlo hws hcw (fun a' U hW => word_at hW (Or.inl (by first | rfl | simp [Cond.onTables, Cond.keeps, Cond.steady])) hini)
  obtain ⟨hx, hb, hml, ho, -⟩ := S
  obtain ⟨-, ⟨cellB, hcB, hoB, hclB⟩, hPc⟩ := hp
  intro T hT X
  rcases vx_callVX X hx (C := C) (hh := hh) (bytes := bytes) (maxL := maxL) (ret := ret) ho hl hin hse hcode hy hK (by rw [hT]; exact hcB) hoB hclB hg (hsize.trans hml.symm) (argsL := As) (rest := rest) (fun sig h => hn.trans (hlen sig h)) hstack hW (by rw [hb]; exact hdg)
    (fun vm₁ hW₁ => ⟨hf.1, hf.2, hPc (T.setVm vm₁) hT hW₁⟩) with ⟨v, vm₁, ⟨U', l2, c2, s2⟩, hW₁, X', ⟨g', mk, t, L, e1, e2, hq, h1, hL, h2, h3⟩, st⟩ | ⟨q, vm₁, ⟨U', l2, c2, s2⟩, hW₁, X', ⟨g', mk, t, L, E, ce, e1, e2, hq, hce, hcv, hcl, h1, hL, h2, h3⟩, st⟩
  · dsimp only [Pt.U, Pt.locs, Pt.cells, Pt.slots] at X' e1 e2 h1 h2 h3 st
    subst h1; subst h2; subst h3
    exact Or.inl ⟨v, (T.setVm vm₁).calling g' mk (Value.ref b :: As).toArray, t, U', L, hT, X', hL, e1, e2, hq, st⟩
  · dsimp only [Pt.U, Pt.locs, Pt.cells, Pt.slots] at X' e1 e2 h1 h2 h3 st hcl
    subst h1; subst h2; subst h3
    exact Or.inr ⟨q, (T.setVm vm₁).calling g' mk (Value.ref b :: As).toArray, t, U', L, E, ce, hT, X', hL, e1, e2, hq, hce, hcv, vx_cls hW₁ hcl, st⟩
theorem vx_runSX {hh : List (Nat × Nat × Nat × Nat)} (S : CallFix p m c cc nL s args Ts own) (hM : vx_Met l y ws rm Pc Qc XC mc ms free) (cw : vx_CSW R s args own index y bytes maxL ret hh ws rm mc ms n) (hp : PreS s H Pc As)
    (hg : g.method = m) (hn : As.length = n) (hsize : g.locals.size = nL) (hstack : g.stack = As.reverse ++ rest) (hW : 2 * g.monitorRoom + (rest.map fun v => v.category).sum ≤ 8) (hdg : decode cc g.pc = .ok (.invokestatic index, 3)) (hf : cells + mc ≤ R.cells ∧ slots + ms ≤ R.slots) :
    vx_Run p l e R s m args below meth c H locs cells slots mc ms g rest (Qc As.toArray) XC free := by
  obtain ⟨⟨hrc, hrs, hfr, hlo, hws, hcw⟩, hcode, hini, hy, hlen, hl, hstt⟩ := cw
  have hK : vx_Back l R p e below s args y 3 8 (PreOf R mc ms Pc) (PostOf Qc mc ms free) (vx_Post XC mc ms free) := vx_backW (hh := hh) (bytes := bytes) (maxL := maxL) (ret := ret) hM hp.1 hrc hrs hfr hlo hws hcw (fun a' U hW => word_at hW (Or.inl (by first | rfl | simp [Cond.onTables, Cond.keeps, Cond.steady])) hini)
  obtain ⟨hx, hb, hml, ho, -⟩ := S
  intro T hT X
  rcases vx_callSX X hx (hh := hh) (bytes := bytes) (maxL := maxL) (ret := ret) ho hl hstt hini hcode hy hK hg (hsize.trans hml.symm) (argsL := As) (rest := rest) (fun sig h => hn.trans (hlen sig h)) hstack hW (by rw [hb]; exact hdg)
    (fun vm₁ hW₁ => ⟨hf.1, hf.2, hp.2 (T.setVm vm₁) hT hW₁⟩) with ⟨v, vm₁, ⟨U', l2, c2, s2⟩, hW₁, X', ⟨g', mk, t, L, e1, e2, hq, h1, hL, h2, h3⟩, st⟩ | ⟨q, vm₁, ⟨U', l2, c2, s2⟩, hW₁, X', ⟨g', mk, t, L, E, ce, e1, e2, hq, hce, hcv, hcl, h1, hL, h2, h3⟩, st⟩
  · dsimp only [Pt.U, Pt.locs, Pt.cells, Pt.slots] at X' e1 e2 h1 h2 h3 st
    subst h1; subst h2; subst h3
    exact Or.inl ⟨v, (T.setVm vm₁).calling g' mk As.toArray, t, U', L, hT, X', hL, e1, e2, hq, st⟩
  · dsimp only [Pt.U, Pt.locs, Pt.cells, Pt.slots] at X' e1 e2 h1 h2 h3 st hcl
    subst h1; subst h2; subst h3
    exact Or.inr ⟨q, (T.setVm vm₁).calling g' mk As.toArray, t, U', L, E, ce, hT, X', hL, e1, e2, hq, hce, hcv, vx_cls hW₁ hcl, st⟩
end
end VXH
theorem vx_ofWH {l : Launch} {y : MethodName} {ws ws' : List Cond} {rm : Room} {Pc : Array Value → State → Prop} {Qc : Array Value → State → Outcome → State → Prop} {XC : String → State → State → Prop} {mc ms : Nat} {free : Addr → Prop} {cc : ByteArray} {maxL : Nat} {ret : Option FieldType} {hh : List (Nat × Nat × Nat × Nat)}
    (hy : plainName y.cls = true) (hw : ws = Cond.codeWith y cc maxL ret hh :: ws')
    (body : ∀ p e s m args below meth c s₁, BodyLoose p l y (headSpec ws rm) cc maxL ret e s m args below meth c s₁ → c.maxLocals = maxL → Pc args s →
      W p l e (headSpec ws rm).room s m args below meth c s.heap [] 0 0 (vx_MQ below Qc XC args s mc ms free) (entryFrame m args maxL)) : vx_Met l y ws rm Pc Qc XC mc ms free := by
  refine MetFree.of_bodyS (code := cc) (maxLocals := maxL) (ret := ret) hy ?_ ?_
  · intro args s m h hn
    obtain ⟨m9, meth, c, hn9, h1, h2, h3, h4, -, h5, h6, -⟩ := Cond.codeWith_spec (atoms_spec (ws := ws) h _ (by rw [hw]; exact List.mem_cons_self))
    cases hn.symm.trans hn9
    exact ⟨meth, c, h1, h2, h3, h4, h5, h6⟩
  · intro p e s m args below meth c s₁ B hml hP _
    have hh0 : s₁.heap = s.heap := by rw [B.state]; rfl
    obtain ⟨t, a1, o, b1, b2, b3⟩ := body p e s m args below meth c s₁ B hml hP s₁ hh0 (Stand.of_body B)
    exact ⟨t, o, a1, b1, b2, b3⟩
/-! ===== END ===== -/
end
section
/-! ===== BEGIN printed: names, fields, word lists, decode rows ===== -/
def RX0 : String := "MarkDesk$Kind"
def TX0 : u_T := fun k => match k with
  | _ => ("", "", "", false)
def tyX0 : Nat → FieldType := fun k => match k with
  | _ => .int
abbrev wsX00 : List Cond := u_ws RX0 TX0 0
theorem nmX0 : ∀ a, a < 0 → ∀ b, b < 0 → a ≠ b → (TX0 a).2.1 ≠ (TX0 b).2.1 := by decide +kernel
theorem tyX0_ok : ∀ k, k < 0 → parseFieldDescriptor (TX0 k).2.2.1 = some (tyX0 k) := by decide +kernel
def RX1 : String := "MarkDesk$KnownType"
def TX1 : u_T := fun k => match k with
  | 0 => ("MarkDesk$KnownType", "answer", "[I", true)
  | 1 => ("MarkDesk$KnownType", "parts", "[I", true)
  | 2 => ("MarkDesk$KnownType", "waiting", "[I", true)
  | 3 => ("MarkDesk$KnownType", "root", "I", false)
  | _ => ("MarkDesk$KnownType", "letters", "I", false)
def tyX1 : Nat → FieldType := fun k => match k with
  | 0 => .array .int
  | 1 => .array .int
  | 2 => .array .int
  | 3 => .int
  | _ => .int
abbrev wsX10 : List Cond := u_ws RX1 TX1 5
theorem nmX1 : ∀ a, a < 5 → ∀ b, b < 5 → a ≠ b → (TX1 a).2.1 ≠ (TX1 b).2.1 := by decide +kernel
theorem tyX1_ok : ∀ k, k < 5 → parseFieldDescriptor (TX1 k).2.2.1 = some (tyX1 k) := by decide +kernel
abbrev cX1_init : ByteArray := prog_3_method_1_code
def yX1_init : MethodName := ⟨RX1, "<init>", "()V"⟩
abbrev cX1_keep : ByteArray := prog_3_method_2_code
def yX1_keep : MethodName := ⟨RX1, "keep", "(LMarkDesk$Types;I)V"⟩
abbrev cX1_at : ByteArray := prog_3_method_3_code
def yX1_at : MethodName := ⟨RX1, "at", "(I)I"⟩
abbrev cX1_keepNode : ByteArray := prog_3_method_4_code
def yX1_keepNode : MethodName := ⟨RX1, "keepNode", "(LMarkDesk$Types;II)I"⟩
def RX2 : String := "MarkDesk$Machine"
def TX2 : u_T := fun k => match k with
  | 0 => ("MarkDesk$Machine", "terms", "LMarkDesk$Terms;", true)
  | 1 => ("MarkDesk$Machine", "values", "LMarkDesk$Values;", true)
  | 2 => ("MarkDesk$Machine", "scopes", "LMarkDesk$Scopes;", true)
  | 3 => ("MarkDesk$Machine", "waitings", "LMarkDesk$Waitings;", true)
  | 4 => ("MarkDesk$Machine", "behindMarks", "[I", true)
  | 5 => ("MarkDesk$Machine", "marks", "I", false)
  | 6 => ("MarkDesk$Machine", "toDo", "I", false)
  | 7 => ("MarkDesk$Machine", "term", "I", false)
  | 8 => ("MarkDesk$Machine", "scope", "I", false)
  | 9 => ("MarkDesk$Machine", "given", "I", false)
  | 10 => ("MarkDesk$Machine", "end", "I", false)
  | 11 => ("MarkDesk$Machine", "fuelLeft", "I", false)
  | _ => ("MarkDesk$Machine", "stepsDone", "I", false)
def tyX2 : Nat → FieldType := fun k => match k with
  | 0 => .object "MarkDesk$Terms"
  | 1 => .object "MarkDesk$Values"
  | 2 => .object "MarkDesk$Scopes"
  | 3 => .object "MarkDesk$Waitings"
  | 4 => .array .int
  | 5 => .int
  | 6 => .int
  | 7 => .int
  | 8 => .int
  | 9 => .int
  | 10 => .int
  | 11 => .int
  | _ => .int
abbrev wsX20 : List Cond := u_ws RX2 TX2 13
theorem nmX2 : ∀ a, a < 13 → ∀ b, b < 13 → a ≠ b → (TX2 a).2.1 ≠ (TX2 b).2.1 := by decide +kernel
theorem tyX2_ok : ∀ k, k < 13 → parseFieldDescriptor (TX2 k).2.2.1 = some (tyX2 k) := by decide +kernel
abbrev cX2_init : ByteArray := prog_4_method_1_code
def yX2_init : MethodName := ⟨RX2, "<init>", "(LMarkDesk$Terms;)V"⟩
abbrev cX2_workOut : ByteArray := prog_4_method_2_code
def yX2_workOut : MethodName := ⟨RX2, "workOut", "(II)I"⟩
abbrev cX2_resultForm : ByteArray := prog_4_method_3_code
def yX2_resultForm : MethodName := ⟨RX2, "resultForm", "()I"⟩
abbrev cX2_plainResult : ByteArray := prog_4_method_4_code
def yX2_plainResult : MethodName := ⟨RX2, "plainResult", "()I"⟩
abbrev cX2_doRound : ByteArray := prog_4_method_5_code
def yX2_doRound : MethodName := ⟨RX2, "doRound", "()V"⟩
abbrev cX2_goTo : ByteArray := prog_4_method_6_code
def yX2_goTo : MethodName := ⟨RX2, "goTo", "(II)V"⟩
abbrev cX2_enterMark : ByteArray := prog_4_method_7_code
def yX2_enterMark : MethodName := ⟨RX2, "enterMark", "(I)V"⟩
abbrev cX2_leaveMark : ByteArray := prog_4_method_8_code
def yX2_leaveMark : MethodName := ⟨RX2, "leaveMark", "()V"⟩
abbrev cX2_beginTerm : ByteArray := prog_4_method_9_code
def yX2_beginTerm : MethodName := ⟨RX2, "beginTerm", "()V"⟩
abbrev cX2_bringValue : ByteArray := prog_4_method_10_code
def yX2_bringValue : MethodName := ⟨RX2, "bringValue", "()V"⟩
abbrev cX2_choose : ByteArray := prog_4_method_11_code
def yX2_choose : MethodName := ⟨RX2, "choose", "(II)V"⟩
abbrev cX2_callWith : ByteArray := prog_4_method_12_code
def yX2_callWith : MethodName := ⟨RX2, "callWith", "(II)V"⟩
abbrev cX2_joinNumbers : ByteArray := prog_4_method_13_code
def yX2_joinNumbers : MethodName := ⟨RX2, "joinNumbers", "(III)V"⟩
def RX3 : String := "MarkDesk$Scopes"
def TX3 : u_T := fun k => match k with
  | 0 => ("MarkDesk$Scopes", "bound", "[I", true)
  | 1 => ("MarkDesk$Scopes", "outer", "[I", true)
  | _ => ("MarkDesk$Scopes", "used", "I", false)
def tyX3 : Nat → FieldType := fun k => match k with
  | 0 => .array .int
  | 1 => .array .int
  | _ => .int
abbrev wsX30 : List Cond := u_ws RX3 TX3 3
theorem nmX3 : ∀ a, a < 3 → ∀ b, b < 3 → a ≠ b → (TX3 a).2.1 ≠ (TX3 b).2.1 := by decide +kernel
theorem tyX3_ok : ∀ k, k < 3 → parseFieldDescriptor (TX3 k).2.2.1 = some (tyX3 k) := by decide +kernel
abbrev cX3_init : ByteArray := prog_5_method_1_code
def yX3_init : MethodName := ⟨RX3, "<init>", "()V"⟩
abbrev cX3_clear : ByteArray := prog_5_method_2_code
def yX3_clear : MethodName := ⟨RX3, "clear", "()V"⟩
abbrev cX3_bind : ByteArray := prog_5_method_3_code
def yX3_bind : MethodName := ⟨RX3, "bind", "(II)I"⟩
abbrev cX3_look : ByteArray := prog_5_method_4_code
def yX3_look : MethodName := ⟨RX3, "look", "(II)I"⟩
def RX4 : String := "MarkDesk$Terms"
def TX4 : u_T := fun k => match k with
  | 0 => ("MarkDesk$Terms", "kind", "[I", true)
  | 1 => ("MarkDesk$Terms", "first", "[I", true)
  | 2 => ("MarkDesk$Terms", "second", "[I", true)
  | 3 => ("MarkDesk$Terms", "third", "[I", true)
  | 4 => ("MarkDesk$Terms", "needed", "[I", true)
  | 5 => ("MarkDesk$Terms", "height", "[I", true)
  | 6 => ("MarkDesk$Terms", "size", "[I", true)
  | _ => ("MarkDesk$Terms", "used", "I", false)
def tyX4 : Nat → FieldType := fun k => match k with
  | 0 => .array .int
  | 1 => .array .int
  | 2 => .array .int
  | 3 => .array .int
  | 4 => .array .int
  | 5 => .array .int
  | 6 => .array .int
  | _ => .int
abbrev wsX40 : List Cond := u_ws RX4 TX4 8
theorem nmX4 : ∀ a, a < 8 → ∀ b, b < 8 → a ≠ b → (TX4 a).2.1 ≠ (TX4 b).2.1 := by decide +kernel
theorem tyX4_ok : ∀ k, k < 8 → parseFieldDescriptor (TX4 k).2.2.1 = some (tyX4 k) := by decide +kernel
abbrev cX4_init : ByteArray := prog_6_method_1_code
def yX4_init : MethodName := ⟨RX4, "<init>", "()V"⟩
abbrev cX4_has : ByteArray := prog_6_method_2_code
def yX4_has : MethodName := ⟨RX4, "has", "(I)Z"⟩
abbrev cX4_hasClosed : ByteArray := prog_6_method_3_code
def yX4_hasClosed : MethodName := ⟨RX4, "hasClosed", "(I)Z"⟩
abbrev cX4_wordsFit : ByteArray := prog_6_method_4_code
def yX4_wordsFit : MethodName := ⟨RX4, "wordsFit", "(IIII)Z"⟩
abbrev cX4_hasRoomFor : ByteArray := prog_6_method_5_code
def yX4_hasRoomFor : MethodName := ⟨RX4, "hasRoomFor", "(IIII)Z"⟩
abbrev cX4_add : ByteArray := prog_6_method_6_code
def yX4_add : MethodName := ⟨RX4, "add", "(IIII)I"⟩
abbrev cX4_heightOver : ByteArray := prog_6_method_7_code
def yX4_heightOver : MethodName := ⟨RX4, "heightOver", "(IIII)I"⟩
abbrev cX4_sizeOver : ByteArray := prog_6_method_8_code
def yX4_sizeOver : MethodName := ⟨RX4, "sizeOver", "(IIII)I"⟩
abbrev cX4_neededOver : ByteArray := prog_6_method_9_code
def yX4_neededOver : MethodName := ⟨RX4, "neededOver", "(IIII)I"⟩
def RX5 : String := "MarkDesk$Types"
def TX5 : u_T := fun k => match k with
  | 0 => ("MarkDesk$Types", "form", "[I", true)
  | 1 => ("MarkDesk$Types", "sameAs", "[I", true)
  | 2 => ("MarkDesk$Types", "parts", "[I", true)
  | 3 => ("MarkDesk$Types", "pairs", "[I", true)
  | 4 => ("MarkDesk$Types", "progress", "[I", true)
  | 5 => ("MarkDesk$Types", "partsSeen", "[I", true)
  | 6 => ("MarkDesk$Types", "path", "[I", true)
  | 7 => ("MarkDesk$Types", "used", "I", false)
  | _ => ("MarkDesk$Types", "pending", "I", false)
def tyX5 : Nat → FieldType := fun k => match k with
  | 0 => .array .int
  | 1 => .array .int
  | 2 => .array .int
  | 3 => .array .int
  | 4 => .array .int
  | 5 => .array .int
  | 6 => .array .int
  | 7 => .int
  | _ => .int
abbrev wsX50 : List Cond := u_ws RX5 TX5 9
theorem nmX5 : ∀ a, a < 9 → ∀ b, b < 9 → a ≠ b → (TX5 a).2.1 ≠ (TX5 b).2.1 := by decide +kernel
theorem tyX5_ok : ∀ k, k < 9 → parseFieldDescriptor (TX5 k).2.2.1 = some (tyX5 k) := by decide +kernel
abbrev cX5_init : ByteArray := prog_7_method_1_code
def yX5_init : MethodName := ⟨RX5, "<init>", "()V"⟩
abbrev cX5_clear : ByteArray := prog_7_method_2_code
def yX5_clear : MethodName := ⟨RX5, "clear", "()V"⟩
abbrev cX5_letter : ByteArray := prog_7_method_3_code
def yX5_letter : MethodName := ⟨RX5, "letter", "()I"⟩
abbrev cX5_function : ByteArray := prog_7_method_4_code
def yX5_function : MethodName := ⟨RX5, "function", "(IIII)I"⟩
abbrev cX5_chosen : ByteArray := prog_7_method_5_code
def yX5_chosen : MethodName := ⟨RX5, "chosen", "(I)I"⟩
abbrev cX5_chosenPart : ByteArray := prog_7_method_6_code
def yX5_chosenPart : MethodName := ⟨RX5, "chosenPart", "(II)I"⟩
abbrev cX5_makeSame : ByteArray := prog_7_method_7_code
def yX5_makeSame : MethodName := ⟨RX5, "makeSame", "(II)Z"⟩
abbrev cX5_noneContainsItself : ByteArray := prog_7_method_8_code
def yX5_noneContainsItself : MethodName := ⟨RX5, "noneContainsItself", "()Z"⟩
abbrev cX5_addNode : ByteArray := prog_7_method_9_code
def yX5_addNode : MethodName := ⟨RX5, "addNode", "(I)I"⟩
abbrev cX5_addPair : ByteArray := prog_7_method_10_code
def yX5_addPair : MethodName := ⟨RX5, "addPair", "(II)V"⟩
abbrev cX5_join : ByteArray := prog_7_method_11_code
def yX5_join : MethodName := ⟨RX5, "join", "(II)Z"⟩
abbrev cX5_endsEverywhere : ByteArray := prog_7_method_12_code
def yX5_endsEverywhere : MethodName := ⟨RX5, "endsEverywhere", "(I)Z"⟩
def RX6 : String := "MarkDesk$Typing"
def TX6 : u_T := fun k => match k with
  | 0 => ("MarkDesk$Typing", "terms", "LMarkDesk$Terms;", true)
  | 1 => ("MarkDesk$Typing", "types", "LMarkDesk$Types;", true)
  | 2 => ("MarkDesk$Typing", "boundType", "[I", true)
  | 3 => ("MarkDesk$Typing", "pieceGives", "[I", true)
  | _ => ("MarkDesk$Typing", "bound", "I", false)
def tyX6 : Nat → FieldType := fun k => match k with
  | 0 => .object "MarkDesk$Terms"
  | 1 => .object "MarkDesk$Types"
  | 2 => .array .int
  | 3 => .array .int
  | _ => .int
abbrev wsX60 : List Cond := u_ws RX6 TX6 5
theorem nmX6 : ∀ a, a < 5 → ∀ b, b < 5 → a ≠ b → (TX6 a).2.1 ≠ (TX6 b).2.1 := by decide +kernel
theorem tyX6_ok : ∀ k, k < 5 → parseFieldDescriptor (TX6 k).2.2.1 = some (tyX6 k) := by decide +kernel
abbrev cX6_init : ByteArray := prog_8_method_1_code
def yX6_init : MethodName := ⟨RX6, "<init>", "(LMarkDesk$Terms;)V"⟩
abbrev cX6_typeOfWhole : ByteArray := prog_8_method_2_code
def yX6_typeOfWhole : MethodName := ⟨RX6, "typeOfWhole", "(I)I"⟩
abbrev cX6_holds : ByteArray := prog_8_method_3_code
def yX6_holds : MethodName := ⟨RX6, "holds", "(IIIII)Z"⟩
abbrev cX6_typeOfVariable : ByteArray := prog_8_method_4_code
def yX6_typeOfVariable : MethodName := ⟨RX6, "typeOfVariable", "(I)I"⟩
abbrev cX6_bind : ByteArray := prog_8_method_5_code
def yX6_bind : MethodName := ⟨RX6, "bind", "(II)V"⟩
abbrev cX6_functionHolds : ByteArray := prog_8_method_6_code
def yX6_functionHolds : MethodName := ⟨RX6, "functionHolds", "(III)Z"⟩
abbrev cX6_callHolds : ByteArray := prog_8_method_7_code
def yX6_callHolds : MethodName := ⟨RX6, "callHolds", "(IIIII)Z"⟩
abbrev cX6_numbersHold : ByteArray := prog_8_method_8_code
def yX6_numbersHold : MethodName := ⟨RX6, "numbersHold", "(IIII)Z"⟩
abbrev cX6_ifHolds : ByteArray := prog_8_method_9_code
def yX6_ifHolds : MethodName := ⟨RX6, "ifHolds", "(IIIII)Z"⟩
abbrev cX6_letHolds : ByteArray := prog_8_method_10_code
def yX6_letHolds : MethodName := ⟨RX6, "letHolds", "(IIIII)Z"⟩
abbrev cX6_takeHolds : ByteArray := prog_8_method_11_code
def yX6_takeHolds : MethodName := ⟨RX6, "takeHolds", "(IIIII)Z"⟩
abbrev cX6_wholeHolds : ByteArray := prog_8_method_12_code
def yX6_wholeHolds : MethodName := ⟨RX6, "wholeHolds", "(III)Z"⟩
def RX7 : String := "MarkDesk$Values"
def TX7 : u_T := fun k => match k with
  | 0 => ("MarkDesk$Values", "form", "[I", true)
  | 1 => ("MarkDesk$Values", "content", "[I", true)
  | 2 => ("MarkDesk$Values", "scope", "[I", true)
  | _ => ("MarkDesk$Values", "used", "I", false)
def tyX7 : Nat → FieldType := fun k => match k with
  | 0 => .array .int
  | 1 => .array .int
  | 2 => .array .int
  | _ => .int
abbrev wsX70 : List Cond := u_ws RX7 TX7 4
theorem nmX7 : ∀ a, a < 4 → ∀ b, b < 4 → a ≠ b → (TX7 a).2.1 ≠ (TX7 b).2.1 := by decide +kernel
theorem tyX7_ok : ∀ k, k < 4 → parseFieldDescriptor (TX7 k).2.2.1 = some (tyX7 k) := by decide +kernel
abbrev cX7_init : ByteArray := prog_9_method_1_code
def yX7_init : MethodName := ⟨RX7, "<init>", "()V"⟩
abbrev cX7_clear : ByteArray := prog_9_method_2_code
def yX7_clear : MethodName := ⟨RX7, "clear", "()V"⟩
abbrev cX7_add : ByteArray := prog_9_method_3_code
def yX7_add : MethodName := ⟨RX7, "add", "(III)I"⟩
def RX8 : String := "MarkDesk$Waitings"
def TX8 : u_T := fun k => match k with
  | 0 => ("MarkDesk$Waitings", "term", "[I", true)
  | 1 => ("MarkDesk$Waitings", "scope", "[I", true)
  | 2 => ("MarkDesk$Waitings", "held", "[I", true)
  | 3 => ("MarkDesk$Waitings", "next", "[I", true)
  | _ => ("MarkDesk$Waitings", "used", "I", false)
def tyX8 : Nat → FieldType := fun k => match k with
  | 0 => .array .int
  | 1 => .array .int
  | 2 => .array .int
  | 3 => .array .int
  | _ => .int
abbrev wsX80 : List Cond := u_ws RX8 TX8 5
theorem nmX8 : ∀ a, a < 5 → ∀ b, b < 5 → a ≠ b → (TX8 a).2.1 ≠ (TX8 b).2.1 := by decide +kernel
theorem tyX8_ok : ∀ k, k < 5 → parseFieldDescriptor (TX8 k).2.2.1 = some (tyX8 k) := by decide +kernel
abbrev cX8_init : ByteArray := prog_10_method_1_code
def yX8_init : MethodName := ⟨RX8, "<init>", "()V"⟩
abbrev cX8_clear : ByteArray := prog_10_method_2_code
def yX8_clear : MethodName := ⟨RX8, "clear", "()V"⟩
abbrev cX8_add : ByteArray := prog_10_method_3_code
def yX8_add : MethodName := ⟨RX8, "add", "(IIII)I"⟩
def RX9 : String := "MarkDesk"
def TX9 : u_T := fun k => match k with
  | 0 => ("MarkDesk", "terms", "LMarkDesk$Terms;", true)
  | 1 => ("MarkDesk", "machine", "LMarkDesk$Machine;", true)
  | 2 => ("MarkDesk", "typing", "LMarkDesk$Typing;", true)
  | 3 => ("MarkDesk", "latestType", "LMarkDesk$KnownType;", true)
  | 4 => ("MarkDesk", "latestValue", "I", false)
  | 5 => ("MarkDesk", "latestSteps", "I", false)
  | 6 => ("MarkDesk", "allSteps", "J", false)
  | 7 => ("MarkDesk", "valuesFound", "I", false)
  | 8 => ("MarkDesk", "stuckTerms", "I", false)
  | 9 => ("MarkDesk", "neededMore", "I", false)
  | 10 => ("MarkDesk", "typesFound", "I", false)
  | _ => ("MarkDesk", "typesMissing", "I", false)
def tyX9 : Nat → FieldType := fun k => match k with
  | 0 => .object "MarkDesk$Terms"
  | 1 => .object "MarkDesk$Machine"
  | 2 => .object "MarkDesk$Typing"
  | 3 => .object "MarkDesk$KnownType"
  | 4 => .int
  | 5 => .int
  | 6 => .long
  | 7 => .int
  | 8 => .int
  | 9 => .int
  | 10 => .int
  | _ => .int
abbrev wsX90 : List Cond := u_ws RX9 TX9 12
theorem nmX9 : ∀ a, a < 12 → ∀ b, b < 12 → a ≠ b → (TX9 a).2.1 ≠ (TX9 b).2.1 := by decide +kernel
theorem tyX9_ok : ∀ k, k < 12 → parseFieldDescriptor (TX9 k).2.2.1 = some (tyX9 k) := by decide +kernel
abbrev cX9_init : ByteArray := prog_1_method_1_code
def yX9_init : MethodName := ⟨RX9, "<init>", "()V"⟩
abbrev cX9_make : ByteArray := prog_1_method_2_code
def yX9_make : MethodName := ⟨RX9, "make", "(IIII)I"⟩
abbrev cX9_open : ByteArray := prog_1_method_3_code
def yX9_open : MethodName := ⟨RX9, "open", "(I)I"⟩
abbrev cX9_work : ByteArray := prog_1_method_4_code
def yX9_work : MethodName := ⟨RX9, "work", "(II)I"⟩
abbrev cX9_value : ByteArray := prog_1_method_5_code
def yX9_value : MethodName := ⟨RX9, "value", "()I"⟩
abbrev cX9_steps : ByteArray := prog_1_method_6_code
def yX9_steps : MethodName := ⟨RX9, "steps", "()I"⟩
abbrev cX9_type : ByteArray := prog_1_method_7_code
def yX9_type : MethodName := ⟨RX9, "type", "(I)I"⟩
abbrev cX9_part : ByteArray := prog_1_method_8_code
def yX9_part : MethodName := ⟨RX9, "part", "(I)I"⟩
abbrev cX9_count : ByteArray := prog_1_method_9_code
def yX9_count : MethodName := ⟨RX9, "count", "(I)I"⟩
abbrev cX9_mean : ByteArray := prog_1_method_10_code
def yX9_mean : MethodName := ⟨RX9, "mean", "()F"⟩
abbrev cX9_keepValue : ByteArray := prog_1_method_11_code
def yX9_keepValue : MethodName := ⟨RX9, "keepValue", "()I"⟩
def RX10 : String := "MarkDeskModel"
def TX10 : u_T := fun k => match k with
  | 0 => ("MarkDeskModel", "thrown", "I", false)
  | 1 => ("MarkDeskModel", "terms", "I", false)
  | 2 => ("MarkDeskModel", "kind", "[I", true)
  | 3 => ("MarkDeskModel", "wordA", "[I", true)
  | 4 => ("MarkDeskModel", "wordB", "[I", true)
  | 5 => ("MarkDeskModel", "wordC", "[I", true)
  | 6 => ("MarkDeskModel", "height", "[I", true)
  | 7 => ("MarkDeskModel", "size", "[I", true)
  | 8 => ("MarkDeskModel", "need", "[I", true)
  | 9 => ("MarkDeskModel", "bounds", "I", false)
  | 10 => ("MarkDeskModel", "boundKind", "[I", true)
  | 11 => ("MarkDeskModel", "boundWord", "[I", true)
  | 12 => ("MarkDeskModel", "boundNext", "[I", true)
  | 13 => ("MarkDeskModel", "functions", "I", false)
  | 14 => ("MarkDeskModel", "functionTerm", "[I", true)
  | 15 => ("MarkDeskModel", "functionBound", "[I", true)
  | 16 => ("MarkDeskModel", "tasks", "I", false)
  | 17 => ("MarkDeskModel", "taskKind", "[I", true)
  | 18 => ("MarkDeskModel", "taskTerm", "[I", true)
  | 19 => ("MarkDeskModel", "taskBound", "[I", true)
  | 20 => ("MarkDeskModel", "taskValue", "[I", true)
  | 21 => ("MarkDeskModel", "taskWord", "[I", true)
  | 22 => ("MarkDeskModel", "taskNext", "[I", true)
  | 23 => ("MarkDeskModel", "marks", "I", false)
  | 24 => ("MarkDeskModel", "mark", "[I", true)
  | 25 => ("MarkDeskModel", "now", "I", false)
  | 26 => ("MarkDeskModel", "given", "I", false)
  | 27 => ("MarkDeskModel", "word", "I", false)
  | 28 => ("MarkDeskModel", "taken", "I", false)
  | 29 => ("MarkDeskModel", "stuck", "Z", false)
  | 30 => ("MarkDeskModel", "latestKind", "I", false)
  | 31 => ("MarkDeskModel", "latestWord", "I", false)
  | 32 => ("MarkDeskModel", "latestSteps", "I", false)
  | 33 => ("MarkDeskModel", "found", "I", false)
  | 34 => ("MarkDeskModel", "stucks", "I", false)
  | 35 => ("MarkDeskModel", "mores", "I", false)
  | 36 => ("MarkDeskModel", "typed", "I", false)
  | 37 => ("MarkDeskModel", "untyped", "I", false)
  | 38 => ("MarkDeskModel", "allSteps", "I", false)
  | 39 => ("MarkDeskModel", "bank", "I", false)
  | 40 => ("MarkDeskModel", "cells", "I", false)
  | 41 => ("MarkDeskModel", "sort", "[I", true)
  | 42 => ("MarkDeskModel", "standsFor", "[I", true)
  | 43 => ("MarkDeskModel", "parts", "[I", true)
  | 44 => ("MarkDeskModel", "letter", "[I", true)
  | 45 => ("MarkDeskModel", "result", "I", false)
  | 46 => ("MarkDeskModel", "bad", "Z", false)
  | 47 => ("MarkDeskModel", "pile", "[I", true)
  | 48 => ("MarkDeskModel", "pairs", "[I", true)
  | 49 => ("MarkDeskModel", "seen", "[Z", true)
  | 50 => ("MarkDeskModel", "goals", "I", false)
  | 51 => ("MarkDeskModel", "goalTerm", "[I", true)
  | 52 => ("MarkDeskModel", "goalBound", "[I", true)
  | 53 => ("MarkDeskModel", "goalType", "[I", true)
  | 54 => ("MarkDeskModel", "goalFrom", "[I", true)
  | 55 => ("MarkDeskModel", "goalTo", "[I", true)
  | 56 => ("MarkDeskModel", "places", "I", false)
  | 57 => ("MarkDeskModel", "placeType", "[I", true)
  | 58 => ("MarkDeskModel", "placeFrom", "[I", true)
  | _ => ("MarkDeskModel", "placeNext", "[I", true)
def tyX10 : Nat → FieldType := fun k => match k with
  | 0 => .int
  | 1 => .int
  | 2 => .array .int
  | 3 => .array .int
  | 4 => .array .int
  | 5 => .array .int
  | 6 => .array .int
  | 7 => .array .int
  | 8 => .array .int
  | 9 => .int
  | 10 => .array .int
  | 11 => .array .int
  | 12 => .array .int
  | 13 => .int
  | 14 => .array .int
  | 15 => .array .int
  | 16 => .int
  | 17 => .array .int
  | 18 => .array .int
  | 19 => .array .int
  | 20 => .array .int
  | 21 => .array .int
  | 22 => .array .int
  | 23 => .int
  | 24 => .array .int
  | 25 => .int
  | 26 => .int
  | 27 => .int
  | 28 => .int
  | 29 => .boolean
  | 30 => .int
  | 31 => .int
  | 32 => .int
  | 33 => .int
  | 34 => .int
  | 35 => .int
  | 36 => .int
  | 37 => .int
  | 38 => .int
  | 39 => .int
  | 40 => .int
  | 41 => .array .int
  | 42 => .array .int
  | 43 => .array .int
  | 44 => .array .int
  | 45 => .int
  | 46 => .boolean
  | 47 => .array .int
  | 48 => .array .int
  | 49 => .array .boolean
  | 50 => .int
  | 51 => .array .int
  | 52 => .array .int
  | 53 => .array .int
  | 54 => .array .int
  | 55 => .array .int
  | 56 => .int
  | 57 => .array .int
  | 58 => .array .int
  | _ => .array .int
abbrev wsX100 : List Cond := u_ws RX10 TX10 60
theorem nmX10 : ∀ a, a < 60 → ∀ b, b < 60 → a ≠ b → (TX10 a).2.1 ≠ (TX10 b).2.1 := by decide +kernel
theorem tyX10_ok : ∀ k, k < 60 → parseFieldDescriptor (TX10 k).2.2.1 = some (tyX10 k) := by decide +kernel
abbrev cX10_init : ByteArray := prog_12_method_1_code
def yX10_init : MethodName := ⟨RX10, "<init>", "()V"⟩
abbrev cX10_thrown : ByteArray := prog_12_method_2_code
def yX10_thrown : MethodName := ⟨RX10, "thrown", "()I"⟩
abbrev cX10_fail : ByteArray := prog_12_method_3_code
def yX10_fail : MethodName := ⟨RX10, "fail", "(I)I"⟩
abbrev cX10_in : ByteArray := prog_12_method_4_code
def yX10_in : MethodName := ⟨RX10, "in", "(III)Z"⟩
abbrev cX10_greater : ByteArray := prog_12_method_5_code
def yX10_greater : MethodName := ⟨RX10, "greater", "(II)I"⟩
abbrev cX10_isTerm : ByteArray := prog_12_method_6_code
def yX10_isTerm : MethodName := ⟨RX10, "isTerm", "(I)Z"⟩
abbrev cX10_hasB : ByteArray := prog_12_method_7_code
def yX10_hasB : MethodName := ⟨RX10, "hasB", "(I)Z"⟩
abbrev cX10_hasA : ByteArray := prog_12_method_8_code
def yX10_hasA : MethodName := ⟨RX10, "hasA", "(I)Z"⟩
abbrev cX10_fits : ByteArray := prog_12_method_9_code
def yX10_fits : MethodName := ⟨RX10, "fits", "(IIII)Z"⟩
abbrev cX10_make : ByteArray := prog_12_method_10_code
def yX10_make : MethodName := ⟨RX10, "make", "(IIII)I"⟩
abbrev cX10_needs : ByteArray := prog_12_method_11_code
def yX10_needs : MethodName := ⟨RX10, "needs", "(IIII)I"⟩
abbrev cX10_open : ByteArray := prog_12_method_12_code
def yX10_open : MethodName := ⟨RX10, "open", "(I)I"⟩
abbrev cX10_bind : ByteArray := prog_12_method_13_code
def yX10_bind : MethodName := ⟨RX10, "bind", "(III)I"⟩
abbrev cX10_then : ByteArray := prog_12_method_14_code
def yX10_then : MethodName := ⟨RX10, "then", "(IIIII)V"⟩
abbrev cX10_give : ByteArray := prog_12_method_15_code
def yX10_give : MethodName := ⟨RX10, "give", "(II)V"⟩
abbrev cX10_closure : ByteArray := prog_12_method_16_code
def yX10_closure : MethodName := ⟨RX10, "closure", "(II)I"⟩
abbrev cX10_begin : ByteArray := prog_12_method_17_code
def yX10_begin : MethodName := ⟨RX10, "begin", "(II)I"⟩
abbrev cX10_call : ByteArray := prog_12_method_18_code
def yX10_call : MethodName := ⟨RX10, "call", "(II)I"⟩
abbrev cX10_goOn : ByteArray := prog_12_method_19_code
def yX10_goOn : MethodName := ⟨RX10, "goOn", "()I"⟩
abbrev cX10_run : ByteArray := prog_12_method_20_code
def yX10_run : MethodName := ⟨RX10, "run", "(II)I"⟩
abbrev cX10_work : ByteArray := prog_12_method_21_code
def yX10_work : MethodName := ⟨RX10, "work", "(II)I"⟩
abbrev cX10_value : ByteArray := prog_12_method_22_code
def yX10_value : MethodName := ⟨RX10, "value", "()I"⟩
abbrev cX10_steps : ByteArray := prog_12_method_23_code
def yX10_steps : MethodName := ⟨RX10, "steps", "()I"⟩
abbrev cX10_cell : ByteArray := prog_12_method_24_code
def yX10_cell : MethodName := ⟨RX10, "cell", "(I)I"⟩
abbrev cX10_letterCell : ByteArray := prog_12_method_25_code
def yX10_letterCell : MethodName := ⟨RX10, "letterCell", "()I"⟩
abbrev cX10_functionCell : ByteArray := prog_12_method_26_code
def yX10_functionCell : MethodName := ⟨RX10, "functionCell", "(IIII)I"⟩
abbrev cX10_end : ByteArray := prog_12_method_27_code
def yX10_end : MethodName := ⟨RX10, "end", "(I)I"⟩
abbrev cX10_contains : ByteArray := prog_12_method_28_code
def yX10_contains : MethodName := ⟨RX10, "contains", "(II)Z"⟩
abbrev cX10_equal : ByteArray := prog_12_method_29_code
def yX10_equal : MethodName := ⟨RX10, "equal", "(II)V"⟩
abbrev cX10_endless : ByteArray := prog_12_method_30_code
def yX10_endless : MethodName := ⟨RX10, "endless", "()Z"⟩
abbrev cX10_goal : ByteArray := prog_12_method_31_code
def yX10_goal : MethodName := ⟨RX10, "goal", "(IIIII)V"⟩
abbrev cX10_place : ByteArray := prog_12_method_32_code
def yX10_place : MethodName := ⟨RX10, "place", "(III)I"⟩
abbrev cX10_variable : ByteArray := prog_12_method_33_code
def yX10_variable : MethodName := ⟨RX10, "variable", "(III)V"⟩
abbrev cX10_function : ByteArray := prog_12_method_34_code
def yX10_function : MethodName := ⟨RX10, "function", "(IIII)V"⟩
abbrev cX10_solve : ByteArray := prog_12_method_35_code
def yX10_solve : MethodName := ⟨RX10, "solve", "()V"⟩
abbrev cX10_solveTwo : ByteArray := prog_12_method_36_code
def yX10_solveTwo : MethodName := ⟨RX10, "solveTwo", "(III)V"⟩
abbrev cX10_numberLetters : ByteArray := prog_12_method_37_code
def yX10_numberLetters : MethodName := ⟨RX10, "numberLetters", "(I)V"⟩
abbrev cX10_told : ByteArray := prog_12_method_38_code
def yX10_told : MethodName := ⟨RX10, "told", "(II)I"⟩
abbrev cX10_type : ByteArray := prog_12_method_39_code
def yX10_type : MethodName := ⟨RX10, "type", "(I)I"⟩
abbrev cX10_part : ByteArray := prog_12_method_40_code
def yX10_part : MethodName := ⟨RX10, "part", "(I)I"⟩
abbrev cX10_count : ByteArray := prog_12_method_41_code
def yX10_count : MethodName := ⟨RX10, "count", "(I)I"⟩
abbrev cX10_mean : ByteArray := prog_12_method_42_code
def yX10_mean : MethodName := ⟨RX10, "mean", "()F"⟩
def RJ9 : String := "java/lang/Math"
def TJ9 : u_T := fun k => match k with
  | _ => ("", "", "", false)
def tyJ9 : Nat → FieldType := fun k => match k with
  | _ => .int
abbrev wsJ90 : List Cond := u_ws RJ9 TJ9 0
theorem nmJ9 : ∀ a, a < 0 → ∀ b, b < 0 → a ≠ b → (TJ9 a).2.1 ≠ (TJ9 b).2.1 := by decide +kernel
theorem tyJ9_ok : ∀ k, k < 0 → parseFieldDescriptor (TJ9 k).2.2.1 = some (tyJ9 k) := by decide +kernel
abbrev cJ9_max_7cf53 : ByteArray := prog_17_method_65_code
def yJ9_max_7cf53 : MethodName := ⟨RJ9, "max", "(II)I"⟩
abbrev cJ9_min_7cf53 : ByteArray := prog_17_method_69_code
def yJ9_min_7cf53 : MethodName := ⟨RJ9, "min", "(II)I"⟩
def RJ7 : String := "java/util/Arrays"
def TJ7 : u_T := fun k => match k with
  | _ => ("", "", "", false)
def tyJ7 : Nat → FieldType := fun k => match k with
  | _ => .int
abbrev wsJ70 : List Cond := u_ws RJ7 TJ7 0
theorem nmJ7 : ∀ a, a < 0 → ∀ b, b < 0 → a ≠ b → (TJ7 a).2.1 ≠ (TJ7 b).2.1 := by decide +kernel
theorem tyJ7_ok : ∀ k, k < 0 → parseFieldDescriptor (TJ7 k).2.2.1 = some (tyJ7 k) := by decide +kernel
abbrev cJ7_fill_53178 : ByteArray := prog_20_method_103_code
def yJ7_fill_53178 : MethodName := ⟨RJ7, "fill", "([II)V"⟩
def RL : String := "MarkDeskLaw"
abbrev cL_make : ByteArray := method_3_code
def yL_make : MethodName := ⟨RL, "make", "(LMarkDesk;IIII[J)I"⟩
abbrev cL_open : ByteArray := method_4_code
def yL_open : MethodName := ⟨RL, "open", "(LMarkDesk;I[J)I"⟩
abbrev cL_work : ByteArray := method_5_code
def yL_work : MethodName := ⟨RL, "work", "(LMarkDesk;II[J)I"⟩
abbrev cL_type : ByteArray := method_6_code
def yL_type : MethodName := ⟨RL, "type", "(LMarkDesk;I[J)I"⟩
abbrev cL_law : ByteArray := code
def yL_law : MethodName := ⟨RL, "law", "([I)Z"⟩
def wsX1_init : List Cond := .code yX1_init cX1_init 1 none :: ([.methodLink RX1 3 objectInit, .instanceMethod objectInit, .code objectInit ⟨#[0xb1]⟩ 1 none, .arrayClass .int, .fieldLink RX1 11 "MarkDesk$KnownType" "answer" "[I", .fieldLink RX1 17 "MarkDesk$KnownType" "parts" "[I", .fieldLink RX1 22 "MarkDesk$KnownType" "waiting" "[I", .fieldLink RX1 25 "MarkDesk$KnownType" "root" "I"] ++ wsX10)
def wsX5_chosen : List Cond := .code yX5_chosen cX5_chosen 4 (some .int) :: ([.fieldLink RX5 35 "MarkDesk$Types" "used" "I", .fieldLink RX5 17 "MarkDesk$Types" "sameAs" "[I"] ++ wsX50)
def wsJ7_fill_53178 : List Cond := .code yJ7_fill_53178 cJ7_fill_53178 4 none :: ([])
def wsX5_chosenPart : List Cond := .code yX5_chosenPart cX5_chosenPart 3 (some .int) :: ([.fieldLink RX5 20 "MarkDesk$Types" "parts" "[I", .methodLink RX5 43 yX5_chosen, .instanceMethod yX5_chosen, .selects RX5 yX5_chosen yX5_chosen, .initialized RX5, .code yX5_chosen cX5_chosen 4 (some .int), .fieldLink RX5 35 "MarkDesk$Types" "used" "I", .fieldLink RX5 17 "MarkDesk$Types" "sameAs" "[I"] ++ wsX50)
def wsX1_keepNode : List Cond := .code yX1_keepNode cX1_keepNode 7 (some .int) :: ([.fieldLink RX1 11 "MarkDesk$KnownType" "answer" "[I", .fieldLink RX1 46 "MarkDesk$Types" "form" "[I", .fieldLink RX1 33 "MarkDesk$KnownType" "letters" "I", .fieldLink RX1 17 "MarkDesk$KnownType" "parts" "[I", .fieldLink RX1 22 "MarkDesk$KnownType" "waiting" "[I", .methodLink RX1 49 yX5_chosenPart, .instanceMethod yX5_chosenPart, .selects RX5 yX5_chosenPart yX5_chosenPart, .initialized RX5, .code yX5_chosenPart cX5_chosenPart 3 (some .int), .fieldLink RX5 20 "MarkDesk$Types" "parts" "[I", .methodLink RX5 43 yX5_chosen, .instanceMethod yX5_chosen, .selects RX5 yX5_chosen yX5_chosen, .code yX5_chosen cX5_chosen 4 (some .int), .fieldLink RX5 35 "MarkDesk$Types" "used" "I", .fieldLink RX5 17 "MarkDesk$Types" "sameAs" "[I"] ++ wsX10 ++ wsX50)
def wsX1_keep_r1 : List Cond := [Cond.fieldLink RX1 25 "MarkDesk$KnownType" "root" "I", Cond.fieldLink RX1 33 "MarkDesk$KnownType" "letters" "I", Cond.fieldLink RX1 11 "MarkDesk$KnownType" "answer" "[I", Cond.fieldLink RX1 22 "MarkDesk$KnownType" "waiting" "[I", Cond.methodLink RX1 29 yX5_chosen, Cond.instanceMethod yX5_chosen, Cond.selects RX5 yX5_chosen yX5_chosen, Cond.initialized RX5, Cond.code yX5_chosen cX5_chosen 4 (some .int), Cond.fieldLink RX5 35 "MarkDesk$Types" "used" "I", Cond.fieldLink RX5 17 "MarkDesk$Types" "sameAs" "[I", Cond.methodLink RX1 36 yJ7_fill_53178, Cond.static yJ7_fill_53178, Cond.initialized RJ7, Cond.code yJ7_fill_53178 cJ7_fill_53178 4 none, Cond.methodLink RX1 42 yX1_keepNode, Cond.instanceMethod yX1_keepNode, Cond.selects RX1 yX1_keepNode yX1_keepNode, Cond.initialized RX1, Cond.code yX1_keepNode cX1_keepNode 7 (some .int), Cond.fieldLink RX1 46 "MarkDesk$Types" "form" "[I", Cond.fieldLink RX1 17 "MarkDesk$KnownType" "parts" "[I", Cond.methodLink RX1 49 yX5_chosenPart, Cond.instanceMethod yX5_chosenPart]
def wsX1_keep_r2 : List Cond := [Cond.selects RX5 yX5_chosenPart yX5_chosenPart, Cond.code yX5_chosenPart cX5_chosenPart 3 (some .int), Cond.fieldLink RX5 20 "MarkDesk$Types" "parts" "[I", Cond.methodLink RX5 43 yX5_chosen]
def wsX1_keep : List Cond := .code yX1_keep cX1_keep 6 none :: ((wsX1_keep_r1 ++ wsX1_keep_r2) ++ wsX10 ++ wsX50)
def wsX1_at : List Cond := .code yX1_at cX1_at 5 (some .int) :: ([.fieldLink RX1 25 "MarkDesk$KnownType" "root" "I", .fieldLink RX1 11 "MarkDesk$KnownType" "answer" "[I", .fieldLink RX1 17 "MarkDesk$KnownType" "parts" "[I"] ++ wsX10)
def wsX7_init : List Cond := .code yX7_init cX7_init 1 none :: ([.methodLink RX7 1 objectInit, .instanceMethod objectInit, .code objectInit ⟨#[0xb1]⟩ 1 none, .arrayClass .int, .fieldLink RX7 9 "MarkDesk$Values" "form" "[I", .fieldLink RX7 15 "MarkDesk$Values" "content" "[I", .fieldLink RX7 18 "MarkDesk$Values" "scope" "[I"] ++ wsX70)
def wsX3_init : List Cond := .code yX3_init cX3_init 1 none :: ([.methodLink RX3 3 objectInit, .instanceMethod objectInit, .code objectInit ⟨#[0xb1]⟩ 1 none, .arrayClass .int, .fieldLink RX3 11 "MarkDesk$Scopes" "bound" "[I", .fieldLink RX3 17 "MarkDesk$Scopes" "outer" "[I"] ++ wsX30)
def wsX8_init : List Cond := .code yX8_init cX8_init 1 none :: ([.methodLink RX8 1 objectInit, .instanceMethod objectInit, .code objectInit ⟨#[0xb1]⟩ 1 none, .arrayClass .int, .fieldLink RX8 9 "MarkDesk$Waitings" "term" "[I", .fieldLink RX8 15 "MarkDesk$Waitings" "scope" "[I", .fieldLink RX8 18 "MarkDesk$Waitings" "held" "[I", .fieldLink RX8 21 "MarkDesk$Waitings" "next" "[I"] ++ wsX80)
def wsX2_init_r1 : List Cond := [Cond.methodLink RX2 5 objectInit, Cond.instanceMethod objectInit, Cond.code objectInit ⟨#[0xb1]⟩ 1 none, Cond.classLink RX2 11 RX7, Cond.instantiable RX7 4, Cond.initialized RX7, Cond.fieldLink RX2 14 "MarkDesk$Machine" "values" "LMarkDesk$Values;", Cond.classLink RX2 18 RX3, Cond.instantiable RX3 3, Cond.initialized RX3, Cond.fieldLink RX2 21 "MarkDesk$Machine" "scopes" "LMarkDesk$Scopes;", Cond.classLink RX2 25 RX8, Cond.instantiable RX8 5, Cond.initialized RX8, Cond.fieldLink RX2 28 "MarkDesk$Machine" "waitings" "LMarkDesk$Waitings;", Cond.arrayClass .int, Cond.fieldLink RX2 32 "MarkDesk$Machine" "behindMarks" "[I", Cond.fieldLink RX2 36 "MarkDesk$Machine" "terms" "LMarkDesk$Terms;", Cond.instanceMethod yX7_init, Cond.code yX7_init cX7_init 1 none, Cond.methodLink RX7 1 objectInit, Cond.fieldLink RX7 9 "MarkDesk$Values" "form" "[I", Cond.fieldLink RX7 15 "MarkDesk$Values" "content" "[I", Cond.fieldLink RX7 18 "MarkDesk$Values" "scope" "[I"]
def wsX2_init_r2 : List Cond := [Cond.instanceMethod yX3_init, Cond.code yX3_init cX3_init 1 none, Cond.methodLink RX3 3 objectInit, Cond.fieldLink RX3 11 "MarkDesk$Scopes" "bound" "[I", Cond.fieldLink RX3 17 "MarkDesk$Scopes" "outer" "[I", Cond.instanceMethod yX8_init, Cond.code yX8_init cX8_init 1 none, Cond.methodLink RX8 1 objectInit, Cond.fieldLink RX8 9 "MarkDesk$Waitings" "term" "[I", Cond.fieldLink RX8 15 "MarkDesk$Waitings" "scope" "[I", Cond.fieldLink RX8 18 "MarkDesk$Waitings" "held" "[I", Cond.fieldLink RX8 21 "MarkDesk$Waitings" "next" "[I"]
def wsX2_init : List Cond := .code yX2_init cX2_init 2 none :: ((wsX2_init_r1 ++ wsX2_init_r2) ++ wsX70 ++ wsX20 ++ wsX30 ++ wsX80)
def wsX7_clear : List Cond := .code yX7_clear cX7_clear 1 none :: ([.fieldLink RX7 21 "MarkDesk$Values" "used" "I"] ++ wsX70)
def wsX3_clear : List Cond := .code yX3_clear cX3_clear 1 none :: ([.fieldLink RX3 20 "MarkDesk$Scopes" "used" "I"] ++ wsX30)
def wsX8_clear : List Cond := .code yX8_clear cX8_clear 1 none :: ([.fieldLink RX8 24 "MarkDesk$Waitings" "used" "I"] ++ wsX80)
def wsX2_goTo : List Cond := .code yX2_goTo cX2_goTo 3 none :: ([.fieldLink RX2 96 "MarkDesk$Machine" "term" "I", .fieldLink RX2 99 "MarkDesk$Machine" "scope" "I", .fieldLink RX2 71 "MarkDesk$Machine" "given" "I"] ++ wsX20)
def wsX2_leaveMark : List Cond := .code yX2_leaveMark cX2_leaveMark 1 none :: ([.fieldLink RX2 45 "MarkDesk$Machine" "marks" "I", .fieldLink RX2 58 "MarkDesk$Machine" "end" "I", .fieldLink RX2 32 "MarkDesk$Machine" "behindMarks" "[I", .fieldLink RX2 49 "MarkDesk$Machine" "toDo" "I"] ++ wsX20)
def wsX7_add : List Cond := .code yX7_add cX7_add 4 (some .int) :: ([.fieldLink RX7 9 "MarkDesk$Values" "form" "[I", .fieldLink RX7 21 "MarkDesk$Values" "used" "I", .fieldLink RX7 15 "MarkDesk$Values" "content" "[I", .fieldLink RX7 18 "MarkDesk$Values" "scope" "[I"] ++ wsX70)
def wsX3_look : List Cond := .code yX3_look cX3_look 5 (some .int) :: ([.fieldLink RX3 17 "MarkDesk$Scopes" "outer" "[I", .fieldLink RX3 11 "MarkDesk$Scopes" "bound" "[I"] ++ wsX30)
def wsX2_enterMark : List Cond := .code yX2_enterMark cX2_enterMark 2 none :: ([.fieldLink RX2 32 "MarkDesk$Machine" "behindMarks" "[I", .fieldLink RX2 45 "MarkDesk$Machine" "marks" "I", .fieldLink RX2 49 "MarkDesk$Machine" "toDo" "I"] ++ wsX20)
def wsX3_bind : List Cond := .code yX3_bind cX3_bind 3 (some .int) :: ([.fieldLink RX3 11 "MarkDesk$Scopes" "bound" "[I", .fieldLink RX3 20 "MarkDesk$Scopes" "used" "I", .fieldLink RX3 17 "MarkDesk$Scopes" "outer" "[I"] ++ wsX30)
def wsX8_add : List Cond := .code yX8_add cX8_add 5 (some .int) :: ([.fieldLink RX8 9 "MarkDesk$Waitings" "term" "[I", .fieldLink RX8 24 "MarkDesk$Waitings" "used" "I", .fieldLink RX8 15 "MarkDesk$Waitings" "scope" "[I", .fieldLink RX8 18 "MarkDesk$Waitings" "held" "[I", .fieldLink RX8 21 "MarkDesk$Waitings" "next" "[I"] ++ wsX80)
def wsX2_beginTerm_r1 : List Cond := [Cond.fieldLink RX2 36 "MarkDesk$Machine" "terms" "LMarkDesk$Terms;", Cond.fieldLink RX2 102 "MarkDesk$Terms" "first" "[I", Cond.fieldLink RX2 96 "MarkDesk$Machine" "term" "I", Cond.fieldLink RX2 107 "MarkDesk$Terms" "kind" "[I", Cond.fieldLink RX2 14 "MarkDesk$Machine" "values" "LMarkDesk$Values;", Cond.fieldLink RX2 71 "MarkDesk$Machine" "given" "I", Cond.fieldLink RX2 21 "MarkDesk$Machine" "scopes" "LMarkDesk$Scopes;", Cond.fieldLink RX2 99 "MarkDesk$Machine" "scope" "I", Cond.fieldLink RX2 49 "MarkDesk$Machine" "toDo" "I", Cond.fieldLink RX2 28 "MarkDesk$Machine" "waitings" "LMarkDesk$Waitings;", Cond.methodLink RX2 110 yX7_add, Cond.instanceMethod yX7_add, Cond.selects RX7 yX7_add yX7_add, Cond.initialized RX7, Cond.code yX7_add cX7_add 4 (some .int), Cond.fieldLink RX7 9 "MarkDesk$Values" "form" "[I", Cond.fieldLink RX7 21 "MarkDesk$Values" "used" "I", Cond.fieldLink RX7 15 "MarkDesk$Values" "content" "[I", Cond.fieldLink RX7 18 "MarkDesk$Values" "scope" "[I", Cond.methodLink RX2 114 yX3_look, Cond.instanceMethod yX3_look, Cond.selects RX3 yX3_look yX3_look, Cond.initialized RX3, Cond.code yX3_look cX3_look 5 (some .int)]
def wsX2_beginTerm_r2 : List Cond := [Cond.fieldLink RX3 17 "MarkDesk$Scopes" "outer" "[I", Cond.fieldLink RX3 11 "MarkDesk$Scopes" "bound" "[I", Cond.methodLink RX2 117 yX2_enterMark, Cond.instanceMethod yX2_enterMark, Cond.selects RX2 yX2_enterMark yX2_enterMark, Cond.initialized RX2, Cond.code yX2_enterMark cX2_enterMark 2 none, Cond.fieldLink RX2 32 "MarkDesk$Machine" "behindMarks" "[I", Cond.fieldLink RX2 45 "MarkDesk$Machine" "marks" "I", Cond.methodLink RX2 121 yX3_bind, Cond.instanceMethod yX3_bind, Cond.selects RX3 yX3_bind yX3_bind, Cond.code yX3_bind cX3_bind 3 (some .int), Cond.fieldLink RX3 20 "MarkDesk$Scopes" "used" "I", Cond.methodLink RX2 124 yX8_add, Cond.instanceMethod yX8_add, Cond.selects RX8 yX8_add yX8_add, Cond.initialized RX8, Cond.code yX8_add cX8_add 5 (some .int), Cond.fieldLink RX8 9 "MarkDesk$Waitings" "term" "[I", Cond.fieldLink RX8 24 "MarkDesk$Waitings" "used" "I", Cond.fieldLink RX8 15 "MarkDesk$Waitings" "scope" "[I", Cond.fieldLink RX8 18 "MarkDesk$Waitings" "held" "[I", Cond.fieldLink RX8 21 "MarkDesk$Waitings" "next" "[I"]
def wsX2_beginTerm : List Cond := .code yX2_beginTerm cX2_beginTerm 2 none :: ((wsX2_beginTerm_r1 ++ wsX2_beginTerm_r2) ++ wsX20 ++ wsX40 ++ wsX70 ++ wsX30 ++ wsX80)
def wsX2_choose : List Cond := .code yX2_choose cX2_choose 3 none :: ([.fieldLink RX2 14 "MarkDesk$Machine" "values" "LMarkDesk$Values;", .fieldLink RX2 68 "MarkDesk$Values" "form" "[I", .fieldLink RX2 71 "MarkDesk$Machine" "given" "I", .fieldLink RX2 58 "MarkDesk$Machine" "end" "I", .fieldLink RX2 84 "MarkDesk$Values" "content" "[I", .fieldLink RX2 36 "MarkDesk$Machine" "terms" "LMarkDesk$Terms;", .fieldLink RX2 139 "MarkDesk$Terms" "second" "[I", .fieldLink RX2 152 "MarkDesk$Terms" "third" "[I", .methodLink RX2 61 yX2_goTo, .instanceMethod yX2_goTo, .selects RX2 yX2_goTo yX2_goTo, .initialized RX2, .code yX2_goTo cX2_goTo 3 none, .fieldLink RX2 96 "MarkDesk$Machine" "term" "I", .fieldLink RX2 99 "MarkDesk$Machine" "scope" "I"] ++ wsX20 ++ wsX70 ++ wsX40)
def wsX2_callWith_r1 : List Cond := [Cond.fieldLink RX2 14 "MarkDesk$Machine" "values" "LMarkDesk$Values;", Cond.fieldLink RX2 68 "MarkDesk$Values" "form" "[I", Cond.fieldLink RX2 84 "MarkDesk$Values" "content" "[I", Cond.fieldLink RX2 155 "MarkDesk$Values" "scope" "[I", Cond.fieldLink RX2 36 "MarkDesk$Machine" "terms" "LMarkDesk$Terms;", Cond.fieldLink RX2 107 "MarkDesk$Terms" "kind" "[I", Cond.fieldLink RX2 21 "MarkDesk$Machine" "scopes" "LMarkDesk$Scopes;", Cond.fieldLink RX2 102 "MarkDesk$Terms" "first" "[I", Cond.fieldLink RX2 58 "MarkDesk$Machine" "end" "I", Cond.methodLink RX2 117 yX2_enterMark, Cond.instanceMethod yX2_enterMark, Cond.selects RX2 yX2_enterMark yX2_enterMark, Cond.initialized RX2, Cond.code yX2_enterMark cX2_enterMark 2 none, Cond.fieldLink RX2 32 "MarkDesk$Machine" "behindMarks" "[I", Cond.fieldLink RX2 45 "MarkDesk$Machine" "marks" "I", Cond.fieldLink RX2 49 "MarkDesk$Machine" "toDo" "I", Cond.methodLink RX2 121 yX3_bind, Cond.instanceMethod yX3_bind, Cond.selects RX3 yX3_bind yX3_bind, Cond.initialized RX3, Cond.code yX3_bind cX3_bind 3 (some .int), Cond.fieldLink RX3 11 "MarkDesk$Scopes" "bound" "[I", Cond.fieldLink RX3 20 "MarkDesk$Scopes" "used" "I"]
def wsX2_callWith_r2 : List Cond := [Cond.fieldLink RX3 17 "MarkDesk$Scopes" "outer" "[I", Cond.methodLink RX2 61 yX2_goTo, Cond.instanceMethod yX2_goTo, Cond.selects RX2 yX2_goTo yX2_goTo, Cond.code yX2_goTo cX2_goTo 3 none, Cond.fieldLink RX2 96 "MarkDesk$Machine" "term" "I", Cond.fieldLink RX2 99 "MarkDesk$Machine" "scope" "I", Cond.fieldLink RX2 71 "MarkDesk$Machine" "given" "I"]
def wsX2_callWith : List Cond := .code yX2_callWith cX2_callWith 6 none :: ((wsX2_callWith_r1 ++ wsX2_callWith_r2) ++ wsX20 ++ wsX70 ++ wsX40 ++ wsX30)
def wsX2_joinNumbers : List Cond := .code yX2_joinNumbers cX2_joinNumbers 4 none :: ([.fieldLink RX2 14 "MarkDesk$Machine" "values" "LMarkDesk$Values;", .fieldLink RX2 68 "MarkDesk$Values" "form" "[I", .fieldLink RX2 58 "MarkDesk$Machine" "end" "I", .fieldLink RX2 84 "MarkDesk$Values" "content" "[I", .fieldLink RX2 71 "MarkDesk$Machine" "given" "I", .methodLink RX2 110 yX7_add, .instanceMethod yX7_add, .selects RX7 yX7_add yX7_add, .initialized RX7, .code yX7_add cX7_add 4 (some .int), .fieldLink RX7 9 "MarkDesk$Values" "form" "[I", .fieldLink RX7 21 "MarkDesk$Values" "used" "I", .fieldLink RX7 15 "MarkDesk$Values" "content" "[I", .fieldLink RX7 18 "MarkDesk$Values" "scope" "[I"] ++ wsX20 ++ wsX70)
def wsX2_bringValue_r1 : List Cond := [Cond.fieldLink RX2 49 "MarkDesk$Machine" "toDo" "I", Cond.fieldLink RX2 28 "MarkDesk$Machine" "waitings" "LMarkDesk$Waitings;", Cond.fieldLink RX2 127 "MarkDesk$Waitings" "term" "[I", Cond.fieldLink RX2 36 "MarkDesk$Machine" "terms" "LMarkDesk$Terms;", Cond.fieldLink RX2 107 "MarkDesk$Terms" "kind" "[I", Cond.fieldLink RX2 129 "MarkDesk$Waitings" "next" "[I", Cond.fieldLink RX2 134 "MarkDesk$Waitings" "scope" "[I", Cond.fieldLink RX2 139 "MarkDesk$Terms" "second" "[I", Cond.fieldLink RX2 21 "MarkDesk$Machine" "scopes" "LMarkDesk$Scopes;", Cond.fieldLink RX2 71 "MarkDesk$Machine" "given" "I", Cond.fieldLink RX2 142 "MarkDesk$Waitings" "held" "[I", Cond.methodLink RX2 136 yX2_choose, Cond.instanceMethod yX2_choose, Cond.selects RX2 yX2_choose yX2_choose, Cond.initialized RX2, Cond.code yX2_choose cX2_choose 3 none, Cond.fieldLink RX2 14 "MarkDesk$Machine" "values" "LMarkDesk$Values;", Cond.fieldLink RX2 68 "MarkDesk$Values" "form" "[I", Cond.fieldLink RX2 58 "MarkDesk$Machine" "end" "I", Cond.fieldLink RX2 84 "MarkDesk$Values" "content" "[I", Cond.fieldLink RX2 152 "MarkDesk$Terms" "third" "[I", Cond.methodLink RX2 61 yX2_goTo, Cond.instanceMethod yX2_goTo, Cond.selects RX2 yX2_goTo yX2_goTo]
def wsX2_bringValue_r2 : List Cond := [Cond.code yX2_goTo cX2_goTo 3 none, Cond.fieldLink RX2 96 "MarkDesk$Machine" "term" "I", Cond.fieldLink RX2 99 "MarkDesk$Machine" "scope" "I", Cond.methodLink RX2 121 yX3_bind, Cond.instanceMethod yX3_bind, Cond.selects RX3 yX3_bind yX3_bind, Cond.initialized RX3, Cond.code yX3_bind cX3_bind 3 (some .int), Cond.fieldLink RX3 11 "MarkDesk$Scopes" "bound" "[I", Cond.fieldLink RX3 20 "MarkDesk$Scopes" "used" "I", Cond.fieldLink RX3 17 "MarkDesk$Scopes" "outer" "[I", Cond.methodLink RX2 124 yX8_add, Cond.instanceMethod yX8_add, Cond.selects RX8 yX8_add yX8_add, Cond.initialized RX8, Cond.code yX8_add cX8_add 5 (some .int), Cond.fieldLink RX8 9 "MarkDesk$Waitings" "term" "[I", Cond.fieldLink RX8 24 "MarkDesk$Waitings" "used" "I", Cond.fieldLink RX8 15 "MarkDesk$Waitings" "scope" "[I", Cond.fieldLink RX8 18 "MarkDesk$Waitings" "held" "[I", Cond.fieldLink RX8 21 "MarkDesk$Waitings" "next" "[I", Cond.methodLink RX2 145 yX2_callWith, Cond.instanceMethod yX2_callWith, Cond.selects RX2 yX2_callWith yX2_callWith]
def wsX2_bringValue_r3 : List Cond := [Cond.code yX2_callWith cX2_callWith 6 none, Cond.fieldLink RX2 155 "MarkDesk$Values" "scope" "[I", Cond.fieldLink RX2 102 "MarkDesk$Terms" "first" "[I", Cond.methodLink RX2 117 yX2_enterMark, Cond.instanceMethod yX2_enterMark, Cond.selects RX2 yX2_enterMark yX2_enterMark, Cond.code yX2_enterMark cX2_enterMark 2 none, Cond.fieldLink RX2 32 "MarkDesk$Machine" "behindMarks" "[I", Cond.fieldLink RX2 45 "MarkDesk$Machine" "marks" "I", Cond.methodLink RX2 148 yX2_joinNumbers, Cond.instanceMethod yX2_joinNumbers, Cond.selects RX2 yX2_joinNumbers yX2_joinNumbers, Cond.code yX2_joinNumbers cX2_joinNumbers 4 none, Cond.methodLink RX2 110 yX7_add, Cond.instanceMethod yX7_add, Cond.selects RX7 yX7_add yX7_add, Cond.initialized RX7, Cond.code yX7_add cX7_add 4 (some .int), Cond.fieldLink RX7 9 "MarkDesk$Values" "form" "[I", Cond.fieldLink RX7 21 "MarkDesk$Values" "used" "I", Cond.fieldLink RX7 15 "MarkDesk$Values" "content" "[I", Cond.fieldLink RX7 18 "MarkDesk$Values" "scope" "[I"]
def wsX2_bringValue : List Cond := .code yX2_bringValue cX2_bringValue 4 none :: ((wsX2_bringValue_r1 ++ (wsX2_bringValue_r2 ++ wsX2_bringValue_r3)) ++ wsX20 ++ wsX80 ++ wsX40 ++ wsX70 ++ wsX30)
def wsX2_doRound_r1 : List Cond := [Cond.fieldLink RX2 71 "MarkDesk$Machine" "given" "I", Cond.fieldLink RX2 49 "MarkDesk$Machine" "toDo" "I", Cond.fieldLink RX2 52 "MarkDesk$Machine" "fuelLeft" "I", Cond.fieldLink RX2 58 "MarkDesk$Machine" "end" "I", Cond.fieldLink RX2 55 "MarkDesk$Machine" "stepsDone" "I", Cond.methodLink RX2 87 yX2_leaveMark, Cond.instanceMethod yX2_leaveMark, Cond.selects RX2 yX2_leaveMark yX2_leaveMark, Cond.initialized RX2, Cond.code yX2_leaveMark cX2_leaveMark 1 none, Cond.fieldLink RX2 45 "MarkDesk$Machine" "marks" "I", Cond.fieldLink RX2 32 "MarkDesk$Machine" "behindMarks" "[I", Cond.methodLink RX2 90 yX2_beginTerm, Cond.instanceMethod yX2_beginTerm, Cond.selects RX2 yX2_beginTerm yX2_beginTerm, Cond.code yX2_beginTerm cX2_beginTerm 2 none, Cond.fieldLink RX2 36 "MarkDesk$Machine" "terms" "LMarkDesk$Terms;", Cond.fieldLink RX2 102 "MarkDesk$Terms" "first" "[I", Cond.fieldLink RX2 96 "MarkDesk$Machine" "term" "I", Cond.fieldLink RX2 107 "MarkDesk$Terms" "kind" "[I", Cond.fieldLink RX2 14 "MarkDesk$Machine" "values" "LMarkDesk$Values;", Cond.fieldLink RX2 21 "MarkDesk$Machine" "scopes" "LMarkDesk$Scopes;", Cond.fieldLink RX2 99 "MarkDesk$Machine" "scope" "I", Cond.fieldLink RX2 28 "MarkDesk$Machine" "waitings" "LMarkDesk$Waitings;"]
def wsX2_doRound_r2 : List Cond := [Cond.methodLink RX2 110 yX7_add, Cond.instanceMethod yX7_add, Cond.selects RX7 yX7_add yX7_add, Cond.initialized RX7, Cond.code yX7_add cX7_add 4 (some .int), Cond.fieldLink RX7 9 "MarkDesk$Values" "form" "[I", Cond.fieldLink RX7 21 "MarkDesk$Values" "used" "I", Cond.fieldLink RX7 15 "MarkDesk$Values" "content" "[I", Cond.fieldLink RX7 18 "MarkDesk$Values" "scope" "[I", Cond.methodLink RX2 114 yX3_look, Cond.instanceMethod yX3_look, Cond.selects RX3 yX3_look yX3_look, Cond.initialized RX3, Cond.code yX3_look cX3_look 5 (some .int), Cond.fieldLink RX3 17 "MarkDesk$Scopes" "outer" "[I", Cond.fieldLink RX3 11 "MarkDesk$Scopes" "bound" "[I", Cond.methodLink RX2 117 yX2_enterMark, Cond.instanceMethod yX2_enterMark, Cond.selects RX2 yX2_enterMark yX2_enterMark, Cond.code yX2_enterMark cX2_enterMark 2 none, Cond.methodLink RX2 121 yX3_bind, Cond.instanceMethod yX3_bind, Cond.selects RX3 yX3_bind yX3_bind, Cond.code yX3_bind cX3_bind 3 (some .int)]
def wsX2_doRound_r3 : List Cond := [Cond.fieldLink RX3 20 "MarkDesk$Scopes" "used" "I", Cond.methodLink RX2 124 yX8_add, Cond.instanceMethod yX8_add, Cond.selects RX8 yX8_add yX8_add, Cond.initialized RX8, Cond.code yX8_add cX8_add 5 (some .int), Cond.fieldLink RX8 9 "MarkDesk$Waitings" "term" "[I", Cond.fieldLink RX8 24 "MarkDesk$Waitings" "used" "I", Cond.fieldLink RX8 15 "MarkDesk$Waitings" "scope" "[I", Cond.fieldLink RX8 18 "MarkDesk$Waitings" "held" "[I", Cond.fieldLink RX8 21 "MarkDesk$Waitings" "next" "[I", Cond.methodLink RX2 93 yX2_bringValue, Cond.instanceMethod yX2_bringValue, Cond.selects RX2 yX2_bringValue yX2_bringValue, Cond.code yX2_bringValue cX2_bringValue 4 none, Cond.fieldLink RX2 127 "MarkDesk$Waitings" "term" "[I", Cond.fieldLink RX2 129 "MarkDesk$Waitings" "next" "[I", Cond.fieldLink RX2 134 "MarkDesk$Waitings" "scope" "[I", Cond.fieldLink RX2 139 "MarkDesk$Terms" "second" "[I", Cond.fieldLink RX2 142 "MarkDesk$Waitings" "held" "[I", Cond.methodLink RX2 136 yX2_choose, Cond.instanceMethod yX2_choose, Cond.selects RX2 yX2_choose yX2_choose, Cond.code yX2_choose cX2_choose 3 none]
def wsX2_doRound_r4 : List Cond := [Cond.fieldLink RX2 68 "MarkDesk$Values" "form" "[I", Cond.fieldLink RX2 84 "MarkDesk$Values" "content" "[I", Cond.fieldLink RX2 152 "MarkDesk$Terms" "third" "[I", Cond.methodLink RX2 61 yX2_goTo, Cond.instanceMethod yX2_goTo, Cond.selects RX2 yX2_goTo yX2_goTo, Cond.code yX2_goTo cX2_goTo 3 none, Cond.methodLink RX2 145 yX2_callWith, Cond.instanceMethod yX2_callWith, Cond.selects RX2 yX2_callWith yX2_callWith, Cond.code yX2_callWith cX2_callWith 6 none, Cond.fieldLink RX2 155 "MarkDesk$Values" "scope" "[I", Cond.methodLink RX2 148 yX2_joinNumbers, Cond.instanceMethod yX2_joinNumbers, Cond.selects RX2 yX2_joinNumbers yX2_joinNumbers, Cond.code yX2_joinNumbers cX2_joinNumbers 4 none]
def wsX2_doRound : List Cond := .code yX2_doRound cX2_doRound 1 none :: ((wsX2_doRound_r1 ++ (wsX2_doRound_r2 ++ (wsX2_doRound_r3 ++ wsX2_doRound_r4))) ++ wsX20 ++ wsX40 ++ wsX70 ++ wsX30 ++ wsX80)
def wsX2_workOut_r1 : List Cond := [Cond.fieldLink RX2 14 "MarkDesk$Machine" "values" "LMarkDesk$Values;", Cond.fieldLink RX2 21 "MarkDesk$Machine" "scopes" "LMarkDesk$Scopes;", Cond.fieldLink RX2 28 "MarkDesk$Machine" "waitings" "LMarkDesk$Waitings;", Cond.fieldLink RX2 45 "MarkDesk$Machine" "marks" "I", Cond.fieldLink RX2 49 "MarkDesk$Machine" "toDo" "I", Cond.fieldLink RX2 52 "MarkDesk$Machine" "fuelLeft" "I", Cond.fieldLink RX2 55 "MarkDesk$Machine" "stepsDone" "I", Cond.fieldLink RX2 58 "MarkDesk$Machine" "end" "I", Cond.methodLink RX2 40 yX7_clear, Cond.instanceMethod yX7_clear, Cond.selects RX7 yX7_clear yX7_clear, Cond.initialized RX7, Cond.code yX7_clear cX7_clear 1 none, Cond.fieldLink RX7 21 "MarkDesk$Values" "used" "I", Cond.methodLink RX2 43 yX3_clear, Cond.instanceMethod yX3_clear, Cond.selects RX3 yX3_clear yX3_clear, Cond.initialized RX3, Cond.code yX3_clear cX3_clear 1 none, Cond.fieldLink RX3 20 "MarkDesk$Scopes" "used" "I", Cond.methodLink RX2 44 yX8_clear, Cond.instanceMethod yX8_clear, Cond.selects RX8 yX8_clear yX8_clear, Cond.initialized RX8]
def wsX2_workOut_r2 : List Cond := [Cond.code yX8_clear cX8_clear 1 none, Cond.fieldLink RX8 24 "MarkDesk$Waitings" "used" "I", Cond.methodLink RX2 61 yX2_goTo, Cond.instanceMethod yX2_goTo, Cond.selects RX2 yX2_goTo yX2_goTo, Cond.initialized RX2, Cond.code yX2_goTo cX2_goTo 3 none, Cond.fieldLink RX2 96 "MarkDesk$Machine" "term" "I", Cond.fieldLink RX2 99 "MarkDesk$Machine" "scope" "I", Cond.fieldLink RX2 71 "MarkDesk$Machine" "given" "I", Cond.methodLink RX2 65 yX2_doRound, Cond.instanceMethod yX2_doRound, Cond.selects RX2 yX2_doRound yX2_doRound, Cond.code yX2_doRound cX2_doRound 1 none, Cond.methodLink RX2 87 yX2_leaveMark, Cond.instanceMethod yX2_leaveMark, Cond.selects RX2 yX2_leaveMark yX2_leaveMark, Cond.code yX2_leaveMark cX2_leaveMark 1 none, Cond.fieldLink RX2 32 "MarkDesk$Machine" "behindMarks" "[I", Cond.methodLink RX2 90 yX2_beginTerm, Cond.instanceMethod yX2_beginTerm, Cond.selects RX2 yX2_beginTerm yX2_beginTerm, Cond.code yX2_beginTerm cX2_beginTerm 2 none, Cond.fieldLink RX2 36 "MarkDesk$Machine" "terms" "LMarkDesk$Terms;"]
def wsX2_workOut_r3 : List Cond := [Cond.fieldLink RX2 102 "MarkDesk$Terms" "first" "[I", Cond.fieldLink RX2 107 "MarkDesk$Terms" "kind" "[I", Cond.methodLink RX2 110 yX7_add, Cond.instanceMethod yX7_add, Cond.selects RX7 yX7_add yX7_add, Cond.code yX7_add cX7_add 4 (some .int), Cond.fieldLink RX7 9 "MarkDesk$Values" "form" "[I", Cond.fieldLink RX7 15 "MarkDesk$Values" "content" "[I", Cond.fieldLink RX7 18 "MarkDesk$Values" "scope" "[I", Cond.methodLink RX2 114 yX3_look, Cond.instanceMethod yX3_look, Cond.selects RX3 yX3_look yX3_look, Cond.code yX3_look cX3_look 5 (some .int), Cond.fieldLink RX3 17 "MarkDesk$Scopes" "outer" "[I", Cond.fieldLink RX3 11 "MarkDesk$Scopes" "bound" "[I", Cond.methodLink RX2 117 yX2_enterMark, Cond.instanceMethod yX2_enterMark, Cond.selects RX2 yX2_enterMark yX2_enterMark, Cond.code yX2_enterMark cX2_enterMark 2 none, Cond.methodLink RX2 121 yX3_bind, Cond.instanceMethod yX3_bind, Cond.selects RX3 yX3_bind yX3_bind, Cond.code yX3_bind cX3_bind 3 (some .int), Cond.methodLink RX2 124 yX8_add]
def wsX2_workOut_r4 : List Cond := [Cond.instanceMethod yX8_add, Cond.selects RX8 yX8_add yX8_add, Cond.code yX8_add cX8_add 5 (some .int), Cond.fieldLink RX8 9 "MarkDesk$Waitings" "term" "[I", Cond.fieldLink RX8 15 "MarkDesk$Waitings" "scope" "[I", Cond.fieldLink RX8 18 "MarkDesk$Waitings" "held" "[I", Cond.fieldLink RX8 21 "MarkDesk$Waitings" "next" "[I", Cond.methodLink RX2 93 yX2_bringValue, Cond.instanceMethod yX2_bringValue, Cond.selects RX2 yX2_bringValue yX2_bringValue, Cond.code yX2_bringValue cX2_bringValue 4 none, Cond.fieldLink RX2 127 "MarkDesk$Waitings" "term" "[I", Cond.fieldLink RX2 129 "MarkDesk$Waitings" "next" "[I", Cond.fieldLink RX2 134 "MarkDesk$Waitings" "scope" "[I", Cond.fieldLink RX2 139 "MarkDesk$Terms" "second" "[I", Cond.fieldLink RX2 142 "MarkDesk$Waitings" "held" "[I", Cond.methodLink RX2 136 yX2_choose, Cond.instanceMethod yX2_choose, Cond.selects RX2 yX2_choose yX2_choose, Cond.code yX2_choose cX2_choose 3 none, Cond.fieldLink RX2 68 "MarkDesk$Values" "form" "[I", Cond.fieldLink RX2 84 "MarkDesk$Values" "content" "[I", Cond.fieldLink RX2 152 "MarkDesk$Terms" "third" "[I", Cond.methodLink RX2 145 yX2_callWith]
def wsX2_workOut_r5 : List Cond := [Cond.instanceMethod yX2_callWith, Cond.selects RX2 yX2_callWith yX2_callWith, Cond.code yX2_callWith cX2_callWith 6 none, Cond.fieldLink RX2 155 "MarkDesk$Values" "scope" "[I", Cond.methodLink RX2 148 yX2_joinNumbers, Cond.instanceMethod yX2_joinNumbers, Cond.selects RX2 yX2_joinNumbers yX2_joinNumbers, Cond.code yX2_joinNumbers cX2_joinNumbers 4 none]
def wsX2_workOut : List Cond := .code yX2_workOut cX2_workOut 4 (some .int) :: ((wsX2_workOut_r1 ++ (wsX2_workOut_r2 ++ (wsX2_workOut_r3 ++ (wsX2_workOut_r4 ++ wsX2_workOut_r5)))) ++ wsX20 ++ wsX70 ++ wsX30 ++ wsX80 ++ wsX40)
def wsX2_resultForm : List Cond := .code yX2_resultForm cX2_resultForm 1 (some .int) :: ([.fieldLink RX2 14 "MarkDesk$Machine" "values" "LMarkDesk$Values;", .fieldLink RX2 68 "MarkDesk$Values" "form" "[I", .fieldLink RX2 71 "MarkDesk$Machine" "given" "I", .methodLink RX2 74 Lib.Math.min.name, .static Lib.Math.min.name, .initialized "java/lang/Math", .code Lib.Math.min.name Lib.Math.min.code 2 (some .int)] ++ wsX20 ++ wsX70)
def wsX2_plainResult : List Cond := .code yX2_plainResult cX2_plainResult 1 (some .int) :: ([.fieldLink RX2 14 "MarkDesk$Machine" "values" "LMarkDesk$Values;", .fieldLink RX2 84 "MarkDesk$Values" "content" "[I", .fieldLink RX2 71 "MarkDesk$Machine" "given" "I", .methodLink RX2 80 yX2_resultForm, .instanceMethod yX2_resultForm, .selects RX2 yX2_resultForm yX2_resultForm, .initialized RX2, .code yX2_resultForm cX2_resultForm 1 (some .int), .fieldLink RX2 68 "MarkDesk$Values" "form" "[I", .methodLink RX2 74 Lib.Math.min.name, .static Lib.Math.min.name, .initialized "java/lang/Math", .code Lib.Math.min.name Lib.Math.min.code 2 (some .int)] ++ wsX20 ++ wsX70)
def wsX4_init : List Cond := .code yX4_init cX4_init 1 none :: ([.methodLink RX4 1 objectInit, .instanceMethod objectInit, .code objectInit ⟨#[0xb1]⟩ 1 none, .arrayClass .int, .fieldLink RX4 9 "MarkDesk$Terms" "kind" "[I", .fieldLink RX4 13 "MarkDesk$Terms" "first" "[I", .fieldLink RX4 16 "MarkDesk$Terms" "second" "[I", .fieldLink RX4 19 "MarkDesk$Terms" "third" "[I", .fieldLink RX4 22 "MarkDesk$Terms" "needed" "[I", .fieldLink RX4 25 "MarkDesk$Terms" "height" "[I", .fieldLink RX4 28 "MarkDesk$Terms" "size" "[I"] ++ wsX40)
def wsX4_has : List Cond := .code yX4_has cX4_has 2 (some .boolean) :: ([.fieldLink RX4 31 "MarkDesk$Terms" "used" "I"] ++ wsX40)
def wsX4_hasClosed : List Cond := .code yX4_hasClosed cX4_hasClosed 2 (some .boolean) :: ([.fieldLink RX4 22 "MarkDesk$Terms" "needed" "[I", .methodLink RX4 35 yX4_has, .instanceMethod yX4_has, .selects RX4 yX4_has yX4_has, .initialized RX4, .code yX4_has cX4_has 2 (some .boolean), .fieldLink RX4 31 "MarkDesk$Terms" "used" "I"] ++ wsX40)
def wsX4_wordsFit : List Cond := .code yX4_wordsFit cX4_wordsFit 6 (some .boolean) :: ([.fieldLink RX4 39 "MarkDesk$Kind" "TERM_WORDS" "[I", .methodLink RX4 35 yX4_has, .instanceMethod yX4_has, .selects RX4 yX4_has yX4_has, .initialized RX4, .code yX4_has cX4_has 2 (some .boolean), .fieldLink RX4 31 "MarkDesk$Terms" "used" "I"] ++ wsX40)
def wsX4_heightOver : List Cond := .code yX4_heightOver cX4_heightOver 6 (some .int) :: ([.fieldLink RX4 25 "MarkDesk$Terms" "height" "[I", .methodLink RX4 54 Lib.Math.max.name, .static Lib.Math.max.name, .initialized "java/lang/Math", .code Lib.Math.max.name Lib.Math.max.code 2 (some .int)] ++ wsX40)
def wsX4_sizeOver : List Cond := .code yX4_sizeOver cX4_sizeOver 6 (some .int) :: ([.fieldLink RX4 28 "MarkDesk$Terms" "size" "[I"] ++ wsX40)
def wsX4_hasRoomFor : List Cond := .code yX4_hasRoomFor cX4_hasRoomFor 6 (some .boolean) :: ([.fieldLink RX4 39 "MarkDesk$Kind" "TERM_WORDS" "[I", .fieldLink RX4 31 "MarkDesk$Terms" "used" "I", .methodLink RX4 44 yX4_heightOver, .instanceMethod yX4_heightOver, .selects RX4 yX4_heightOver yX4_heightOver, .initialized RX4, .code yX4_heightOver cX4_heightOver 6 (some .int), .fieldLink RX4 25 "MarkDesk$Terms" "height" "[I", .methodLink RX4 54 Lib.Math.max.name, .static Lib.Math.max.name, .initialized "java/lang/Math", .code Lib.Math.max.name Lib.Math.max.code 2 (some .int), .methodLink RX4 48 yX4_sizeOver, .instanceMethod yX4_sizeOver, .selects RX4 yX4_sizeOver yX4_sizeOver, .code yX4_sizeOver cX4_sizeOver 6 (some .int), .fieldLink RX4 28 "MarkDesk$Terms" "size" "[I"] ++ wsX40)
def wsX4_neededOver : List Cond := .code yX4_neededOver cX4_neededOver 6 (some .int) :: ([.fieldLink RX4 60 "MarkDesk$Kind" "BINDS" "[I", .fieldLink RX4 39 "MarkDesk$Kind" "TERM_WORDS" "[I", .fieldLink RX4 22 "MarkDesk$Terms" "needed" "[I", .methodLink RX4 54 Lib.Math.max.name, .static Lib.Math.max.name, .initialized "java/lang/Math", .code Lib.Math.max.name Lib.Math.max.code 2 (some .int)] ++ wsX40)
def wsX4_add_r1 : List Cond := [Cond.fieldLink RX4 39 "MarkDesk$Kind" "TERM_WORDS" "[I", Cond.fieldLink RX4 31 "MarkDesk$Terms" "used" "I", Cond.fieldLink RX4 9 "MarkDesk$Terms" "kind" "[I", Cond.fieldLink RX4 13 "MarkDesk$Terms" "first" "[I", Cond.fieldLink RX4 16 "MarkDesk$Terms" "second" "[I", Cond.fieldLink RX4 19 "MarkDesk$Terms" "third" "[I", Cond.fieldLink RX4 25 "MarkDesk$Terms" "height" "[I", Cond.fieldLink RX4 28 "MarkDesk$Terms" "size" "[I", Cond.fieldLink RX4 22 "MarkDesk$Terms" "needed" "[I", Cond.methodLink RX4 44 yX4_heightOver, Cond.instanceMethod yX4_heightOver, Cond.selects RX4 yX4_heightOver yX4_heightOver, Cond.initialized RX4, Cond.code yX4_heightOver cX4_heightOver 6 (some .int), Cond.methodLink RX4 54 Lib.Math.max.name, Cond.static Lib.Math.max.name, Cond.initialized "java/lang/Math", Cond.code Lib.Math.max.name Lib.Math.max.code 2 (some .int), Cond.methodLink RX4 48 yX4_sizeOver, Cond.instanceMethod yX4_sizeOver, Cond.selects RX4 yX4_sizeOver yX4_sizeOver, Cond.code yX4_sizeOver cX4_sizeOver 6 (some .int), Cond.methodLink RX4 51 yX4_neededOver, Cond.instanceMethod yX4_neededOver]
def wsX4_add_r2 : List Cond := [Cond.selects RX4 yX4_neededOver yX4_neededOver, Cond.code yX4_neededOver cX4_neededOver 6 (some .int), Cond.fieldLink RX4 60 "MarkDesk$Kind" "BINDS" "[I"]
def wsX4_add : List Cond := .code yX4_add cX4_add 7 (some .int) :: ((wsX4_add_r1 ++ wsX4_add_r2) ++ wsX40)
def wsX5_init : List Cond := .code yX5_init cX5_init 1 none :: ([.methodLink RX5 7 objectInit, .instanceMethod objectInit, .code objectInit ⟨#[0xb1]⟩ 1 none, .arrayClass .int, .fieldLink RX5 13 "MarkDesk$Types" "form" "[I", .fieldLink RX5 17 "MarkDesk$Types" "sameAs" "[I", .fieldLink RX5 20 "MarkDesk$Types" "parts" "[I", .fieldLink RX5 23 "MarkDesk$Types" "pairs" "[I", .fieldLink RX5 26 "MarkDesk$Types" "progress" "[I", .fieldLink RX5 29 "MarkDesk$Types" "partsSeen" "[I", .fieldLink RX5 32 "MarkDesk$Types" "path" "[I"] ++ wsX50)
def wsX5_addNode : List Cond := .code yX5_addNode cX5_addNode 2 (some .int) :: ([.fieldLink RX5 13 "MarkDesk$Types" "form" "[I", .fieldLink RX5 35 "MarkDesk$Types" "used" "I", .fieldLink RX5 17 "MarkDesk$Types" "sameAs" "[I", .fieldLink RX5 26 "MarkDesk$Types" "progress" "[I", .fieldLink RX5 29 "MarkDesk$Types" "partsSeen" "[I"] ++ wsX50)
def wsX5_clear : List Cond := .code yX5_clear cX5_clear 1 none :: ([.fieldLink RX5 35 "MarkDesk$Types" "used" "I", .methodLink RX5 39 yX5_addNode, .instanceMethod yX5_addNode, .selects RX5 yX5_addNode yX5_addNode, .initialized RX5, .code yX5_addNode cX5_addNode 2 (some .int), .fieldLink RX5 13 "MarkDesk$Types" "form" "[I", .fieldLink RX5 17 "MarkDesk$Types" "sameAs" "[I", .fieldLink RX5 26 "MarkDesk$Types" "progress" "[I", .fieldLink RX5 29 "MarkDesk$Types" "partsSeen" "[I"] ++ wsX50)
def wsX5_letter : List Cond := .code yX5_letter cX5_letter 1 (some .int) :: ([.methodLink RX5 39 yX5_addNode, .instanceMethod yX5_addNode, .selects RX5 yX5_addNode yX5_addNode, .initialized RX5, .code yX5_addNode cX5_addNode 2 (some .int), .fieldLink RX5 13 "MarkDesk$Types" "form" "[I", .fieldLink RX5 35 "MarkDesk$Types" "used" "I", .fieldLink RX5 17 "MarkDesk$Types" "sameAs" "[I", .fieldLink RX5 26 "MarkDesk$Types" "progress" "[I", .fieldLink RX5 29 "MarkDesk$Types" "partsSeen" "[I"] ++ wsX50)
def wsX5_function : List Cond := .code yX5_function cX5_function 6 (some .int) :: ([.fieldLink RX5 20 "MarkDesk$Types" "parts" "[I", .methodLink RX5 39 yX5_addNode, .instanceMethod yX5_addNode, .selects RX5 yX5_addNode yX5_addNode, .initialized RX5, .code yX5_addNode cX5_addNode 2 (some .int), .fieldLink RX5 13 "MarkDesk$Types" "form" "[I", .fieldLink RX5 35 "MarkDesk$Types" "used" "I", .fieldLink RX5 17 "MarkDesk$Types" "sameAs" "[I", .fieldLink RX5 26 "MarkDesk$Types" "progress" "[I", .fieldLink RX5 29 "MarkDesk$Types" "partsSeen" "[I"] ++ wsX50)
def wsX5_addPair : List Cond := .code yX5_addPair cX5_addPair 3 none :: ([.fieldLink RX5 23 "MarkDesk$Types" "pairs" "[I", .fieldLink RX5 46 "MarkDesk$Types" "pending" "I"] ++ wsX50)
def wsX5_join : List Cond := .code yX5_join cX5_join 4 (some .boolean) :: ([.fieldLink RX5 13 "MarkDesk$Types" "form" "[I", .fieldLink RX5 17 "MarkDesk$Types" "sameAs" "[I", .fieldLink RX5 20 "MarkDesk$Types" "parts" "[I", .methodLink RX5 49 yX5_addPair, .instanceMethod yX5_addPair, .selects RX5 yX5_addPair yX5_addPair, .initialized RX5, .code yX5_addPair cX5_addPair 3 none, .fieldLink RX5 23 "MarkDesk$Types" "pairs" "[I", .fieldLink RX5 46 "MarkDesk$Types" "pending" "I"] ++ wsX50)
def wsX5_makeSame : List Cond := .code yX5_makeSame cX5_makeSame 6 (some .boolean) :: ([.fieldLink RX5 46 "MarkDesk$Types" "pending" "I", .fieldLink RX5 23 "MarkDesk$Types" "pairs" "[I", .methodLink RX5 49 yX5_addPair, .instanceMethod yX5_addPair, .selects RX5 yX5_addPair yX5_addPair, .initialized RX5, .code yX5_addPair cX5_addPair 3 none, .methodLink RX5 43 yX5_chosen, .instanceMethod yX5_chosen, .selects RX5 yX5_chosen yX5_chosen, .code yX5_chosen cX5_chosen 4 (some .int), .fieldLink RX5 35 "MarkDesk$Types" "used" "I", .fieldLink RX5 17 "MarkDesk$Types" "sameAs" "[I", .methodLink RX5 53 yX5_join, .instanceMethod yX5_join, .selects RX5 yX5_join yX5_join, .code yX5_join cX5_join 4 (some .boolean), .fieldLink RX5 13 "MarkDesk$Types" "form" "[I", .fieldLink RX5 20 "MarkDesk$Types" "parts" "[I"] ++ wsX50)
def wsX5_endsEverywhere : List Cond := .code yX5_endsEverywhere cX5_endsEverywhere 6 (some .boolean) :: ([.fieldLink RX5 32 "MarkDesk$Types" "path" "[I", .fieldLink RX5 26 "MarkDesk$Types" "progress" "[I", .fieldLink RX5 29 "MarkDesk$Types" "partsSeen" "[I", .fieldLink RX5 13 "MarkDesk$Types" "form" "[I", .methodLink RX5 61 yX5_chosenPart, .instanceMethod yX5_chosenPart, .selects RX5 yX5_chosenPart yX5_chosenPart, .initialized RX5, .code yX5_chosenPart cX5_chosenPart 3 (some .int), .fieldLink RX5 20 "MarkDesk$Types" "parts" "[I", .methodLink RX5 43 yX5_chosen, .instanceMethod yX5_chosen, .selects RX5 yX5_chosen yX5_chosen, .code yX5_chosen cX5_chosen 4 (some .int), .fieldLink RX5 35 "MarkDesk$Types" "used" "I", .fieldLink RX5 17 "MarkDesk$Types" "sameAs" "[I"] ++ wsX50)
def wsX5_noneContainsItself : List Cond := .code yX5_noneContainsItself cX5_noneContainsItself 3 (some .boolean) :: ([.fieldLink RX5 35 "MarkDesk$Types" "used" "I", .fieldLink RX5 13 "MarkDesk$Types" "form" "[I", .fieldLink RX5 26 "MarkDesk$Types" "progress" "[I", .methodLink RX5 43 yX5_chosen, .instanceMethod yX5_chosen, .selects RX5 yX5_chosen yX5_chosen, .initialized RX5, .code yX5_chosen cX5_chosen 4 (some .int), .fieldLink RX5 17 "MarkDesk$Types" "sameAs" "[I", .methodLink RX5 57 yX5_endsEverywhere, .instanceMethod yX5_endsEverywhere, .selects RX5 yX5_endsEverywhere yX5_endsEverywhere, .code yX5_endsEverywhere cX5_endsEverywhere 6 (some .boolean), .fieldLink RX5 32 "MarkDesk$Types" "path" "[I", .fieldLink RX5 29 "MarkDesk$Types" "partsSeen" "[I", .methodLink RX5 61 yX5_chosenPart, .instanceMethod yX5_chosenPart, .selects RX5 yX5_chosenPart yX5_chosenPart, .code yX5_chosenPart cX5_chosenPart 3 (some .int), .fieldLink RX5 20 "MarkDesk$Types" "parts" "[I"] ++ wsX50)
def wsX6_init : List Cond := .code yX6_init cX6_init 2 none :: ([.methodLink RX6 5 objectInit, .instanceMethod objectInit, .code objectInit ⟨#[0xb1]⟩ 1 none, .classLink RX6 11 RX5, .instantiable RX5 9, .initialized RX5, .fieldLink RX6 14 "MarkDesk$Typing" "types" "LMarkDesk$Types;", .arrayClass .int, .fieldLink RX6 20 "MarkDesk$Typing" "boundType" "[I", .fieldLink RX6 24 "MarkDesk$Typing" "pieceGives" "[I", .fieldLink RX6 27 "MarkDesk$Typing" "terms" "LMarkDesk$Terms;", .instanceMethod yX5_init, .code yX5_init cX5_init 1 none, .methodLink RX5 7 objectInit, .fieldLink RX5 13 "MarkDesk$Types" "form" "[I", .fieldLink RX5 17 "MarkDesk$Types" "sameAs" "[I", .fieldLink RX5 20 "MarkDesk$Types" "parts" "[I", .fieldLink RX5 23 "MarkDesk$Types" "pairs" "[I", .fieldLink RX5 26 "MarkDesk$Types" "progress" "[I", .fieldLink RX5 29 "MarkDesk$Types" "partsSeen" "[I", .fieldLink RX5 32 "MarkDesk$Types" "path" "[I"] ++ wsX50 ++ wsX60)
def wsX6_bind : List Cond := .code yX6_bind cX6_bind 3 none :: ([.fieldLink RX6 20 "MarkDesk$Typing" "boundType" "[I", .fieldLink RX6 34 "MarkDesk$Typing" "bound" "I", .fieldLink RX6 24 "MarkDesk$Typing" "pieceGives" "[I"] ++ wsX60)
def wsX6_typeOfVariable : List Cond := .code yX6_typeOfVariable cX6_typeOfVariable 4 (some .int) :: ([.fieldLink RX6 34 "MarkDesk$Typing" "bound" "I", .fieldLink RX6 14 "MarkDesk$Typing" "types" "LMarkDesk$Types;", .fieldLink RX6 24 "MarkDesk$Typing" "pieceGives" "[I", .fieldLink RX6 20 "MarkDesk$Typing" "boundType" "[I", .methodLink RX6 38 yX5_letter, .instanceMethod yX5_letter, .selects RX5 yX5_letter yX5_letter, .initialized RX5, .code yX5_letter cX5_letter 1 (some .int), .methodLink RX5 39 yX5_addNode, .instanceMethod yX5_addNode, .selects RX5 yX5_addNode yX5_addNode, .code yX5_addNode cX5_addNode 2 (some .int), .fieldLink RX5 13 "MarkDesk$Types" "form" "[I", .fieldLink RX5 35 "MarkDesk$Types" "used" "I", .fieldLink RX5 17 "MarkDesk$Types" "sameAs" "[I", .fieldLink RX5 26 "MarkDesk$Types" "progress" "[I", .fieldLink RX5 29 "MarkDesk$Types" "partsSeen" "[I", .methodLink RX6 87 yX5_function, .instanceMethod yX5_function, .selects RX5 yX5_function yX5_function, .code yX5_function cX5_function 6 (some .int), .fieldLink RX5 20 "MarkDesk$Types" "parts" "[I"] ++ wsX60 ++ wsX50)
def wsX6_callHolds_r1 : List Cond := [Cond.fieldLink RX6 14 "MarkDesk$Typing" "types" "LMarkDesk$Types;", Cond.fieldLink RX6 27 "MarkDesk$Typing" "terms" "LMarkDesk$Terms;", Cond.fieldLink RX6 50 "MarkDesk$Terms" "first" "[I", Cond.fieldLink RX6 97 "MarkDesk$Terms" "second" "[I", Cond.methodLink RX6 38 yX5_letter, Cond.instanceMethod yX5_letter, Cond.selects RX5 yX5_letter yX5_letter, Cond.initialized RX5, Cond.code yX5_letter cX5_letter 1 (some .int), Cond.methodLink RX5 39 yX5_addNode, Cond.instanceMethod yX5_addNode, Cond.selects RX5 yX5_addNode yX5_addNode, Cond.code yX5_addNode cX5_addNode 2 (some .int), Cond.fieldLink RX5 13 "MarkDesk$Types" "form" "[I", Cond.fieldLink RX5 35 "MarkDesk$Types" "used" "I", Cond.fieldLink RX5 17 "MarkDesk$Types" "sameAs" "[I", Cond.fieldLink RX5 26 "MarkDesk$Types" "progress" "[I", Cond.fieldLink RX5 29 "MarkDesk$Types" "partsSeen" "[I", Cond.methodLink RX6 87 yX5_function, Cond.instanceMethod yX5_function, Cond.selects RX5 yX5_function yX5_function, Cond.code yX5_function cX5_function 6 (some .int), Cond.fieldLink RX5 20 "MarkDesk$Types" "parts" "[I", Cond.methodLink RX6 42 yX6_holds]
def wsX6_callHolds_r2 : List Cond := [Cond.instanceMethod yX6_holds, Cond.selects RX6 yX6_holds yX6_holds, Cond.initialized RX6, Cond.code yX6_functionHolds cX6_functionHolds 11 (some .boolean), Cond.fieldLink RX6 34 "MarkDesk$Typing" "bound" "I", Cond.fieldLink RX6 53 "MarkDesk$Terms" "kind" "[I", Cond.methodLink RX6 93 yX6_bind, Cond.instanceMethod yX6_bind, Cond.selects RX6 yX6_bind yX6_bind, Cond.code yX6_bind cX6_bind 3 none, Cond.fieldLink RX6 20 "MarkDesk$Typing" "boundType" "[I", Cond.fieldLink RX6 24 "MarkDesk$Typing" "pieceGives" "[I", Cond.methodLink RX6 56 yX5_makeSame, Cond.instanceMethod yX5_makeSame, Cond.selects RX5 yX5_makeSame yX5_makeSame, Cond.code yX5_makeSame cX5_makeSame 6 (some .boolean), Cond.fieldLink RX5 46 "MarkDesk$Types" "pending" "I", Cond.fieldLink RX5 23 "MarkDesk$Types" "pairs" "[I", Cond.methodLink RX5 49 yX5_addPair, Cond.instanceMethod yX5_addPair, Cond.selects RX5 yX5_addPair yX5_addPair, Cond.code yX5_addPair cX5_addPair 3 none, Cond.methodLink RX5 43 yX5_chosen, Cond.instanceMethod yX5_chosen]
def wsX6_callHolds_r3 : List Cond := [Cond.selects RX5 yX5_chosen yX5_chosen, Cond.code yX5_chosen cX5_chosen 4 (some .int), Cond.methodLink RX5 53 yX5_join, Cond.instanceMethod yX5_join, Cond.selects RX5 yX5_join yX5_join, Cond.code yX5_join cX5_join 4 (some .boolean), Cond.code yX6_holds cX6_holds 7 (some .boolean), Cond.methodLink RX6 60 yX6_typeOfVariable, Cond.instanceMethod yX6_typeOfVariable, Cond.selects RX6 yX6_typeOfVariable yX6_typeOfVariable, Cond.code yX6_typeOfVariable cX6_typeOfVariable 4 (some .int), Cond.methodLink RX6 64 yX6_functionHolds, Cond.instanceMethod yX6_functionHolds, Cond.selects RX6 yX6_functionHolds yX6_functionHolds, Cond.methodLink RX6 68 yX6_callHolds, Cond.instanceMethod yX6_callHolds, Cond.selects RX6 yX6_callHolds yX6_callHolds, Cond.methodLink RX6 71 yX6_numbersHold, Cond.instanceMethod yX6_numbersHold, Cond.selects RX6 yX6_numbersHold yX6_numbersHold, Cond.methodLink RX6 75 yX6_ifHolds, Cond.instanceMethod yX6_ifHolds, Cond.selects RX6 yX6_ifHolds yX6_ifHolds, Cond.methodLink RX6 78 yX6_letHolds]
def wsX6_callHolds_r4 : List Cond := [Cond.instanceMethod yX6_letHolds, Cond.selects RX6 yX6_letHolds yX6_letHolds, Cond.methodLink RX6 81 yX6_wholeHolds, Cond.instanceMethod yX6_wholeHolds, Cond.selects RX6 yX6_wholeHolds yX6_wholeHolds, Cond.methodLink RX6 84 yX6_takeHolds, Cond.instanceMethod yX6_takeHolds, Cond.selects RX6 yX6_takeHolds yX6_takeHolds, Cond.code yX6_ifHolds cX6_ifHolds 7 (some .boolean), Cond.fieldLink RX6 100 "MarkDesk$Terms" "third" "[I", Cond.code yX6_letHolds cX6_letHolds 9 (some .boolean), Cond.code yX6_numbersHold cX6_numbersHold 6 (some .boolean), Cond.code yX6_takeHolds cX6_takeHolds 7 (some .boolean), Cond.code yX6_wholeHolds cX6_wholeHolds 5 (some .boolean)]
def wsX6_callHolds : List Cond := .code yX6_callHolds cX6_callHolds 10 (some .boolean) :: ((wsX6_callHolds_r1 ++ (wsX6_callHolds_r2 ++ (wsX6_callHolds_r3 ++ wsX6_callHolds_r4))) ++ wsX60 ++ wsX40 ++ wsX50)
def wsX6_functionHolds_r1 : List Cond := [Cond.fieldLink RX6 14 "MarkDesk$Typing" "types" "LMarkDesk$Types;", Cond.fieldLink RX6 34 "MarkDesk$Typing" "bound" "I", Cond.fieldLink RX6 27 "MarkDesk$Typing" "terms" "LMarkDesk$Terms;", Cond.fieldLink RX6 53 "MarkDesk$Terms" "kind" "[I", Cond.fieldLink RX6 50 "MarkDesk$Terms" "first" "[I", Cond.methodLink RX6 38 yX5_letter, Cond.instanceMethod yX5_letter, Cond.selects RX5 yX5_letter yX5_letter, Cond.initialized RX5, Cond.code yX5_letter cX5_letter 1 (some .int), Cond.methodLink RX5 39 yX5_addNode, Cond.instanceMethod yX5_addNode, Cond.selects RX5 yX5_addNode yX5_addNode, Cond.code yX5_addNode cX5_addNode 2 (some .int), Cond.fieldLink RX5 13 "MarkDesk$Types" "form" "[I", Cond.fieldLink RX5 35 "MarkDesk$Types" "used" "I", Cond.fieldLink RX5 17 "MarkDesk$Types" "sameAs" "[I", Cond.fieldLink RX5 26 "MarkDesk$Types" "progress" "[I", Cond.fieldLink RX5 29 "MarkDesk$Types" "partsSeen" "[I", Cond.methodLink RX6 87 yX5_function, Cond.instanceMethod yX5_function, Cond.selects RX5 yX5_function yX5_function, Cond.code yX5_function cX5_function 6 (some .int), Cond.fieldLink RX5 20 "MarkDesk$Types" "parts" "[I"]
def wsX6_functionHolds_r2 : List Cond := [Cond.methodLink RX6 93 yX6_bind, Cond.instanceMethod yX6_bind, Cond.selects RX6 yX6_bind yX6_bind, Cond.initialized RX6, Cond.code yX6_bind cX6_bind 3 none, Cond.fieldLink RX6 20 "MarkDesk$Typing" "boundType" "[I", Cond.fieldLink RX6 24 "MarkDesk$Typing" "pieceGives" "[I", Cond.methodLink RX6 42 yX6_holds, Cond.instanceMethod yX6_holds, Cond.selects RX6 yX6_holds yX6_holds, Cond.methodLink RX6 56 yX5_makeSame, Cond.instanceMethod yX5_makeSame, Cond.selects RX5 yX5_makeSame yX5_makeSame, Cond.code yX5_makeSame cX5_makeSame 6 (some .boolean), Cond.fieldLink RX5 46 "MarkDesk$Types" "pending" "I", Cond.fieldLink RX5 23 "MarkDesk$Types" "pairs" "[I", Cond.methodLink RX5 49 yX5_addPair, Cond.instanceMethod yX5_addPair, Cond.selects RX5 yX5_addPair yX5_addPair, Cond.code yX5_addPair cX5_addPair 3 none, Cond.methodLink RX5 43 yX5_chosen, Cond.instanceMethod yX5_chosen, Cond.selects RX5 yX5_chosen yX5_chosen, Cond.code yX5_chosen cX5_chosen 4 (some .int)]
def wsX6_functionHolds_r3 : List Cond := [Cond.methodLink RX5 53 yX5_join, Cond.instanceMethod yX5_join, Cond.selects RX5 yX5_join yX5_join, Cond.code yX5_join cX5_join 4 (some .boolean), Cond.code yX6_callHolds cX6_callHolds 10 (some .boolean), Cond.fieldLink RX6 97 "MarkDesk$Terms" "second" "[I", Cond.code yX6_holds cX6_holds 7 (some .boolean), Cond.methodLink RX6 60 yX6_typeOfVariable, Cond.instanceMethod yX6_typeOfVariable, Cond.selects RX6 yX6_typeOfVariable yX6_typeOfVariable, Cond.code yX6_typeOfVariable cX6_typeOfVariable 4 (some .int), Cond.methodLink RX6 64 yX6_functionHolds, Cond.instanceMethod yX6_functionHolds, Cond.selects RX6 yX6_functionHolds yX6_functionHolds, Cond.methodLink RX6 68 yX6_callHolds, Cond.instanceMethod yX6_callHolds, Cond.selects RX6 yX6_callHolds yX6_callHolds, Cond.methodLink RX6 71 yX6_numbersHold, Cond.instanceMethod yX6_numbersHold, Cond.selects RX6 yX6_numbersHold yX6_numbersHold, Cond.methodLink RX6 75 yX6_ifHolds, Cond.instanceMethod yX6_ifHolds, Cond.selects RX6 yX6_ifHolds yX6_ifHolds, Cond.methodLink RX6 78 yX6_letHolds]
def wsX6_functionHolds_r4 : List Cond := [Cond.instanceMethod yX6_letHolds, Cond.selects RX6 yX6_letHolds yX6_letHolds, Cond.methodLink RX6 81 yX6_wholeHolds, Cond.instanceMethod yX6_wholeHolds, Cond.selects RX6 yX6_wholeHolds yX6_wholeHolds, Cond.methodLink RX6 84 yX6_takeHolds, Cond.instanceMethod yX6_takeHolds, Cond.selects RX6 yX6_takeHolds yX6_takeHolds, Cond.code yX6_ifHolds cX6_ifHolds 7 (some .boolean), Cond.fieldLink RX6 100 "MarkDesk$Terms" "third" "[I", Cond.code yX6_letHolds cX6_letHolds 9 (some .boolean), Cond.code yX6_numbersHold cX6_numbersHold 6 (some .boolean), Cond.code yX6_takeHolds cX6_takeHolds 7 (some .boolean), Cond.code yX6_wholeHolds cX6_wholeHolds 5 (some .boolean)]
def wsX6_functionHolds : List Cond := .code yX6_functionHolds cX6_functionHolds 11 (some .boolean) :: ((wsX6_functionHolds_r1 ++ (wsX6_functionHolds_r2 ++ (wsX6_functionHolds_r3 ++ wsX6_functionHolds_r4))) ++ wsX60 ++ wsX40 ++ wsX50)
def wsX6_holds_r1 : List Cond := [Cond.fieldLink RX6 27 "MarkDesk$Typing" "terms" "LMarkDesk$Terms;", Cond.fieldLink RX6 50 "MarkDesk$Terms" "first" "[I", Cond.fieldLink RX6 53 "MarkDesk$Terms" "kind" "[I", Cond.fieldLink RX6 14 "MarkDesk$Typing" "types" "LMarkDesk$Types;", Cond.methodLink RX6 56 yX5_makeSame, Cond.instanceMethod yX5_makeSame, Cond.selects RX5 yX5_makeSame yX5_makeSame, Cond.initialized RX5, Cond.code yX5_makeSame cX5_makeSame 6 (some .boolean), Cond.fieldLink RX5 46 "MarkDesk$Types" "pending" "I", Cond.fieldLink RX5 23 "MarkDesk$Types" "pairs" "[I", Cond.methodLink RX5 49 yX5_addPair, Cond.instanceMethod yX5_addPair, Cond.selects RX5 yX5_addPair yX5_addPair, Cond.code yX5_addPair cX5_addPair 3 none, Cond.methodLink RX5 43 yX5_chosen, Cond.instanceMethod yX5_chosen, Cond.selects RX5 yX5_chosen yX5_chosen, Cond.code yX5_chosen cX5_chosen 4 (some .int), Cond.fieldLink RX5 35 "MarkDesk$Types" "used" "I", Cond.fieldLink RX5 17 "MarkDesk$Types" "sameAs" "[I", Cond.methodLink RX5 53 yX5_join, Cond.instanceMethod yX5_join, Cond.selects RX5 yX5_join yX5_join]
def wsX6_holds_r2 : List Cond := [Cond.code yX5_join cX5_join 4 (some .boolean), Cond.fieldLink RX5 13 "MarkDesk$Types" "form" "[I", Cond.fieldLink RX5 20 "MarkDesk$Types" "parts" "[I", Cond.methodLink RX6 60 yX6_typeOfVariable, Cond.instanceMethod yX6_typeOfVariable, Cond.selects RX6 yX6_typeOfVariable yX6_typeOfVariable, Cond.initialized RX6, Cond.code yX6_typeOfVariable cX6_typeOfVariable 4 (some .int), Cond.fieldLink RX6 34 "MarkDesk$Typing" "bound" "I", Cond.fieldLink RX6 24 "MarkDesk$Typing" "pieceGives" "[I", Cond.fieldLink RX6 20 "MarkDesk$Typing" "boundType" "[I", Cond.methodLink RX6 38 yX5_letter, Cond.instanceMethod yX5_letter, Cond.selects RX5 yX5_letter yX5_letter, Cond.code yX5_letter cX5_letter 1 (some .int), Cond.methodLink RX5 39 yX5_addNode, Cond.instanceMethod yX5_addNode, Cond.selects RX5 yX5_addNode yX5_addNode, Cond.code yX5_addNode cX5_addNode 2 (some .int), Cond.fieldLink RX5 26 "MarkDesk$Types" "progress" "[I", Cond.fieldLink RX5 29 "MarkDesk$Types" "partsSeen" "[I", Cond.methodLink RX6 87 yX5_function, Cond.instanceMethod yX5_function, Cond.selects RX5 yX5_function yX5_function]
def wsX6_holds_r3 : List Cond := [Cond.code yX5_function cX5_function 6 (some .int), Cond.methodLink RX6 64 yX6_functionHolds, Cond.instanceMethod yX6_functionHolds, Cond.selects RX6 yX6_functionHolds yX6_functionHolds, Cond.methodLink RX6 68 yX6_callHolds, Cond.instanceMethod yX6_callHolds, Cond.selects RX6 yX6_callHolds yX6_callHolds, Cond.methodLink RX6 71 yX6_numbersHold, Cond.instanceMethod yX6_numbersHold, Cond.selects RX6 yX6_numbersHold yX6_numbersHold, Cond.methodLink RX6 75 yX6_ifHolds, Cond.instanceMethod yX6_ifHolds, Cond.selects RX6 yX6_ifHolds yX6_ifHolds, Cond.methodLink RX6 78 yX6_letHolds, Cond.instanceMethod yX6_letHolds, Cond.selects RX6 yX6_letHolds yX6_letHolds, Cond.methodLink RX6 81 yX6_wholeHolds, Cond.instanceMethod yX6_wholeHolds, Cond.selects RX6 yX6_wholeHolds yX6_wholeHolds, Cond.methodLink RX6 84 yX6_takeHolds, Cond.instanceMethod yX6_takeHolds, Cond.selects RX6 yX6_takeHolds yX6_takeHolds, Cond.code yX6_callHolds cX6_callHolds 10 (some .boolean), Cond.fieldLink RX6 97 "MarkDesk$Terms" "second" "[I"]
def wsX6_holds_r4 : List Cond := [Cond.methodLink RX6 42 yX6_holds, Cond.instanceMethod yX6_holds, Cond.selects RX6 yX6_holds yX6_holds, Cond.code yX6_functionHolds cX6_functionHolds 11 (some .boolean), Cond.methodLink RX6 93 yX6_bind, Cond.instanceMethod yX6_bind, Cond.selects RX6 yX6_bind yX6_bind, Cond.code yX6_bind cX6_bind 3 none, Cond.code yX6_ifHolds cX6_ifHolds 7 (some .boolean), Cond.fieldLink RX6 100 "MarkDesk$Terms" "third" "[I", Cond.code yX6_letHolds cX6_letHolds 9 (some .boolean), Cond.code yX6_numbersHold cX6_numbersHold 6 (some .boolean), Cond.code yX6_takeHolds cX6_takeHolds 7 (some .boolean), Cond.code yX6_wholeHolds cX6_wholeHolds 5 (some .boolean)]
def wsX6_holds : List Cond := .code yX6_holds cX6_holds 7 (some .boolean) :: ((wsX6_holds_r1 ++ (wsX6_holds_r2 ++ (wsX6_holds_r3 ++ wsX6_holds_r4))) ++ wsX60 ++ wsX40 ++ wsX50)
def wsX6_ifHolds_r1 : List Cond := [Cond.fieldLink RX6 14 "MarkDesk$Typing" "types" "LMarkDesk$Types;", Cond.fieldLink RX6 27 "MarkDesk$Typing" "terms" "LMarkDesk$Terms;", Cond.fieldLink RX6 50 "MarkDesk$Terms" "first" "[I", Cond.fieldLink RX6 97 "MarkDesk$Terms" "second" "[I", Cond.fieldLink RX6 100 "MarkDesk$Terms" "third" "[I", Cond.methodLink RX6 38 yX5_letter, Cond.instanceMethod yX5_letter, Cond.selects RX5 yX5_letter yX5_letter, Cond.initialized RX5, Cond.code yX5_letter cX5_letter 1 (some .int), Cond.methodLink RX5 39 yX5_addNode, Cond.instanceMethod yX5_addNode, Cond.selects RX5 yX5_addNode yX5_addNode, Cond.code yX5_addNode cX5_addNode 2 (some .int), Cond.fieldLink RX5 13 "MarkDesk$Types" "form" "[I", Cond.fieldLink RX5 35 "MarkDesk$Types" "used" "I", Cond.fieldLink RX5 17 "MarkDesk$Types" "sameAs" "[I", Cond.fieldLink RX5 26 "MarkDesk$Types" "progress" "[I", Cond.fieldLink RX5 29 "MarkDesk$Types" "partsSeen" "[I", Cond.methodLink RX6 42 yX6_holds, Cond.instanceMethod yX6_holds, Cond.selects RX6 yX6_holds yX6_holds, Cond.initialized RX6, Cond.code yX6_callHolds cX6_callHolds 10 (some .boolean)]
def wsX6_ifHolds_r2 : List Cond := [Cond.methodLink RX6 87 yX5_function, Cond.instanceMethod yX5_function, Cond.selects RX5 yX5_function yX5_function, Cond.code yX5_function cX5_function 6 (some .int), Cond.fieldLink RX5 20 "MarkDesk$Types" "parts" "[I", Cond.code yX6_functionHolds cX6_functionHolds 11 (some .boolean), Cond.fieldLink RX6 34 "MarkDesk$Typing" "bound" "I", Cond.fieldLink RX6 53 "MarkDesk$Terms" "kind" "[I", Cond.methodLink RX6 93 yX6_bind, Cond.instanceMethod yX6_bind, Cond.selects RX6 yX6_bind yX6_bind, Cond.code yX6_bind cX6_bind 3 none, Cond.fieldLink RX6 20 "MarkDesk$Typing" "boundType" "[I", Cond.fieldLink RX6 24 "MarkDesk$Typing" "pieceGives" "[I", Cond.methodLink RX6 56 yX5_makeSame, Cond.instanceMethod yX5_makeSame, Cond.selects RX5 yX5_makeSame yX5_makeSame, Cond.code yX5_makeSame cX5_makeSame 6 (some .boolean), Cond.fieldLink RX5 46 "MarkDesk$Types" "pending" "I", Cond.fieldLink RX5 23 "MarkDesk$Types" "pairs" "[I", Cond.methodLink RX5 49 yX5_addPair, Cond.instanceMethod yX5_addPair, Cond.selects RX5 yX5_addPair yX5_addPair, Cond.code yX5_addPair cX5_addPair 3 none]
def wsX6_ifHolds_r3 : List Cond := [Cond.methodLink RX5 43 yX5_chosen, Cond.instanceMethod yX5_chosen, Cond.selects RX5 yX5_chosen yX5_chosen, Cond.code yX5_chosen cX5_chosen 4 (some .int), Cond.methodLink RX5 53 yX5_join, Cond.instanceMethod yX5_join, Cond.selects RX5 yX5_join yX5_join, Cond.code yX5_join cX5_join 4 (some .boolean), Cond.code yX6_holds cX6_holds 7 (some .boolean), Cond.methodLink RX6 60 yX6_typeOfVariable, Cond.instanceMethod yX6_typeOfVariable, Cond.selects RX6 yX6_typeOfVariable yX6_typeOfVariable, Cond.code yX6_typeOfVariable cX6_typeOfVariable 4 (some .int), Cond.methodLink RX6 64 yX6_functionHolds, Cond.instanceMethod yX6_functionHolds, Cond.selects RX6 yX6_functionHolds yX6_functionHolds, Cond.methodLink RX6 68 yX6_callHolds, Cond.instanceMethod yX6_callHolds, Cond.selects RX6 yX6_callHolds yX6_callHolds, Cond.methodLink RX6 71 yX6_numbersHold, Cond.instanceMethod yX6_numbersHold, Cond.selects RX6 yX6_numbersHold yX6_numbersHold, Cond.methodLink RX6 75 yX6_ifHolds, Cond.instanceMethod yX6_ifHolds]
def wsX6_ifHolds_r4 : List Cond := [Cond.selects RX6 yX6_ifHolds yX6_ifHolds, Cond.methodLink RX6 78 yX6_letHolds, Cond.instanceMethod yX6_letHolds, Cond.selects RX6 yX6_letHolds yX6_letHolds, Cond.methodLink RX6 81 yX6_wholeHolds, Cond.instanceMethod yX6_wholeHolds, Cond.selects RX6 yX6_wholeHolds yX6_wholeHolds, Cond.methodLink RX6 84 yX6_takeHolds, Cond.instanceMethod yX6_takeHolds, Cond.selects RX6 yX6_takeHolds yX6_takeHolds, Cond.code yX6_letHolds cX6_letHolds 9 (some .boolean), Cond.code yX6_numbersHold cX6_numbersHold 6 (some .boolean), Cond.code yX6_takeHolds cX6_takeHolds 7 (some .boolean), Cond.code yX6_wholeHolds cX6_wholeHolds 5 (some .boolean)]
def wsX6_ifHolds : List Cond := .code yX6_ifHolds cX6_ifHolds 7 (some .boolean) :: ((wsX6_ifHolds_r1 ++ (wsX6_ifHolds_r2 ++ (wsX6_ifHolds_r3 ++ wsX6_ifHolds_r4))) ++ wsX60 ++ wsX40 ++ wsX50)
def wsX6_letHolds_r1 : List Cond := [Cond.fieldLink RX6 14 "MarkDesk$Typing" "types" "LMarkDesk$Types;", Cond.fieldLink RX6 27 "MarkDesk$Typing" "terms" "LMarkDesk$Terms;", Cond.fieldLink RX6 50 "MarkDesk$Terms" "first" "[I", Cond.fieldLink RX6 97 "MarkDesk$Terms" "second" "[I", Cond.fieldLink RX6 34 "MarkDesk$Typing" "bound" "I", Cond.methodLink RX6 38 yX5_letter, Cond.instanceMethod yX5_letter, Cond.selects RX5 yX5_letter yX5_letter, Cond.initialized RX5, Cond.code yX5_letter cX5_letter 1 (some .int), Cond.methodLink RX5 39 yX5_addNode, Cond.instanceMethod yX5_addNode, Cond.selects RX5 yX5_addNode yX5_addNode, Cond.code yX5_addNode cX5_addNode 2 (some .int), Cond.fieldLink RX5 13 "MarkDesk$Types" "form" "[I", Cond.fieldLink RX5 35 "MarkDesk$Types" "used" "I", Cond.fieldLink RX5 17 "MarkDesk$Types" "sameAs" "[I", Cond.fieldLink RX5 26 "MarkDesk$Types" "progress" "[I", Cond.fieldLink RX5 29 "MarkDesk$Types" "partsSeen" "[I", Cond.methodLink RX6 42 yX6_holds, Cond.instanceMethod yX6_holds, Cond.selects RX6 yX6_holds yX6_holds, Cond.initialized RX6, Cond.methodLink RX6 93 yX6_bind]
def wsX6_letHolds_r2 : List Cond := [Cond.instanceMethod yX6_bind, Cond.selects RX6 yX6_bind yX6_bind, Cond.code yX6_bind cX6_bind 3 none, Cond.fieldLink RX6 20 "MarkDesk$Typing" "boundType" "[I", Cond.fieldLink RX6 24 "MarkDesk$Typing" "pieceGives" "[I", Cond.code yX6_callHolds cX6_callHolds 10 (some .boolean), Cond.methodLink RX6 87 yX5_function, Cond.instanceMethod yX5_function, Cond.selects RX5 yX5_function yX5_function, Cond.code yX5_function cX5_function 6 (some .int), Cond.fieldLink RX5 20 "MarkDesk$Types" "parts" "[I", Cond.code yX6_functionHolds cX6_functionHolds 11 (some .boolean), Cond.fieldLink RX6 53 "MarkDesk$Terms" "kind" "[I", Cond.methodLink RX6 56 yX5_makeSame, Cond.instanceMethod yX5_makeSame, Cond.selects RX5 yX5_makeSame yX5_makeSame, Cond.code yX5_makeSame cX5_makeSame 6 (some .boolean), Cond.fieldLink RX5 46 "MarkDesk$Types" "pending" "I", Cond.fieldLink RX5 23 "MarkDesk$Types" "pairs" "[I", Cond.methodLink RX5 49 yX5_addPair, Cond.instanceMethod yX5_addPair, Cond.selects RX5 yX5_addPair yX5_addPair, Cond.code yX5_addPair cX5_addPair 3 none, Cond.methodLink RX5 43 yX5_chosen]
def wsX6_letHolds_r3 : List Cond := [Cond.instanceMethod yX5_chosen, Cond.selects RX5 yX5_chosen yX5_chosen, Cond.code yX5_chosen cX5_chosen 4 (some .int), Cond.methodLink RX5 53 yX5_join, Cond.instanceMethod yX5_join, Cond.selects RX5 yX5_join yX5_join, Cond.code yX5_join cX5_join 4 (some .boolean), Cond.code yX6_holds cX6_holds 7 (some .boolean), Cond.methodLink RX6 60 yX6_typeOfVariable, Cond.instanceMethod yX6_typeOfVariable, Cond.selects RX6 yX6_typeOfVariable yX6_typeOfVariable, Cond.code yX6_typeOfVariable cX6_typeOfVariable 4 (some .int), Cond.methodLink RX6 64 yX6_functionHolds, Cond.instanceMethod yX6_functionHolds, Cond.selects RX6 yX6_functionHolds yX6_functionHolds, Cond.methodLink RX6 68 yX6_callHolds, Cond.instanceMethod yX6_callHolds, Cond.selects RX6 yX6_callHolds yX6_callHolds, Cond.methodLink RX6 71 yX6_numbersHold, Cond.instanceMethod yX6_numbersHold, Cond.selects RX6 yX6_numbersHold yX6_numbersHold, Cond.methodLink RX6 75 yX6_ifHolds, Cond.instanceMethod yX6_ifHolds, Cond.selects RX6 yX6_ifHolds yX6_ifHolds]
def wsX6_letHolds_r4 : List Cond := [Cond.methodLink RX6 78 yX6_letHolds, Cond.instanceMethod yX6_letHolds, Cond.selects RX6 yX6_letHolds yX6_letHolds, Cond.methodLink RX6 81 yX6_wholeHolds, Cond.instanceMethod yX6_wholeHolds, Cond.selects RX6 yX6_wholeHolds yX6_wholeHolds, Cond.methodLink RX6 84 yX6_takeHolds, Cond.instanceMethod yX6_takeHolds, Cond.selects RX6 yX6_takeHolds yX6_takeHolds, Cond.code yX6_ifHolds cX6_ifHolds 7 (some .boolean), Cond.fieldLink RX6 100 "MarkDesk$Terms" "third" "[I", Cond.code yX6_numbersHold cX6_numbersHold 6 (some .boolean), Cond.code yX6_takeHolds cX6_takeHolds 7 (some .boolean), Cond.code yX6_wholeHolds cX6_wholeHolds 5 (some .boolean)]
def wsX6_letHolds : List Cond := .code yX6_letHolds cX6_letHolds 9 (some .boolean) :: ((wsX6_letHolds_r1 ++ (wsX6_letHolds_r2 ++ (wsX6_letHolds_r3 ++ wsX6_letHolds_r4))) ++ wsX60 ++ wsX40 ++ wsX50)
def wsX6_numbersHold_r1 : List Cond := [Cond.fieldLink RX6 14 "MarkDesk$Typing" "types" "LMarkDesk$Types;", Cond.fieldLink RX6 27 "MarkDesk$Typing" "terms" "LMarkDesk$Terms;", Cond.fieldLink RX6 50 "MarkDesk$Terms" "first" "[I", Cond.fieldLink RX6 97 "MarkDesk$Terms" "second" "[I", Cond.methodLink RX6 38 yX5_letter, Cond.instanceMethod yX5_letter, Cond.selects RX5 yX5_letter yX5_letter, Cond.initialized RX5, Cond.code yX5_letter cX5_letter 1 (some .int), Cond.methodLink RX5 39 yX5_addNode, Cond.instanceMethod yX5_addNode, Cond.selects RX5 yX5_addNode yX5_addNode, Cond.code yX5_addNode cX5_addNode 2 (some .int), Cond.fieldLink RX5 13 "MarkDesk$Types" "form" "[I", Cond.fieldLink RX5 35 "MarkDesk$Types" "used" "I", Cond.fieldLink RX5 17 "MarkDesk$Types" "sameAs" "[I", Cond.fieldLink RX5 26 "MarkDesk$Types" "progress" "[I", Cond.fieldLink RX5 29 "MarkDesk$Types" "partsSeen" "[I", Cond.methodLink RX6 42 yX6_holds, Cond.instanceMethod yX6_holds, Cond.selects RX6 yX6_holds yX6_holds, Cond.initialized RX6, Cond.code yX6_callHolds cX6_callHolds 10 (some .boolean), Cond.methodLink RX6 87 yX5_function]
def wsX6_numbersHold_r2 : List Cond := [Cond.instanceMethod yX5_function, Cond.selects RX5 yX5_function yX5_function, Cond.code yX5_function cX5_function 6 (some .int), Cond.fieldLink RX5 20 "MarkDesk$Types" "parts" "[I", Cond.code yX6_functionHolds cX6_functionHolds 11 (some .boolean), Cond.fieldLink RX6 34 "MarkDesk$Typing" "bound" "I", Cond.fieldLink RX6 53 "MarkDesk$Terms" "kind" "[I", Cond.methodLink RX6 93 yX6_bind, Cond.instanceMethod yX6_bind, Cond.selects RX6 yX6_bind yX6_bind, Cond.code yX6_bind cX6_bind 3 none, Cond.fieldLink RX6 20 "MarkDesk$Typing" "boundType" "[I", Cond.fieldLink RX6 24 "MarkDesk$Typing" "pieceGives" "[I", Cond.methodLink RX6 56 yX5_makeSame, Cond.instanceMethod yX5_makeSame, Cond.selects RX5 yX5_makeSame yX5_makeSame, Cond.code yX5_makeSame cX5_makeSame 6 (some .boolean), Cond.fieldLink RX5 46 "MarkDesk$Types" "pending" "I", Cond.fieldLink RX5 23 "MarkDesk$Types" "pairs" "[I", Cond.methodLink RX5 49 yX5_addPair, Cond.instanceMethod yX5_addPair, Cond.selects RX5 yX5_addPair yX5_addPair, Cond.code yX5_addPair cX5_addPair 3 none, Cond.methodLink RX5 43 yX5_chosen]
def wsX6_numbersHold_r3 : List Cond := [Cond.instanceMethod yX5_chosen, Cond.selects RX5 yX5_chosen yX5_chosen, Cond.code yX5_chosen cX5_chosen 4 (some .int), Cond.methodLink RX5 53 yX5_join, Cond.instanceMethod yX5_join, Cond.selects RX5 yX5_join yX5_join, Cond.code yX5_join cX5_join 4 (some .boolean), Cond.code yX6_holds cX6_holds 7 (some .boolean), Cond.methodLink RX6 60 yX6_typeOfVariable, Cond.instanceMethod yX6_typeOfVariable, Cond.selects RX6 yX6_typeOfVariable yX6_typeOfVariable, Cond.code yX6_typeOfVariable cX6_typeOfVariable 4 (some .int), Cond.methodLink RX6 64 yX6_functionHolds, Cond.instanceMethod yX6_functionHolds, Cond.selects RX6 yX6_functionHolds yX6_functionHolds, Cond.methodLink RX6 68 yX6_callHolds, Cond.instanceMethod yX6_callHolds, Cond.selects RX6 yX6_callHolds yX6_callHolds, Cond.methodLink RX6 71 yX6_numbersHold, Cond.instanceMethod yX6_numbersHold, Cond.selects RX6 yX6_numbersHold yX6_numbersHold, Cond.methodLink RX6 75 yX6_ifHolds, Cond.instanceMethod yX6_ifHolds, Cond.selects RX6 yX6_ifHolds yX6_ifHolds]
def wsX6_numbersHold_r4 : List Cond := [Cond.methodLink RX6 78 yX6_letHolds, Cond.instanceMethod yX6_letHolds, Cond.selects RX6 yX6_letHolds yX6_letHolds, Cond.methodLink RX6 81 yX6_wholeHolds, Cond.instanceMethod yX6_wholeHolds, Cond.selects RX6 yX6_wholeHolds yX6_wholeHolds, Cond.methodLink RX6 84 yX6_takeHolds, Cond.instanceMethod yX6_takeHolds, Cond.selects RX6 yX6_takeHolds yX6_takeHolds, Cond.code yX6_ifHolds cX6_ifHolds 7 (some .boolean), Cond.fieldLink RX6 100 "MarkDesk$Terms" "third" "[I", Cond.code yX6_letHolds cX6_letHolds 9 (some .boolean), Cond.code yX6_takeHolds cX6_takeHolds 7 (some .boolean), Cond.code yX6_wholeHolds cX6_wholeHolds 5 (some .boolean)]
def wsX6_numbersHold : List Cond := .code yX6_numbersHold cX6_numbersHold 6 (some .boolean) :: ((wsX6_numbersHold_r1 ++ (wsX6_numbersHold_r2 ++ (wsX6_numbersHold_r3 ++ wsX6_numbersHold_r4))) ++ wsX60 ++ wsX40 ++ wsX50)
def wsX6_takeHolds_r1 : List Cond := [Cond.fieldLink RX6 34 "MarkDesk$Typing" "bound" "I", Cond.methodLink RX6 93 yX6_bind, Cond.instanceMethod yX6_bind, Cond.selects RX6 yX6_bind yX6_bind, Cond.initialized RX6, Cond.code yX6_bind cX6_bind 3 none, Cond.fieldLink RX6 20 "MarkDesk$Typing" "boundType" "[I", Cond.fieldLink RX6 24 "MarkDesk$Typing" "pieceGives" "[I", Cond.methodLink RX6 81 yX6_wholeHolds, Cond.instanceMethod yX6_wholeHolds, Cond.selects RX6 yX6_wholeHolds yX6_wholeHolds, Cond.code yX6_callHolds cX6_callHolds 10 (some .boolean), Cond.fieldLink RX6 14 "MarkDesk$Typing" "types" "LMarkDesk$Types;", Cond.fieldLink RX6 27 "MarkDesk$Typing" "terms" "LMarkDesk$Terms;", Cond.fieldLink RX6 50 "MarkDesk$Terms" "first" "[I", Cond.fieldLink RX6 97 "MarkDesk$Terms" "second" "[I", Cond.methodLink RX6 38 yX5_letter, Cond.instanceMethod yX5_letter, Cond.selects RX5 yX5_letter yX5_letter, Cond.initialized RX5, Cond.code yX5_letter cX5_letter 1 (some .int), Cond.methodLink RX5 39 yX5_addNode, Cond.instanceMethod yX5_addNode, Cond.selects RX5 yX5_addNode yX5_addNode]
def wsX6_takeHolds_r2 : List Cond := [Cond.code yX5_addNode cX5_addNode 2 (some .int), Cond.fieldLink RX5 13 "MarkDesk$Types" "form" "[I", Cond.fieldLink RX5 35 "MarkDesk$Types" "used" "I", Cond.fieldLink RX5 17 "MarkDesk$Types" "sameAs" "[I", Cond.fieldLink RX5 26 "MarkDesk$Types" "progress" "[I", Cond.fieldLink RX5 29 "MarkDesk$Types" "partsSeen" "[I", Cond.methodLink RX6 87 yX5_function, Cond.instanceMethod yX5_function, Cond.selects RX5 yX5_function yX5_function, Cond.code yX5_function cX5_function 6 (some .int), Cond.fieldLink RX5 20 "MarkDesk$Types" "parts" "[I", Cond.methodLink RX6 42 yX6_holds, Cond.instanceMethod yX6_holds, Cond.selects RX6 yX6_holds yX6_holds, Cond.code yX6_functionHolds cX6_functionHolds 11 (some .boolean), Cond.fieldLink RX6 53 "MarkDesk$Terms" "kind" "[I", Cond.methodLink RX6 56 yX5_makeSame, Cond.instanceMethod yX5_makeSame, Cond.selects RX5 yX5_makeSame yX5_makeSame, Cond.code yX5_makeSame cX5_makeSame 6 (some .boolean), Cond.fieldLink RX5 46 "MarkDesk$Types" "pending" "I", Cond.fieldLink RX5 23 "MarkDesk$Types" "pairs" "[I", Cond.methodLink RX5 49 yX5_addPair, Cond.instanceMethod yX5_addPair]
def wsX6_takeHolds_r3 : List Cond := [Cond.selects RX5 yX5_addPair yX5_addPair, Cond.code yX5_addPair cX5_addPair 3 none, Cond.methodLink RX5 43 yX5_chosen, Cond.instanceMethod yX5_chosen, Cond.selects RX5 yX5_chosen yX5_chosen, Cond.code yX5_chosen cX5_chosen 4 (some .int), Cond.methodLink RX5 53 yX5_join, Cond.instanceMethod yX5_join, Cond.selects RX5 yX5_join yX5_join, Cond.code yX5_join cX5_join 4 (some .boolean), Cond.code yX6_holds cX6_holds 7 (some .boolean), Cond.methodLink RX6 60 yX6_typeOfVariable, Cond.instanceMethod yX6_typeOfVariable, Cond.selects RX6 yX6_typeOfVariable yX6_typeOfVariable, Cond.code yX6_typeOfVariable cX6_typeOfVariable 4 (some .int), Cond.methodLink RX6 64 yX6_functionHolds, Cond.instanceMethod yX6_functionHolds, Cond.selects RX6 yX6_functionHolds yX6_functionHolds, Cond.methodLink RX6 68 yX6_callHolds, Cond.instanceMethod yX6_callHolds, Cond.selects RX6 yX6_callHolds yX6_callHolds, Cond.methodLink RX6 71 yX6_numbersHold, Cond.instanceMethod yX6_numbersHold, Cond.selects RX6 yX6_numbersHold yX6_numbersHold]
def wsX6_takeHolds_r4 : List Cond := [Cond.methodLink RX6 75 yX6_ifHolds, Cond.instanceMethod yX6_ifHolds, Cond.selects RX6 yX6_ifHolds yX6_ifHolds, Cond.methodLink RX6 78 yX6_letHolds, Cond.instanceMethod yX6_letHolds, Cond.selects RX6 yX6_letHolds yX6_letHolds, Cond.methodLink RX6 84 yX6_takeHolds, Cond.instanceMethod yX6_takeHolds, Cond.selects RX6 yX6_takeHolds yX6_takeHolds, Cond.code yX6_ifHolds cX6_ifHolds 7 (some .boolean), Cond.fieldLink RX6 100 "MarkDesk$Terms" "third" "[I", Cond.code yX6_letHolds cX6_letHolds 9 (some .boolean), Cond.code yX6_numbersHold cX6_numbersHold 6 (some .boolean), Cond.code yX6_wholeHolds cX6_wholeHolds 5 (some .boolean)]
def wsX6_takeHolds : List Cond := .code yX6_takeHolds cX6_takeHolds 7 (some .boolean) :: ((wsX6_takeHolds_r1 ++ (wsX6_takeHolds_r2 ++ (wsX6_takeHolds_r3 ++ wsX6_takeHolds_r4))) ++ wsX60 ++ wsX40 ++ wsX50)
def wsX6_wholeHolds_r1 : List Cond := [Cond.fieldLink RX6 14 "MarkDesk$Typing" "types" "LMarkDesk$Types;", Cond.methodLink RX6 38 yX5_letter, Cond.instanceMethod yX5_letter, Cond.selects RX5 yX5_letter yX5_letter, Cond.initialized RX5, Cond.code yX5_letter cX5_letter 1 (some .int), Cond.methodLink RX5 39 yX5_addNode, Cond.instanceMethod yX5_addNode, Cond.selects RX5 yX5_addNode yX5_addNode, Cond.code yX5_addNode cX5_addNode 2 (some .int), Cond.fieldLink RX5 13 "MarkDesk$Types" "form" "[I", Cond.fieldLink RX5 35 "MarkDesk$Types" "used" "I", Cond.fieldLink RX5 17 "MarkDesk$Types" "sameAs" "[I", Cond.fieldLink RX5 26 "MarkDesk$Types" "progress" "[I", Cond.fieldLink RX5 29 "MarkDesk$Types" "partsSeen" "[I", Cond.methodLink RX6 42 yX6_holds, Cond.instanceMethod yX6_holds, Cond.selects RX6 yX6_holds yX6_holds, Cond.initialized RX6, Cond.code yX6_callHolds cX6_callHolds 10 (some .boolean), Cond.fieldLink RX6 27 "MarkDesk$Typing" "terms" "LMarkDesk$Terms;", Cond.fieldLink RX6 50 "MarkDesk$Terms" "first" "[I", Cond.fieldLink RX6 97 "MarkDesk$Terms" "second" "[I", Cond.methodLink RX6 87 yX5_function]
def wsX6_wholeHolds_r2 : List Cond := [Cond.instanceMethod yX5_function, Cond.selects RX5 yX5_function yX5_function, Cond.code yX5_function cX5_function 6 (some .int), Cond.fieldLink RX5 20 "MarkDesk$Types" "parts" "[I", Cond.code yX6_functionHolds cX6_functionHolds 11 (some .boolean), Cond.fieldLink RX6 34 "MarkDesk$Typing" "bound" "I", Cond.fieldLink RX6 53 "MarkDesk$Terms" "kind" "[I", Cond.methodLink RX6 93 yX6_bind, Cond.instanceMethod yX6_bind, Cond.selects RX6 yX6_bind yX6_bind, Cond.code yX6_bind cX6_bind 3 none, Cond.fieldLink RX6 20 "MarkDesk$Typing" "boundType" "[I", Cond.fieldLink RX6 24 "MarkDesk$Typing" "pieceGives" "[I", Cond.methodLink RX6 56 yX5_makeSame, Cond.instanceMethod yX5_makeSame, Cond.selects RX5 yX5_makeSame yX5_makeSame, Cond.code yX5_makeSame cX5_makeSame 6 (some .boolean), Cond.fieldLink RX5 46 "MarkDesk$Types" "pending" "I", Cond.fieldLink RX5 23 "MarkDesk$Types" "pairs" "[I", Cond.methodLink RX5 49 yX5_addPair, Cond.instanceMethod yX5_addPair, Cond.selects RX5 yX5_addPair yX5_addPair, Cond.code yX5_addPair cX5_addPair 3 none, Cond.methodLink RX5 43 yX5_chosen]
def wsX6_wholeHolds_r3 : List Cond := [Cond.instanceMethod yX5_chosen, Cond.selects RX5 yX5_chosen yX5_chosen, Cond.code yX5_chosen cX5_chosen 4 (some .int), Cond.methodLink RX5 53 yX5_join, Cond.instanceMethod yX5_join, Cond.selects RX5 yX5_join yX5_join, Cond.code yX5_join cX5_join 4 (some .boolean), Cond.code yX6_holds cX6_holds 7 (some .boolean), Cond.methodLink RX6 60 yX6_typeOfVariable, Cond.instanceMethod yX6_typeOfVariable, Cond.selects RX6 yX6_typeOfVariable yX6_typeOfVariable, Cond.code yX6_typeOfVariable cX6_typeOfVariable 4 (some .int), Cond.methodLink RX6 64 yX6_functionHolds, Cond.instanceMethod yX6_functionHolds, Cond.selects RX6 yX6_functionHolds yX6_functionHolds, Cond.methodLink RX6 68 yX6_callHolds, Cond.instanceMethod yX6_callHolds, Cond.selects RX6 yX6_callHolds yX6_callHolds, Cond.methodLink RX6 71 yX6_numbersHold, Cond.instanceMethod yX6_numbersHold, Cond.selects RX6 yX6_numbersHold yX6_numbersHold, Cond.methodLink RX6 75 yX6_ifHolds, Cond.instanceMethod yX6_ifHolds, Cond.selects RX6 yX6_ifHolds yX6_ifHolds]
def wsX6_wholeHolds_r4 : List Cond := [Cond.methodLink RX6 78 yX6_letHolds, Cond.instanceMethod yX6_letHolds, Cond.selects RX6 yX6_letHolds yX6_letHolds, Cond.methodLink RX6 81 yX6_wholeHolds, Cond.instanceMethod yX6_wholeHolds, Cond.selects RX6 yX6_wholeHolds yX6_wholeHolds, Cond.methodLink RX6 84 yX6_takeHolds, Cond.instanceMethod yX6_takeHolds, Cond.selects RX6 yX6_takeHolds yX6_takeHolds, Cond.code yX6_ifHolds cX6_ifHolds 7 (some .boolean), Cond.fieldLink RX6 100 "MarkDesk$Terms" "third" "[I", Cond.code yX6_letHolds cX6_letHolds 9 (some .boolean), Cond.code yX6_numbersHold cX6_numbersHold 6 (some .boolean), Cond.code yX6_takeHolds cX6_takeHolds 7 (some .boolean)]
def wsX6_wholeHolds : List Cond := .code yX6_wholeHolds cX6_wholeHolds 5 (some .boolean) :: ((wsX6_wholeHolds_r1 ++ (wsX6_wholeHolds_r2 ++ (wsX6_wholeHolds_r3 ++ wsX6_wholeHolds_r4))) ++ wsX60 ++ wsX40 ++ wsX50)
def wsX6_typeOfWhole_r1 : List Cond := [Cond.fieldLink RX6 14 "MarkDesk$Typing" "types" "LMarkDesk$Types;", Cond.fieldLink RX6 34 "MarkDesk$Typing" "bound" "I", Cond.methodLink RX6 31 yX5_clear, Cond.instanceMethod yX5_clear, Cond.selects RX5 yX5_clear yX5_clear, Cond.initialized RX5, Cond.code yX5_clear cX5_clear 1 none, Cond.fieldLink RX5 35 "MarkDesk$Types" "used" "I", Cond.methodLink RX5 39 yX5_addNode, Cond.instanceMethod yX5_addNode, Cond.selects RX5 yX5_addNode yX5_addNode, Cond.code yX5_addNode cX5_addNode 2 (some .int), Cond.fieldLink RX5 13 "MarkDesk$Types" "form" "[I", Cond.fieldLink RX5 17 "MarkDesk$Types" "sameAs" "[I", Cond.fieldLink RX5 26 "MarkDesk$Types" "progress" "[I", Cond.fieldLink RX5 29 "MarkDesk$Types" "partsSeen" "[I", Cond.methodLink RX6 38 yX5_letter, Cond.instanceMethod yX5_letter, Cond.selects RX5 yX5_letter yX5_letter, Cond.code yX5_letter cX5_letter 1 (some .int), Cond.methodLink RX6 42 yX6_holds, Cond.instanceMethod yX6_holds, Cond.selects RX6 yX6_holds yX6_holds, Cond.initialized RX6]
def wsX6_typeOfWhole_r2 : List Cond := [Cond.code yX6_holds cX6_holds 7 (some .boolean), Cond.fieldLink RX6 27 "MarkDesk$Typing" "terms" "LMarkDesk$Terms;", Cond.fieldLink RX6 50 "MarkDesk$Terms" "first" "[I", Cond.fieldLink RX6 53 "MarkDesk$Terms" "kind" "[I", Cond.methodLink RX6 56 yX5_makeSame, Cond.instanceMethod yX5_makeSame, Cond.selects RX5 yX5_makeSame yX5_makeSame, Cond.code yX5_makeSame cX5_makeSame 6 (some .boolean), Cond.fieldLink RX5 46 "MarkDesk$Types" "pending" "I", Cond.fieldLink RX5 23 "MarkDesk$Types" "pairs" "[I", Cond.methodLink RX5 49 yX5_addPair, Cond.instanceMethod yX5_addPair, Cond.selects RX5 yX5_addPair yX5_addPair, Cond.code yX5_addPair cX5_addPair 3 none, Cond.methodLink RX5 43 yX5_chosen, Cond.instanceMethod yX5_chosen, Cond.selects RX5 yX5_chosen yX5_chosen, Cond.code yX5_chosen cX5_chosen 4 (some .int), Cond.methodLink RX5 53 yX5_join, Cond.instanceMethod yX5_join, Cond.selects RX5 yX5_join yX5_join, Cond.code yX5_join cX5_join 4 (some .boolean), Cond.fieldLink RX5 20 "MarkDesk$Types" "parts" "[I", Cond.methodLink RX6 60 yX6_typeOfVariable]
def wsX6_typeOfWhole_r3 : List Cond := [Cond.instanceMethod yX6_typeOfVariable, Cond.selects RX6 yX6_typeOfVariable yX6_typeOfVariable, Cond.code yX6_typeOfVariable cX6_typeOfVariable 4 (some .int), Cond.fieldLink RX6 24 "MarkDesk$Typing" "pieceGives" "[I", Cond.fieldLink RX6 20 "MarkDesk$Typing" "boundType" "[I", Cond.methodLink RX6 87 yX5_function, Cond.instanceMethod yX5_function, Cond.selects RX5 yX5_function yX5_function, Cond.code yX5_function cX5_function 6 (some .int), Cond.methodLink RX6 64 yX6_functionHolds, Cond.instanceMethod yX6_functionHolds, Cond.selects RX6 yX6_functionHolds yX6_functionHolds, Cond.methodLink RX6 68 yX6_callHolds, Cond.instanceMethod yX6_callHolds, Cond.selects RX6 yX6_callHolds yX6_callHolds, Cond.methodLink RX6 71 yX6_numbersHold, Cond.instanceMethod yX6_numbersHold, Cond.selects RX6 yX6_numbersHold yX6_numbersHold, Cond.methodLink RX6 75 yX6_ifHolds, Cond.instanceMethod yX6_ifHolds, Cond.selects RX6 yX6_ifHolds yX6_ifHolds, Cond.methodLink RX6 78 yX6_letHolds, Cond.instanceMethod yX6_letHolds, Cond.selects RX6 yX6_letHolds yX6_letHolds]
def wsX6_typeOfWhole_r4 : List Cond := [Cond.methodLink RX6 81 yX6_wholeHolds, Cond.instanceMethod yX6_wholeHolds, Cond.selects RX6 yX6_wholeHolds yX6_wholeHolds, Cond.methodLink RX6 84 yX6_takeHolds, Cond.instanceMethod yX6_takeHolds, Cond.selects RX6 yX6_takeHolds yX6_takeHolds, Cond.code yX6_callHolds cX6_callHolds 10 (some .boolean), Cond.fieldLink RX6 97 "MarkDesk$Terms" "second" "[I", Cond.code yX6_functionHolds cX6_functionHolds 11 (some .boolean), Cond.methodLink RX6 93 yX6_bind, Cond.instanceMethod yX6_bind, Cond.selects RX6 yX6_bind yX6_bind, Cond.code yX6_bind cX6_bind 3 none, Cond.code yX6_ifHolds cX6_ifHolds 7 (some .boolean), Cond.fieldLink RX6 100 "MarkDesk$Terms" "third" "[I", Cond.code yX6_letHolds cX6_letHolds 9 (some .boolean), Cond.code yX6_numbersHold cX6_numbersHold 6 (some .boolean), Cond.code yX6_takeHolds cX6_takeHolds 7 (some .boolean), Cond.code yX6_wholeHolds cX6_wholeHolds 5 (some .boolean), Cond.methodLink RX6 46 yX5_noneContainsItself, Cond.instanceMethod yX5_noneContainsItself, Cond.selects RX5 yX5_noneContainsItself yX5_noneContainsItself, Cond.code yX5_noneContainsItself cX5_noneContainsItself 3 (some .boolean), Cond.methodLink RX5 57 yX5_endsEverywhere]
def wsX6_typeOfWhole_r5 : List Cond := [Cond.instanceMethod yX5_endsEverywhere, Cond.selects RX5 yX5_endsEverywhere yX5_endsEverywhere, Cond.code yX5_endsEverywhere cX5_endsEverywhere 6 (some .boolean), Cond.fieldLink RX5 32 "MarkDesk$Types" "path" "[I", Cond.methodLink RX5 61 yX5_chosenPart, Cond.instanceMethod yX5_chosenPart, Cond.selects RX5 yX5_chosenPart yX5_chosenPart, Cond.code yX5_chosenPart cX5_chosenPart 3 (some .int)]
def wsX6_typeOfWhole : List Cond := .code yX6_typeOfWhole cX6_typeOfWhole 4 (some .int) :: ((wsX6_typeOfWhole_r1 ++ (wsX6_typeOfWhole_r2 ++ (wsX6_typeOfWhole_r3 ++ (wsX6_typeOfWhole_r4 ++ wsX6_typeOfWhole_r5)))) ++ wsX60 ++ wsX50 ++ wsX40)
def wsX9_init_r1 : List Cond := [Cond.methodLink RX9 1 objectInit, Cond.instanceMethod objectInit, Cond.code objectInit ⟨#[0xb1]⟩ 1 none, Cond.classLink RX9 7 RX4, Cond.instantiable RX4 8, Cond.initialized RX4, Cond.fieldLink RX9 10 "MarkDesk" "terms" "LMarkDesk$Terms;", Cond.classLink RX9 16 RX2, Cond.instantiable RX2 13, Cond.initialized RX2, Cond.fieldLink RX9 21 "MarkDesk" "machine" "LMarkDesk$Machine;", Cond.classLink RX9 25 RX6, Cond.instantiable RX6 5, Cond.initialized RX6, Cond.fieldLink RX9 28 "MarkDesk" "typing" "LMarkDesk$Typing;", Cond.classLink RX9 32 RX1, Cond.instantiable RX1 5, Cond.initialized RX1, Cond.fieldLink RX9 35 "MarkDesk" "latestType" "LMarkDesk$KnownType;", Cond.instanceMethod yX4_init, Cond.code yX4_init cX4_init 1 none, Cond.methodLink RX4 1 objectInit, Cond.arrayClass .int, Cond.fieldLink RX4 9 "MarkDesk$Terms" "kind" "[I"]
def wsX9_init_r2 : List Cond := [Cond.fieldLink RX4 13 "MarkDesk$Terms" "first" "[I", Cond.fieldLink RX4 16 "MarkDesk$Terms" "second" "[I", Cond.fieldLink RX4 19 "MarkDesk$Terms" "third" "[I", Cond.fieldLink RX4 22 "MarkDesk$Terms" "needed" "[I", Cond.fieldLink RX4 25 "MarkDesk$Terms" "height" "[I", Cond.fieldLink RX4 28 "MarkDesk$Terms" "size" "[I", Cond.methodLink RX9 18 yX2_init, Cond.instanceMethod yX2_init, Cond.code yX2_init cX2_init 2 none, Cond.methodLink RX2 5 objectInit, Cond.classLink RX2 11 RX7, Cond.instantiable RX7 4, Cond.initialized RX7, Cond.fieldLink RX2 14 "MarkDesk$Machine" "values" "LMarkDesk$Values;", Cond.classLink RX2 18 RX3, Cond.instantiable RX3 3, Cond.initialized RX3, Cond.fieldLink RX2 21 "MarkDesk$Machine" "scopes" "LMarkDesk$Scopes;", Cond.classLink RX2 25 RX8, Cond.instantiable RX8 5, Cond.initialized RX8, Cond.fieldLink RX2 28 "MarkDesk$Machine" "waitings" "LMarkDesk$Waitings;", Cond.fieldLink RX2 32 "MarkDesk$Machine" "behindMarks" "[I", Cond.fieldLink RX2 36 "MarkDesk$Machine" "terms" "LMarkDesk$Terms;"]
def wsX9_init_r3 : List Cond := [Cond.instanceMethod yX7_init, Cond.code yX7_init cX7_init 1 none, Cond.methodLink RX7 1 objectInit, Cond.fieldLink RX7 9 "MarkDesk$Values" "form" "[I", Cond.fieldLink RX7 15 "MarkDesk$Values" "content" "[I", Cond.fieldLink RX7 18 "MarkDesk$Values" "scope" "[I", Cond.instanceMethod yX3_init, Cond.code yX3_init cX3_init 1 none, Cond.methodLink RX3 3 objectInit, Cond.fieldLink RX3 11 "MarkDesk$Scopes" "bound" "[I", Cond.fieldLink RX3 17 "MarkDesk$Scopes" "outer" "[I", Cond.instanceMethod yX8_init, Cond.code yX8_init cX8_init 1 none, Cond.methodLink RX8 1 objectInit, Cond.fieldLink RX8 9 "MarkDesk$Waitings" "term" "[I", Cond.fieldLink RX8 15 "MarkDesk$Waitings" "scope" "[I", Cond.fieldLink RX8 18 "MarkDesk$Waitings" "held" "[I", Cond.fieldLink RX8 21 "MarkDesk$Waitings" "next" "[I", Cond.methodLink RX9 27 yX6_init, Cond.instanceMethod yX6_init, Cond.code yX6_init cX6_init 2 none, Cond.methodLink RX6 5 objectInit, Cond.classLink RX6 11 RX5, Cond.instantiable RX5 9]
def wsX9_init_r4 : List Cond := [Cond.initialized RX5, Cond.fieldLink RX6 14 "MarkDesk$Typing" "types" "LMarkDesk$Types;", Cond.fieldLink RX6 20 "MarkDesk$Typing" "boundType" "[I", Cond.fieldLink RX6 24 "MarkDesk$Typing" "pieceGives" "[I", Cond.fieldLink RX6 27 "MarkDesk$Typing" "terms" "LMarkDesk$Terms;", Cond.instanceMethod yX5_init, Cond.code yX5_init cX5_init 1 none, Cond.methodLink RX5 7 objectInit, Cond.fieldLink RX5 13 "MarkDesk$Types" "form" "[I", Cond.fieldLink RX5 17 "MarkDesk$Types" "sameAs" "[I", Cond.fieldLink RX5 20 "MarkDesk$Types" "parts" "[I", Cond.fieldLink RX5 23 "MarkDesk$Types" "pairs" "[I", Cond.fieldLink RX5 26 "MarkDesk$Types" "progress" "[I", Cond.fieldLink RX5 29 "MarkDesk$Types" "partsSeen" "[I", Cond.fieldLink RX5 32 "MarkDesk$Types" "path" "[I", Cond.instanceMethod yX1_init, Cond.code yX1_init cX1_init 1 none, Cond.methodLink RX1 3 objectInit, Cond.fieldLink RX1 11 "MarkDesk$KnownType" "answer" "[I", Cond.fieldLink RX1 17 "MarkDesk$KnownType" "parts" "[I", Cond.fieldLink RX1 22 "MarkDesk$KnownType" "waiting" "[I", Cond.fieldLink RX1 25 "MarkDesk$KnownType" "root" "I"]
def wsX9_init : List Cond := .code yX9_init cX9_init 2 none :: ((wsX9_init_r1 ++ (wsX9_init_r2 ++ (wsX9_init_r3 ++ wsX9_init_r4))) ++ wsX40 ++ wsX90 ++ wsX20 ++ wsX60 ++ wsX10 ++ wsX70 ++ wsX30 ++ wsX80 ++ wsX50)
def wsX9_make_r1 : List Cond := [Cond.classLink RX9 43 "java/lang/IllegalArgumentException", Cond.initialized "java/lang/IllegalArgumentException", Cond.classLink RX9 49 "java/lang/IllegalStateException", Cond.initialized "java/lang/IllegalStateException", Cond.fieldLink RX9 10 "MarkDesk" "terms" "LMarkDesk$Terms;", Cond.methodLink RX9 39 yX4_wordsFit, Cond.instanceMethod yX4_wordsFit, Cond.selects RX4 yX4_wordsFit yX4_wordsFit, Cond.initialized RX4, Cond.code yX4_wordsFit cX4_wordsFit 6 (some .boolean), Cond.fieldLink RX4 39 "MarkDesk$Kind" "TERM_WORDS" "[I", Cond.methodLink RX4 35 yX4_has, Cond.instanceMethod yX4_has, Cond.selects RX4 yX4_has yX4_has, Cond.code yX4_has cX4_has 2 (some .boolean), Cond.fieldLink RX4 31 "MarkDesk$Terms" "used" "I", Cond.methodLink RX9 46 yX4_hasRoomFor, Cond.instanceMethod yX4_hasRoomFor, Cond.selects RX4 yX4_hasRoomFor yX4_hasRoomFor, Cond.code yX4_hasRoomFor cX4_hasRoomFor 6 (some .boolean), Cond.methodLink RX4 44 yX4_heightOver, Cond.instanceMethod yX4_heightOver, Cond.selects RX4 yX4_heightOver yX4_heightOver, Cond.code yX4_heightOver cX4_heightOver 6 (some .int)]
def wsX9_make_r2 : List Cond := [Cond.fieldLink RX4 25 "MarkDesk$Terms" "height" "[I", Cond.methodLink RX4 54 Lib.Math.max.name, Cond.static Lib.Math.max.name, Cond.initialized "java/lang/Math", Cond.code Lib.Math.max.name Lib.Math.max.code 2 (some .int), Cond.methodLink RX4 48 yX4_sizeOver, Cond.instanceMethod yX4_sizeOver, Cond.selects RX4 yX4_sizeOver yX4_sizeOver, Cond.code yX4_sizeOver cX4_sizeOver 6 (some .int), Cond.fieldLink RX4 28 "MarkDesk$Terms" "size" "[I", Cond.methodLink RX9 52 yX4_add, Cond.instanceMethod yX4_add, Cond.selects RX4 yX4_add yX4_add, Cond.code yX4_add cX4_add 7 (some .int), Cond.fieldLink RX4 9 "MarkDesk$Terms" "kind" "[I", Cond.fieldLink RX4 13 "MarkDesk$Terms" "first" "[I", Cond.fieldLink RX4 16 "MarkDesk$Terms" "second" "[I", Cond.fieldLink RX4 19 "MarkDesk$Terms" "third" "[I", Cond.fieldLink RX4 22 "MarkDesk$Terms" "needed" "[I", Cond.methodLink RX4 51 yX4_neededOver, Cond.instanceMethod yX4_neededOver, Cond.selects RX4 yX4_neededOver yX4_neededOver, Cond.code yX4_neededOver cX4_neededOver 6 (some .int), Cond.fieldLink RX4 60 "MarkDesk$Kind" "BINDS" "[I"]
def wsX9_make : List Cond := .code yX9_make cX9_make 5 (some .int) :: ((wsX9_make_r1 ++ wsX9_make_r2) ++ wsX90 ++ wsX40 ++ (vx_at0 RX9 45 "java/lang/IllegalArgumentException" ["java/lang/RuntimeException", "java/lang/Exception"]).filter goodWord ++ (vx_at0 RX9 51 "java/lang/IllegalStateException" ["java/lang/RuntimeException", "java/lang/Exception"]).filter goodWord)
def wsX9_open : List Cond := .code yX9_open cX9_open 2 (some .int) :: ([.classLink RX9 60 "java/util/NoSuchElementException", .initialized "java/util/NoSuchElementException", .fieldLink RX9 10 "MarkDesk" "terms" "LMarkDesk$Terms;", .fieldLink RX9 63 "MarkDesk$Terms" "needed" "[I", .methodLink RX9 56 yX4_has, .instanceMethod yX4_has, .selects RX4 yX4_has yX4_has, .initialized RX4, .code yX4_has cX4_has 2 (some .boolean), .fieldLink RX4 31 "MarkDesk$Terms" "used" "I"] ++ wsX90 ++ wsX40 ++ (vx_at0 RX9 62 "java/util/NoSuchElementException" ["java/lang/RuntimeException", "java/lang/Exception"]).filter goodWord)
def wsX9_keepValue : List Cond := .code yX9_keepValue cX9_keepValue 1 (some .int) :: ([.fieldLink RX9 21 "MarkDesk" "machine" "LMarkDesk$Machine;", .fieldLink RX9 88 "MarkDesk" "latestValue" "I", .fieldLink RX9 128 "MarkDesk$Machine" "stepsDone" "I", .fieldLink RX9 91 "MarkDesk" "latestSteps" "I", .fieldLink RX9 121 "MarkDesk" "allSteps" "J", .fieldLink RX9 118 "MarkDesk" "valuesFound" "I", .methodLink RX9 125 yX2_plainResult, .instanceMethod yX2_plainResult, .selects RX2 yX2_plainResult yX2_plainResult, .initialized RX2, .code yX2_plainResult cX2_plainResult 1 (some .int), .fieldLink RX2 14 "MarkDesk$Machine" "values" "LMarkDesk$Values;", .fieldLink RX2 84 "MarkDesk$Values" "content" "[I", .fieldLink RX2 71 "MarkDesk$Machine" "given" "I", .methodLink RX2 80 yX2_resultForm, .instanceMethod yX2_resultForm, .selects RX2 yX2_resultForm yX2_resultForm, .code yX2_resultForm cX2_resultForm 1 (some .int), .fieldLink RX2 68 "MarkDesk$Values" "form" "[I", .methodLink RX2 74 Lib.Math.min.name, .static Lib.Math.min.name, .initialized "java/lang/Math", .code Lib.Math.min.name Lib.Math.min.code 2 (some .int), .methodLink RX9 131 yX2_resultForm] ++ wsX90 ++ wsX20 ++ wsX70)
def wsX9_work_r1 : List Cond := [Cond.classLink RX9 60 "java/util/NoSuchElementException", Cond.initialized "java/util/NoSuchElementException", Cond.classLink RX9 70 "java/lang/IndexOutOfBoundsException", Cond.initialized "java/lang/IndexOutOfBoundsException", Cond.classLink RX9 43 "java/lang/IllegalArgumentException", Cond.initialized "java/lang/IllegalArgumentException", Cond.classLink RX9 49 "java/lang/IllegalStateException", Cond.initialized "java/lang/IllegalStateException", Cond.fieldLink RX9 10 "MarkDesk" "terms" "LMarkDesk$Terms;", Cond.fieldLink RX9 21 "MarkDesk" "machine" "LMarkDesk$Machine;", Cond.fieldLink RX9 77 "MarkDesk" "stuckTerms" "I", Cond.fieldLink RX9 81 "MarkDesk" "neededMore" "I", Cond.methodLink RX9 67 yX4_hasClosed, Cond.instanceMethod yX4_hasClosed, Cond.selects RX4 yX4_hasClosed yX4_hasClosed, Cond.initialized RX4, Cond.code yX4_hasClosed cX4_hasClosed 2 (some .boolean), Cond.fieldLink RX4 22 "MarkDesk$Terms" "needed" "[I", Cond.methodLink RX4 35 yX4_has, Cond.instanceMethod yX4_has, Cond.selects RX4 yX4_has yX4_has, Cond.code yX4_has cX4_has 2 (some .boolean), Cond.fieldLink RX4 31 "MarkDesk$Terms" "used" "I", Cond.methodLink RX9 73 yX2_workOut]
def wsX9_work_r2 : List Cond := [Cond.instanceMethod yX2_workOut, Cond.selects RX2 yX2_workOut yX2_workOut, Cond.initialized RX2, Cond.code yX2_workOut cX2_workOut 4 (some .int), Cond.fieldLink RX2 14 "MarkDesk$Machine" "values" "LMarkDesk$Values;", Cond.fieldLink RX2 21 "MarkDesk$Machine" "scopes" "LMarkDesk$Scopes;", Cond.fieldLink RX2 28 "MarkDesk$Machine" "waitings" "LMarkDesk$Waitings;", Cond.fieldLink RX2 45 "MarkDesk$Machine" "marks" "I", Cond.fieldLink RX2 49 "MarkDesk$Machine" "toDo" "I", Cond.fieldLink RX2 52 "MarkDesk$Machine" "fuelLeft" "I", Cond.fieldLink RX2 55 "MarkDesk$Machine" "stepsDone" "I", Cond.fieldLink RX2 58 "MarkDesk$Machine" "end" "I", Cond.methodLink RX2 40 yX7_clear, Cond.instanceMethod yX7_clear, Cond.selects RX7 yX7_clear yX7_clear, Cond.initialized RX7, Cond.code yX7_clear cX7_clear 1 none, Cond.fieldLink RX7 21 "MarkDesk$Values" "used" "I", Cond.methodLink RX2 43 yX3_clear, Cond.instanceMethod yX3_clear, Cond.selects RX3 yX3_clear yX3_clear, Cond.initialized RX3, Cond.code yX3_clear cX3_clear 1 none, Cond.fieldLink RX3 20 "MarkDesk$Scopes" "used" "I"]
def wsX9_work_r3 : List Cond := [Cond.methodLink RX2 44 yX8_clear, Cond.instanceMethod yX8_clear, Cond.selects RX8 yX8_clear yX8_clear, Cond.initialized RX8, Cond.code yX8_clear cX8_clear 1 none, Cond.fieldLink RX8 24 "MarkDesk$Waitings" "used" "I", Cond.methodLink RX2 61 yX2_goTo, Cond.instanceMethod yX2_goTo, Cond.selects RX2 yX2_goTo yX2_goTo, Cond.code yX2_goTo cX2_goTo 3 none, Cond.fieldLink RX2 96 "MarkDesk$Machine" "term" "I", Cond.fieldLink RX2 99 "MarkDesk$Machine" "scope" "I", Cond.fieldLink RX2 71 "MarkDesk$Machine" "given" "I", Cond.methodLink RX2 65 yX2_doRound, Cond.instanceMethod yX2_doRound, Cond.selects RX2 yX2_doRound yX2_doRound, Cond.code yX2_doRound cX2_doRound 1 none, Cond.methodLink RX2 87 yX2_leaveMark, Cond.instanceMethod yX2_leaveMark, Cond.selects RX2 yX2_leaveMark yX2_leaveMark, Cond.code yX2_leaveMark cX2_leaveMark 1 none, Cond.fieldLink RX2 32 "MarkDesk$Machine" "behindMarks" "[I", Cond.methodLink RX2 90 yX2_beginTerm, Cond.instanceMethod yX2_beginTerm]
def wsX9_work_r4 : List Cond := [Cond.selects RX2 yX2_beginTerm yX2_beginTerm, Cond.code yX2_beginTerm cX2_beginTerm 2 none, Cond.fieldLink RX2 36 "MarkDesk$Machine" "terms" "LMarkDesk$Terms;", Cond.fieldLink RX2 102 "MarkDesk$Terms" "first" "[I", Cond.fieldLink RX2 107 "MarkDesk$Terms" "kind" "[I", Cond.methodLink RX2 110 yX7_add, Cond.instanceMethod yX7_add, Cond.selects RX7 yX7_add yX7_add, Cond.code yX7_add cX7_add 4 (some .int), Cond.fieldLink RX7 9 "MarkDesk$Values" "form" "[I", Cond.fieldLink RX7 15 "MarkDesk$Values" "content" "[I", Cond.fieldLink RX7 18 "MarkDesk$Values" "scope" "[I", Cond.methodLink RX2 114 yX3_look, Cond.instanceMethod yX3_look, Cond.selects RX3 yX3_look yX3_look, Cond.code yX3_look cX3_look 5 (some .int), Cond.fieldLink RX3 17 "MarkDesk$Scopes" "outer" "[I", Cond.fieldLink RX3 11 "MarkDesk$Scopes" "bound" "[I", Cond.methodLink RX2 117 yX2_enterMark, Cond.instanceMethod yX2_enterMark, Cond.selects RX2 yX2_enterMark yX2_enterMark, Cond.code yX2_enterMark cX2_enterMark 2 none, Cond.methodLink RX2 121 yX3_bind, Cond.instanceMethod yX3_bind]
def wsX9_work_r5 : List Cond := [Cond.selects RX3 yX3_bind yX3_bind, Cond.code yX3_bind cX3_bind 3 (some .int), Cond.methodLink RX2 124 yX8_add, Cond.instanceMethod yX8_add, Cond.selects RX8 yX8_add yX8_add, Cond.code yX8_add cX8_add 5 (some .int), Cond.fieldLink RX8 9 "MarkDesk$Waitings" "term" "[I", Cond.fieldLink RX8 15 "MarkDesk$Waitings" "scope" "[I", Cond.fieldLink RX8 18 "MarkDesk$Waitings" "held" "[I", Cond.fieldLink RX8 21 "MarkDesk$Waitings" "next" "[I", Cond.methodLink RX2 93 yX2_bringValue, Cond.instanceMethod yX2_bringValue, Cond.selects RX2 yX2_bringValue yX2_bringValue, Cond.code yX2_bringValue cX2_bringValue 4 none, Cond.fieldLink RX2 127 "MarkDesk$Waitings" "term" "[I", Cond.fieldLink RX2 129 "MarkDesk$Waitings" "next" "[I", Cond.fieldLink RX2 134 "MarkDesk$Waitings" "scope" "[I", Cond.fieldLink RX2 139 "MarkDesk$Terms" "second" "[I", Cond.fieldLink RX2 142 "MarkDesk$Waitings" "held" "[I", Cond.methodLink RX2 136 yX2_choose, Cond.instanceMethod yX2_choose, Cond.selects RX2 yX2_choose yX2_choose, Cond.code yX2_choose cX2_choose 3 none, Cond.fieldLink RX2 68 "MarkDesk$Values" "form" "[I"]
def wsX9_work_r6 : List Cond := [Cond.fieldLink RX2 84 "MarkDesk$Values" "content" "[I", Cond.fieldLink RX2 152 "MarkDesk$Terms" "third" "[I", Cond.methodLink RX2 145 yX2_callWith, Cond.instanceMethod yX2_callWith, Cond.selects RX2 yX2_callWith yX2_callWith, Cond.code yX2_callWith cX2_callWith 6 none, Cond.fieldLink RX2 155 "MarkDesk$Values" "scope" "[I", Cond.methodLink RX2 148 yX2_joinNumbers, Cond.instanceMethod yX2_joinNumbers, Cond.selects RX2 yX2_joinNumbers yX2_joinNumbers, Cond.code yX2_joinNumbers cX2_joinNumbers 4 none, Cond.methodLink RX9 84 yX9_keepValue, Cond.instanceMethod yX9_keepValue, Cond.selects RX9 yX9_keepValue yX9_keepValue, Cond.initialized RX9, Cond.code yX9_keepValue cX9_keepValue 1 (some .int), Cond.fieldLink RX9 88 "MarkDesk" "latestValue" "I", Cond.fieldLink RX9 128 "MarkDesk$Machine" "stepsDone" "I", Cond.fieldLink RX9 91 "MarkDesk" "latestSteps" "I", Cond.fieldLink RX9 121 "MarkDesk" "allSteps" "J", Cond.fieldLink RX9 118 "MarkDesk" "valuesFound" "I", Cond.methodLink RX9 125 yX2_plainResult, Cond.instanceMethod yX2_plainResult, Cond.selects RX2 yX2_plainResult yX2_plainResult]
def wsX9_work_r7 : List Cond := [Cond.code yX2_plainResult cX2_plainResult 1 (some .int), Cond.methodLink RX2 80 yX2_resultForm, Cond.instanceMethod yX2_resultForm, Cond.selects RX2 yX2_resultForm yX2_resultForm, Cond.code yX2_resultForm cX2_resultForm 1 (some .int), Cond.methodLink RX2 74 Lib.Math.min.name, Cond.static Lib.Math.min.name, Cond.initialized "java/lang/Math", Cond.code Lib.Math.min.name Lib.Math.min.code 2 (some .int), Cond.methodLink RX9 131 yX2_resultForm]
def wsX9_work : List Cond := .code yX9_work cX9_work 4 (some .int) :: ((wsX9_work_r1 ++ (wsX9_work_r2 ++ (wsX9_work_r3 ++ (wsX9_work_r4 ++ (wsX9_work_r5 ++ (wsX9_work_r6 ++ wsX9_work_r7)))))) ++ wsX90 ++ wsX40 ++ wsX20 ++ wsX70 ++ wsX30 ++ wsX80 ++ (vx_at0 RX9 62 "java/util/NoSuchElementException" ["java/lang/RuntimeException", "java/lang/Exception"]).filter goodWord ++ (vx_at0 RX9 72 "java/lang/IndexOutOfBoundsException" ["java/lang/RuntimeException", "java/lang/Exception"]).filter goodWord ++ (vx_at0 RX9 45 "java/lang/IllegalArgumentException" ["java/lang/RuntimeException", "java/lang/Exception"]).filter goodWord ++ (vx_at0 RX9 51 "java/lang/IllegalStateException" ["java/lang/RuntimeException", "java/lang/Exception"]).filter goodWord)
def wsX9_value : List Cond := .code yX9_value cX9_value 1 (some .int) :: ([.fieldLink RX9 88 "MarkDesk" "latestValue" "I"] ++ wsX90)
def wsX9_steps : List Cond := .code yX9_steps cX9_steps 1 (some .int) :: ([.fieldLink RX9 91 "MarkDesk" "latestSteps" "I"] ++ wsX90)
def wsX9_type_r1 : List Cond := [Cond.classLink RX9 60 "java/util/NoSuchElementException", Cond.initialized "java/util/NoSuchElementException", Cond.classLink RX9 43 "java/lang/IllegalArgumentException", Cond.initialized "java/lang/IllegalArgumentException", Cond.fieldLink RX9 10 "MarkDesk" "terms" "LMarkDesk$Terms;", Cond.fieldLink RX9 28 "MarkDesk" "typing" "LMarkDesk$Typing;", Cond.fieldLink RX9 98 "MarkDesk" "typesMissing" "I", Cond.fieldLink RX9 101 "MarkDesk" "typesFound" "I", Cond.fieldLink RX9 35 "MarkDesk" "latestType" "LMarkDesk$KnownType;", Cond.fieldLink RX9 104 "MarkDesk$Typing" "types" "LMarkDesk$Types;", Cond.methodLink RX9 67 yX4_hasClosed, Cond.instanceMethod yX4_hasClosed, Cond.selects RX4 yX4_hasClosed yX4_hasClosed, Cond.initialized RX4, Cond.code yX4_hasClosed cX4_hasClosed 2 (some .boolean), Cond.fieldLink RX4 22 "MarkDesk$Terms" "needed" "[I", Cond.methodLink RX4 35 yX4_has, Cond.instanceMethod yX4_has, Cond.selects RX4 yX4_has yX4_has, Cond.code yX4_has cX4_has 2 (some .boolean), Cond.fieldLink RX4 31 "MarkDesk$Terms" "used" "I", Cond.methodLink RX9 94 yX6_typeOfWhole, Cond.instanceMethod yX6_typeOfWhole, Cond.selects RX6 yX6_typeOfWhole yX6_typeOfWhole]
def wsX9_type_r2 : List Cond := [Cond.initialized RX6, Cond.code yX6_typeOfWhole cX6_typeOfWhole 4 (some .int), Cond.fieldLink RX6 14 "MarkDesk$Typing" "types" "LMarkDesk$Types;", Cond.fieldLink RX6 34 "MarkDesk$Typing" "bound" "I", Cond.methodLink RX6 31 yX5_clear, Cond.instanceMethod yX5_clear, Cond.selects RX5 yX5_clear yX5_clear, Cond.initialized RX5, Cond.code yX5_clear cX5_clear 1 none, Cond.fieldLink RX5 35 "MarkDesk$Types" "used" "I", Cond.methodLink RX5 39 yX5_addNode, Cond.instanceMethod yX5_addNode, Cond.selects RX5 yX5_addNode yX5_addNode, Cond.code yX5_addNode cX5_addNode 2 (some .int), Cond.fieldLink RX5 13 "MarkDesk$Types" "form" "[I", Cond.fieldLink RX5 17 "MarkDesk$Types" "sameAs" "[I", Cond.fieldLink RX5 26 "MarkDesk$Types" "progress" "[I", Cond.fieldLink RX5 29 "MarkDesk$Types" "partsSeen" "[I", Cond.methodLink RX6 38 yX5_letter, Cond.instanceMethod yX5_letter, Cond.selects RX5 yX5_letter yX5_letter, Cond.code yX5_letter cX5_letter 1 (some .int), Cond.methodLink RX6 42 yX6_holds, Cond.instanceMethod yX6_holds]
def wsX9_type_r3 : List Cond := [Cond.selects RX6 yX6_holds yX6_holds, Cond.code yX6_holds cX6_holds 7 (some .boolean), Cond.fieldLink RX6 27 "MarkDesk$Typing" "terms" "LMarkDesk$Terms;", Cond.fieldLink RX6 50 "MarkDesk$Terms" "first" "[I", Cond.fieldLink RX6 53 "MarkDesk$Terms" "kind" "[I", Cond.methodLink RX6 56 yX5_makeSame, Cond.instanceMethod yX5_makeSame, Cond.selects RX5 yX5_makeSame yX5_makeSame, Cond.code yX5_makeSame cX5_makeSame 6 (some .boolean), Cond.fieldLink RX5 46 "MarkDesk$Types" "pending" "I", Cond.fieldLink RX5 23 "MarkDesk$Types" "pairs" "[I", Cond.methodLink RX5 49 yX5_addPair, Cond.instanceMethod yX5_addPair, Cond.selects RX5 yX5_addPair yX5_addPair, Cond.code yX5_addPair cX5_addPair 3 none, Cond.methodLink RX5 43 yX5_chosen, Cond.instanceMethod yX5_chosen, Cond.selects RX5 yX5_chosen yX5_chosen, Cond.code yX5_chosen cX5_chosen 4 (some .int), Cond.methodLink RX5 53 yX5_join, Cond.instanceMethod yX5_join, Cond.selects RX5 yX5_join yX5_join, Cond.code yX5_join cX5_join 4 (some .boolean), Cond.fieldLink RX5 20 "MarkDesk$Types" "parts" "[I"]
def wsX9_type_r4 : List Cond := [Cond.methodLink RX6 60 yX6_typeOfVariable, Cond.instanceMethod yX6_typeOfVariable, Cond.selects RX6 yX6_typeOfVariable yX6_typeOfVariable, Cond.code yX6_typeOfVariable cX6_typeOfVariable 4 (some .int), Cond.fieldLink RX6 24 "MarkDesk$Typing" "pieceGives" "[I", Cond.fieldLink RX6 20 "MarkDesk$Typing" "boundType" "[I", Cond.methodLink RX6 87 yX5_function, Cond.instanceMethod yX5_function, Cond.selects RX5 yX5_function yX5_function, Cond.code yX5_function cX5_function 6 (some .int), Cond.methodLink RX6 64 yX6_functionHolds, Cond.instanceMethod yX6_functionHolds, Cond.selects RX6 yX6_functionHolds yX6_functionHolds, Cond.methodLink RX6 68 yX6_callHolds, Cond.instanceMethod yX6_callHolds, Cond.selects RX6 yX6_callHolds yX6_callHolds, Cond.methodLink RX6 71 yX6_numbersHold, Cond.instanceMethod yX6_numbersHold, Cond.selects RX6 yX6_numbersHold yX6_numbersHold, Cond.methodLink RX6 75 yX6_ifHolds, Cond.instanceMethod yX6_ifHolds, Cond.selects RX6 yX6_ifHolds yX6_ifHolds, Cond.methodLink RX6 78 yX6_letHolds, Cond.instanceMethod yX6_letHolds]
def wsX9_type_r5 : List Cond := [Cond.selects RX6 yX6_letHolds yX6_letHolds, Cond.methodLink RX6 81 yX6_wholeHolds, Cond.instanceMethod yX6_wholeHolds, Cond.selects RX6 yX6_wholeHolds yX6_wholeHolds, Cond.methodLink RX6 84 yX6_takeHolds, Cond.instanceMethod yX6_takeHolds, Cond.selects RX6 yX6_takeHolds yX6_takeHolds, Cond.code yX6_callHolds cX6_callHolds 10 (some .boolean), Cond.fieldLink RX6 97 "MarkDesk$Terms" "second" "[I", Cond.code yX6_functionHolds cX6_functionHolds 11 (some .boolean), Cond.methodLink RX6 93 yX6_bind, Cond.instanceMethod yX6_bind, Cond.selects RX6 yX6_bind yX6_bind, Cond.code yX6_bind cX6_bind 3 none, Cond.code yX6_ifHolds cX6_ifHolds 7 (some .boolean), Cond.fieldLink RX6 100 "MarkDesk$Terms" "third" "[I", Cond.code yX6_letHolds cX6_letHolds 9 (some .boolean), Cond.code yX6_numbersHold cX6_numbersHold 6 (some .boolean), Cond.code yX6_takeHolds cX6_takeHolds 7 (some .boolean), Cond.code yX6_wholeHolds cX6_wholeHolds 5 (some .boolean), Cond.methodLink RX6 46 yX5_noneContainsItself, Cond.instanceMethod yX5_noneContainsItself, Cond.selects RX5 yX5_noneContainsItself yX5_noneContainsItself, Cond.code yX5_noneContainsItself cX5_noneContainsItself 3 (some .boolean)]
def wsX9_type_r6 : List Cond := [Cond.methodLink RX5 57 yX5_endsEverywhere, Cond.instanceMethod yX5_endsEverywhere, Cond.selects RX5 yX5_endsEverywhere yX5_endsEverywhere, Cond.code yX5_endsEverywhere cX5_endsEverywhere 6 (some .boolean), Cond.fieldLink RX5 32 "MarkDesk$Types" "path" "[I", Cond.methodLink RX5 61 yX5_chosenPart, Cond.instanceMethod yX5_chosenPart, Cond.selects RX5 yX5_chosenPart yX5_chosenPart, Cond.code yX5_chosenPart cX5_chosenPart 3 (some .int), Cond.methodLink RX9 108 yX1_keep, Cond.instanceMethod yX1_keep, Cond.selects RX1 yX1_keep yX1_keep, Cond.initialized RX1, Cond.code yX1_keep cX1_keep 6 none, Cond.fieldLink RX1 25 "MarkDesk$KnownType" "root" "I", Cond.fieldLink RX1 33 "MarkDesk$KnownType" "letters" "I", Cond.fieldLink RX1 11 "MarkDesk$KnownType" "answer" "[I", Cond.fieldLink RX1 22 "MarkDesk$KnownType" "waiting" "[I", Cond.methodLink RX1 29 yX5_chosen, Cond.methodLink RX1 36 yJ7_fill_53178, Cond.static yJ7_fill_53178, Cond.initialized RJ7, Cond.code yJ7_fill_53178 cJ7_fill_53178 4 none, Cond.methodLink RX1 42 yX1_keepNode]
def wsX9_type_r7 : List Cond := [Cond.instanceMethod yX1_keepNode, Cond.selects RX1 yX1_keepNode yX1_keepNode, Cond.code yX1_keepNode cX1_keepNode 7 (some .int), Cond.fieldLink RX1 46 "MarkDesk$Types" "form" "[I", Cond.fieldLink RX1 17 "MarkDesk$KnownType" "parts" "[I", Cond.methodLink RX1 49 yX5_chosenPart, Cond.methodLink RX9 112 yX1_at, Cond.instanceMethod yX1_at, Cond.selects RX1 yX1_at yX1_at, Cond.code yX1_at cX1_at 5 (some .int)]
def wsX9_type : List Cond := .code yX9_type cX9_type 3 (some .int) :: ((wsX9_type_r1 ++ (wsX9_type_r2 ++ (wsX9_type_r3 ++ (wsX9_type_r4 ++ (wsX9_type_r5 ++ (wsX9_type_r6 ++ wsX9_type_r7)))))) ++ wsX90 ++ wsX60 ++ wsX40 ++ wsX50 ++ wsX10 ++ (vx_at0 RX9 62 "java/util/NoSuchElementException" ["java/lang/RuntimeException", "java/lang/Exception"]).filter goodWord ++ (vx_at0 RX9 45 "java/lang/IllegalArgumentException" ["java/lang/RuntimeException", "java/lang/Exception"]).filter goodWord)
def wsX9_part : List Cond := .code yX9_part cX9_part 2 (some .int) :: ([.fieldLink RX9 35 "MarkDesk" "latestType" "LMarkDesk$KnownType;", .methodLink RX9 112 yX1_at, .instanceMethod yX1_at, .selects RX1 yX1_at yX1_at, .initialized RX1, .code yX1_at cX1_at 5 (some .int), .fieldLink RX1 25 "MarkDesk$KnownType" "root" "I", .fieldLink RX1 11 "MarkDesk$KnownType" "answer" "[I", .fieldLink RX1 17 "MarkDesk$KnownType" "parts" "[I"] ++ wsX90 ++ wsX10)
def wsX9_count : List Cond := .code yX9_count cX9_count 2 (some .int) :: ([.fieldLink RX9 10 "MarkDesk" "terms" "LMarkDesk$Terms;", .fieldLink RX9 115 "MarkDesk$Terms" "used" "I", .fieldLink RX9 118 "MarkDesk" "valuesFound" "I", .fieldLink RX9 77 "MarkDesk" "stuckTerms" "I", .fieldLink RX9 81 "MarkDesk" "neededMore" "I", .fieldLink RX9 101 "MarkDesk" "typesFound" "I", .fieldLink RX9 98 "MarkDesk" "typesMissing" "I"] ++ wsX90 ++ wsX40)
def wsX9_mean : List Cond := .code yX9_mean cX9_mean 1 (some .float) :: ([.fieldLink RX9 118 "MarkDesk" "valuesFound" "I", .fieldLink RX9 121 "MarkDesk" "allSteps" "J"] ++ wsX90)
def wsX10_init_r1 : List Cond := [Cond.methodLink RX10 1 objectInit, Cond.instanceMethod objectInit, Cond.code objectInit ⟨#[0xb1]⟩ 1 none, Cond.arrayClass .int, Cond.fieldLink RX10 7 "MarkDeskModel" "kind" "[I", Cond.fieldLink RX10 13 "MarkDeskModel" "wordA" "[I", Cond.fieldLink RX10 16 "MarkDeskModel" "wordB" "[I", Cond.fieldLink RX10 19 "MarkDeskModel" "wordC" "[I", Cond.fieldLink RX10 22 "MarkDeskModel" "height" "[I", Cond.fieldLink RX10 25 "MarkDeskModel" "size" "[I", Cond.fieldLink RX10 28 "MarkDeskModel" "need" "[I", Cond.fieldLink RX10 31 "MarkDeskModel" "boundKind" "[I", Cond.fieldLink RX10 34 "MarkDeskModel" "boundWord" "[I", Cond.fieldLink RX10 37 "MarkDeskModel" "boundNext" "[I", Cond.fieldLink RX10 40 "MarkDeskModel" "functionTerm" "[I", Cond.fieldLink RX10 43 "MarkDeskModel" "functionBound" "[I", Cond.fieldLink RX10 46 "MarkDeskModel" "taskKind" "[I", Cond.fieldLink RX10 49 "MarkDeskModel" "taskTerm" "[I", Cond.fieldLink RX10 52 "MarkDeskModel" "taskBound" "[I", Cond.fieldLink RX10 55 "MarkDeskModel" "taskValue" "[I", Cond.fieldLink RX10 58 "MarkDeskModel" "taskWord" "[I", Cond.fieldLink RX10 61 "MarkDeskModel" "taskNext" "[I", Cond.fieldLink RX10 64 "MarkDeskModel" "mark" "[I", Cond.fieldLink RX10 67 "MarkDeskModel" "sort" "[I"]
def wsX10_init_r2 : List Cond := [Cond.fieldLink RX10 70 "MarkDeskModel" "standsFor" "[I", Cond.fieldLink RX10 73 "MarkDeskModel" "parts" "[I", Cond.fieldLink RX10 76 "MarkDeskModel" "letter" "[I", Cond.fieldLink RX10 79 "MarkDeskModel" "result" "I", Cond.fieldLink RX10 83 "MarkDeskModel" "pile" "[I", Cond.fieldLink RX10 86 "MarkDeskModel" "pairs" "[I", Cond.arrayClass .boolean, Cond.fieldLink RX10 89 "MarkDeskModel" "seen" "[Z", Cond.fieldLink RX10 93 "MarkDeskModel" "goalTerm" "[I", Cond.fieldLink RX10 96 "MarkDeskModel" "goalBound" "[I", Cond.fieldLink RX10 99 "MarkDeskModel" "goalType" "[I", Cond.fieldLink RX10 102 "MarkDeskModel" "goalFrom" "[I", Cond.fieldLink RX10 105 "MarkDeskModel" "goalTo" "[I", Cond.fieldLink RX10 108 "MarkDeskModel" "placeType" "[I", Cond.fieldLink RX10 111 "MarkDeskModel" "placeFrom" "[I", Cond.fieldLink RX10 114 "MarkDeskModel" "placeNext" "[I"]
def wsX10_init : List Cond := .code yX10_init cX10_init 1 none :: ((wsX10_init_r1 ++ wsX10_init_r2) ++ wsX100)
def wsX10_thrown : List Cond := .code yX10_thrown cX10_thrown 1 (some .int) :: ([.fieldLink RX10 117 "MarkDeskModel" "thrown" "I"] ++ wsX100)
def wsX10_fail : List Cond := .code yX10_fail cX10_fail 2 (some .int) :: ([.fieldLink RX10 117 "MarkDeskModel" "thrown" "I"] ++ wsX100)
def wsX10_in : List Cond := .code yX10_in cX10_in 3 (some .boolean) :: ([])
def wsX10_greater : List Cond := .code yX10_greater cX10_greater 2 (some .int) :: ([])
def wsX10_isTerm : List Cond := .code yX10_isTerm cX10_isTerm 2 (some .boolean) :: ([.fieldLink RX10 120 "MarkDeskModel" "terms" "I", .methodLink RX10 123 yX10_in, .static yX10_in, .initialized RX10, .code yX10_in cX10_in 3 (some .boolean)] ++ wsX100)
def wsX10_hasB : List Cond := .code yX10_hasB cX10_hasB 1 (some .boolean) :: ([.methodLink RX10 123 yX10_in, .static yX10_in, .initialized RX10, .code yX10_in cX10_in 3 (some .boolean)])
def wsX10_hasA : List Cond := .code yX10_hasA cX10_hasA 1 (some .boolean) :: ([.methodLink RX10 123 yX10_in, .static yX10_in, .initialized RX10, .code yX10_in cX10_in 3 (some .boolean)])
def wsX10_fits : List Cond := .code yX10_fits cX10_fits 5 (some .boolean) :: ([.methodLink RX10 123 yX10_in, .static yX10_in, .initialized RX10, .code yX10_in cX10_in 3 (some .boolean), .methodLink RX10 127 yX10_isTerm, .instanceMethod yX10_isTerm, .selects RX10 yX10_isTerm yX10_isTerm, .code yX10_isTerm cX10_isTerm 2 (some .boolean), .fieldLink RX10 120 "MarkDeskModel" "terms" "I", .methodLink RX10 131 yX10_hasB, .static yX10_hasB, .code yX10_hasB cX10_hasB 1 (some .boolean)] ++ wsX100)
def wsX10_needs : List Cond := .code yX10_needs cX10_needs 5 (some .int) :: ([.fieldLink RX10 28 "MarkDeskModel" "need" "[I", .methodLink RX10 145 yX10_greater, .static yX10_greater, .initialized RX10, .code yX10_greater cX10_greater 2 (some .int)] ++ wsX100)
def wsX10_make_r1 : List Cond := [Cond.fieldLink RX10 117 "MarkDeskModel" "thrown" "I", Cond.fieldLink RX10 22 "MarkDeskModel" "height" "[I", Cond.fieldLink RX10 25 "MarkDeskModel" "size" "[I", Cond.fieldLink RX10 120 "MarkDeskModel" "terms" "I", Cond.fieldLink RX10 7 "MarkDeskModel" "kind" "[I", Cond.fieldLink RX10 13 "MarkDeskModel" "wordA" "[I", Cond.fieldLink RX10 16 "MarkDeskModel" "wordB" "[I", Cond.fieldLink RX10 19 "MarkDeskModel" "wordC" "[I", Cond.fieldLink RX10 28 "MarkDeskModel" "need" "[I", Cond.methodLink RX10 123 yX10_in, Cond.static yX10_in, Cond.initialized RX10, Cond.code yX10_in cX10_in 3 (some .boolean), Cond.methodLink RX10 134 yX10_fits, Cond.instanceMethod yX10_fits, Cond.selects RX10 yX10_fits yX10_fits, Cond.code yX10_fits cX10_fits 5 (some .boolean), Cond.methodLink RX10 127 yX10_isTerm, Cond.instanceMethod yX10_isTerm, Cond.selects RX10 yX10_isTerm yX10_isTerm, Cond.code yX10_isTerm cX10_isTerm 2 (some .boolean), Cond.methodLink RX10 131 yX10_hasB, Cond.static yX10_hasB, Cond.code yX10_hasB cX10_hasB 1 (some .boolean)]
def wsX10_make_r2 : List Cond := [Cond.methodLink RX10 138 yX10_fail, Cond.instanceMethod yX10_fail, Cond.selects RX10 yX10_fail yX10_fail, Cond.code yX10_fail cX10_fail 2 (some .int), Cond.methodLink RX10 142 yX10_hasA, Cond.static yX10_hasA, Cond.code yX10_hasA cX10_hasA 1 (some .boolean), Cond.methodLink RX10 145 yX10_greater, Cond.static yX10_greater, Cond.code yX10_greater cX10_greater 2 (some .int), Cond.methodLink RX10 149 yX10_needs, Cond.instanceMethod yX10_needs, Cond.selects RX10 yX10_needs yX10_needs, Cond.code yX10_needs cX10_needs 5 (some .int)]
def wsX10_make : List Cond := .code yX10_make cX10_make 7 (some .int) :: ((wsX10_make_r1 ++ wsX10_make_r2) ++ wsX100)
def wsX10_open : List Cond := .code yX10_open cX10_open 2 (some .int) :: ([.fieldLink RX10 117 "MarkDeskModel" "thrown" "I", .fieldLink RX10 28 "MarkDeskModel" "need" "[I", .methodLink RX10 127 yX10_isTerm, .instanceMethod yX10_isTerm, .selects RX10 yX10_isTerm yX10_isTerm, .initialized RX10, .code yX10_isTerm cX10_isTerm 2 (some .boolean), .fieldLink RX10 120 "MarkDeskModel" "terms" "I", .methodLink RX10 123 yX10_in, .static yX10_in, .code yX10_in cX10_in 3 (some .boolean)] ++ wsX100)
def wsX10_bind : List Cond := .code yX10_bind cX10_bind 4 (some .int) :: ([.fieldLink RX10 153 "MarkDeskModel" "bounds" "I", .fieldLink RX10 31 "MarkDeskModel" "boundKind" "[I", .fieldLink RX10 34 "MarkDeskModel" "boundWord" "[I", .fieldLink RX10 37 "MarkDeskModel" "boundNext" "[I"] ++ wsX100)
def wsX10_then : List Cond := .code yX10_then cX10_then 6 none :: ([.fieldLink RX10 156 "MarkDeskModel" "tasks" "I", .fieldLink RX10 46 "MarkDeskModel" "taskKind" "[I", .fieldLink RX10 49 "MarkDeskModel" "taskTerm" "[I", .fieldLink RX10 52 "MarkDeskModel" "taskBound" "[I", .fieldLink RX10 55 "MarkDeskModel" "taskValue" "[I", .fieldLink RX10 58 "MarkDeskModel" "taskWord" "[I", .fieldLink RX10 61 "MarkDeskModel" "taskNext" "[I", .fieldLink RX10 159 "MarkDeskModel" "now" "I"] ++ wsX100)
def wsX10_give : List Cond := .code yX10_give cX10_give 3 none :: ([.fieldLink RX10 162 "MarkDeskModel" "given" "I", .fieldLink RX10 165 "MarkDeskModel" "word" "I"] ++ wsX100)
def wsX10_closure : List Cond := .code yX10_closure cX10_closure 3 (some .int) :: ([.fieldLink RX10 168 "MarkDeskModel" "functions" "I", .fieldLink RX10 40 "MarkDeskModel" "functionTerm" "[I", .fieldLink RX10 43 "MarkDeskModel" "functionBound" "[I"] ++ wsX100)
def wsX10_begin_r1 : List Cond := [Cond.fieldLink RX10 7 "MarkDeskModel" "kind" "[I", Cond.fieldLink RX10 171 "MarkDeskModel" "taken" "I", Cond.fieldLink RX10 13 "MarkDeskModel" "wordA" "[I", Cond.fieldLink RX10 37 "MarkDeskModel" "boundNext" "[I", Cond.fieldLink RX10 31 "MarkDeskModel" "boundKind" "[I", Cond.fieldLink RX10 34 "MarkDeskModel" "boundWord" "[I", Cond.fieldLink RX10 64 "MarkDeskModel" "mark" "[I", Cond.fieldLink RX10 181 "MarkDeskModel" "marks" "I", Cond.fieldLink RX10 159 "MarkDeskModel" "now" "I", Cond.methodLink RX10 174 yX10_give, Cond.instanceMethod yX10_give, Cond.selects RX10 yX10_give yX10_give, Cond.initialized RX10, Cond.code yX10_give cX10_give 3 none, Cond.fieldLink RX10 162 "MarkDeskModel" "given" "I", Cond.fieldLink RX10 165 "MarkDeskModel" "word" "I", Cond.methodLink RX10 178 yX10_closure, Cond.instanceMethod yX10_closure, Cond.selects RX10 yX10_closure yX10_closure, Cond.code yX10_closure cX10_closure 3 (some .int), Cond.fieldLink RX10 168 "MarkDeskModel" "functions" "I", Cond.fieldLink RX10 40 "MarkDeskModel" "functionTerm" "[I", Cond.fieldLink RX10 43 "MarkDeskModel" "functionBound" "[I", Cond.methodLink RX10 184 yX10_bind]
def wsX10_begin_r2 : List Cond := [Cond.instanceMethod yX10_bind, Cond.selects RX10 yX10_bind yX10_bind, Cond.code yX10_bind cX10_bind 4 (some .int), Cond.fieldLink RX10 153 "MarkDeskModel" "bounds" "I", Cond.methodLink RX10 188 yX10_then, Cond.instanceMethod yX10_then, Cond.selects RX10 yX10_then yX10_then, Cond.code yX10_then cX10_then 6 none, Cond.fieldLink RX10 156 "MarkDeskModel" "tasks" "I", Cond.fieldLink RX10 46 "MarkDeskModel" "taskKind" "[I", Cond.fieldLink RX10 49 "MarkDeskModel" "taskTerm" "[I", Cond.fieldLink RX10 52 "MarkDeskModel" "taskBound" "[I", Cond.fieldLink RX10 55 "MarkDeskModel" "taskValue" "[I", Cond.fieldLink RX10 58 "MarkDeskModel" "taskWord" "[I", Cond.fieldLink RX10 61 "MarkDeskModel" "taskNext" "[I"]
def wsX10_begin : List Cond := .code yX10_begin cX10_begin 6 (some .int) :: ((wsX10_begin_r1 ++ wsX10_begin_r2) ++ wsX100)
def wsX10_call : List Cond := .code yX10_call cX10_call 5 (some .int) :: ([.fieldLink RX10 64 "MarkDeskModel" "mark" "[I", .fieldLink RX10 181 "MarkDeskModel" "marks" "I", .fieldLink RX10 159 "MarkDeskModel" "now" "I", .fieldLink RX10 192 "MarkDeskModel" "stuck" "Z", .fieldLink RX10 40 "MarkDeskModel" "functionTerm" "[I", .fieldLink RX10 7 "MarkDeskModel" "kind" "[I", .fieldLink RX10 43 "MarkDeskModel" "functionBound" "[I", .fieldLink RX10 162 "MarkDeskModel" "given" "I", .fieldLink RX10 165 "MarkDeskModel" "word" "I", .fieldLink RX10 171 "MarkDeskModel" "taken" "I", .fieldLink RX10 13 "MarkDeskModel" "wordA" "[I", .methodLink RX10 184 yX10_bind, .instanceMethod yX10_bind, .selects RX10 yX10_bind yX10_bind, .initialized RX10, .code yX10_bind cX10_bind 4 (some .int), .fieldLink RX10 153 "MarkDeskModel" "bounds" "I", .fieldLink RX10 31 "MarkDeskModel" "boundKind" "[I", .fieldLink RX10 34 "MarkDeskModel" "boundWord" "[I", .fieldLink RX10 37 "MarkDeskModel" "boundNext" "[I"] ++ wsX100)
def wsX10_goOn_r1 : List Cond := [Cond.fieldLink RX10 159 "MarkDeskModel" "now" "I", Cond.fieldLink RX10 49 "MarkDeskModel" "taskTerm" "[I", Cond.fieldLink RX10 46 "MarkDeskModel" "taskKind" "[I", Cond.fieldLink RX10 55 "MarkDeskModel" "taskValue" "[I", Cond.fieldLink RX10 61 "MarkDeskModel" "taskNext" "[I", Cond.fieldLink RX10 52 "MarkDeskModel" "taskBound" "[I", Cond.fieldLink RX10 171 "MarkDeskModel" "taken" "I", Cond.fieldLink RX10 162 "MarkDeskModel" "given" "I", Cond.fieldLink RX10 192 "MarkDeskModel" "stuck" "Z", Cond.fieldLink RX10 165 "MarkDeskModel" "word" "I", Cond.fieldLink RX10 16 "MarkDeskModel" "wordB" "[I", Cond.fieldLink RX10 19 "MarkDeskModel" "wordC" "[I", Cond.fieldLink RX10 58 "MarkDeskModel" "taskWord" "[I", Cond.methodLink RX10 184 yX10_bind, Cond.instanceMethod yX10_bind, Cond.selects RX10 yX10_bind yX10_bind, Cond.initialized RX10, Cond.code yX10_bind cX10_bind 4 (some .int), Cond.fieldLink RX10 153 "MarkDeskModel" "bounds" "I", Cond.fieldLink RX10 31 "MarkDeskModel" "boundKind" "[I", Cond.fieldLink RX10 34 "MarkDeskModel" "boundWord" "[I", Cond.fieldLink RX10 37 "MarkDeskModel" "boundNext" "[I", Cond.methodLink RX10 188 yX10_then, Cond.instanceMethod yX10_then]
def wsX10_goOn_r2 : List Cond := [Cond.selects RX10 yX10_then yX10_then, Cond.code yX10_then cX10_then 6 none, Cond.fieldLink RX10 156 "MarkDeskModel" "tasks" "I", Cond.methodLink RX10 196 yX10_call, Cond.instanceMethod yX10_call, Cond.selects RX10 yX10_call yX10_call, Cond.code yX10_call cX10_call 5 (some .int), Cond.fieldLink RX10 64 "MarkDeskModel" "mark" "[I", Cond.fieldLink RX10 181 "MarkDeskModel" "marks" "I", Cond.fieldLink RX10 40 "MarkDeskModel" "functionTerm" "[I", Cond.fieldLink RX10 7 "MarkDeskModel" "kind" "[I", Cond.fieldLink RX10 43 "MarkDeskModel" "functionBound" "[I", Cond.fieldLink RX10 13 "MarkDeskModel" "wordA" "[I", Cond.methodLink RX10 174 yX10_give, Cond.instanceMethod yX10_give, Cond.selects RX10 yX10_give yX10_give, Cond.code yX10_give cX10_give 3 none]
def wsX10_goOn : List Cond := .code yX10_goOn cX10_goOn 5 (some .int) :: ((wsX10_goOn_r1 ++ wsX10_goOn_r2) ++ wsX100)
def wsX10_run_r1 : List Cond := [Cond.fieldLink RX10 153 "MarkDeskModel" "bounds" "I", Cond.fieldLink RX10 168 "MarkDeskModel" "functions" "I", Cond.fieldLink RX10 156 "MarkDeskModel" "tasks" "I", Cond.fieldLink RX10 181 "MarkDeskModel" "marks" "I", Cond.fieldLink RX10 159 "MarkDeskModel" "now" "I", Cond.fieldLink RX10 192 "MarkDeskModel" "stuck" "Z", Cond.fieldLink RX10 171 "MarkDeskModel" "taken" "I", Cond.fieldLink RX10 64 "MarkDeskModel" "mark" "[I", Cond.methodLink RX10 199 yX10_begin, Cond.instanceMethod yX10_begin, Cond.selects RX10 yX10_begin yX10_begin, Cond.initialized RX10, Cond.code yX10_begin cX10_begin 6 (some .int), Cond.fieldLink RX10 7 "MarkDeskModel" "kind" "[I", Cond.fieldLink RX10 13 "MarkDeskModel" "wordA" "[I", Cond.fieldLink RX10 37 "MarkDeskModel" "boundNext" "[I", Cond.fieldLink RX10 31 "MarkDeskModel" "boundKind" "[I", Cond.fieldLink RX10 34 "MarkDeskModel" "boundWord" "[I", Cond.methodLink RX10 174 yX10_give, Cond.instanceMethod yX10_give, Cond.selects RX10 yX10_give yX10_give, Cond.code yX10_give cX10_give 3 none, Cond.fieldLink RX10 162 "MarkDeskModel" "given" "I", Cond.fieldLink RX10 165 "MarkDeskModel" "word" "I"]
def wsX10_run_r2 : List Cond := [Cond.methodLink RX10 178 yX10_closure, Cond.instanceMethod yX10_closure, Cond.selects RX10 yX10_closure yX10_closure, Cond.code yX10_closure cX10_closure 3 (some .int), Cond.fieldLink RX10 40 "MarkDeskModel" "functionTerm" "[I", Cond.fieldLink RX10 43 "MarkDeskModel" "functionBound" "[I", Cond.methodLink RX10 184 yX10_bind, Cond.instanceMethod yX10_bind, Cond.selects RX10 yX10_bind yX10_bind, Cond.code yX10_bind cX10_bind 4 (some .int), Cond.methodLink RX10 188 yX10_then, Cond.instanceMethod yX10_then, Cond.selects RX10 yX10_then yX10_then, Cond.code yX10_then cX10_then 6 none, Cond.fieldLink RX10 46 "MarkDeskModel" "taskKind" "[I", Cond.fieldLink RX10 49 "MarkDeskModel" "taskTerm" "[I", Cond.fieldLink RX10 52 "MarkDeskModel" "taskBound" "[I", Cond.fieldLink RX10 55 "MarkDeskModel" "taskValue" "[I", Cond.fieldLink RX10 58 "MarkDeskModel" "taskWord" "[I", Cond.fieldLink RX10 61 "MarkDeskModel" "taskNext" "[I", Cond.methodLink RX10 202 yX10_goOn, Cond.instanceMethod yX10_goOn, Cond.selects RX10 yX10_goOn yX10_goOn, Cond.code yX10_goOn cX10_goOn 5 (some .int)]
def wsX10_run_r3 : List Cond := [Cond.fieldLink RX10 16 "MarkDeskModel" "wordB" "[I", Cond.fieldLink RX10 19 "MarkDeskModel" "wordC" "[I", Cond.methodLink RX10 196 yX10_call, Cond.instanceMethod yX10_call, Cond.selects RX10 yX10_call yX10_call, Cond.code yX10_call cX10_call 5 (some .int)]
def wsX10_run : List Cond := .code yX10_run cX10_run 6 (some .int) :: ((wsX10_run_r1 ++ (wsX10_run_r2 ++ wsX10_run_r3)) ++ wsX100)
def wsX10_work_r1 : List Cond := [Cond.fieldLink RX10 117 "MarkDeskModel" "thrown" "I", Cond.fieldLink RX10 28 "MarkDeskModel" "need" "[I", Cond.fieldLink RX10 209 "MarkDeskModel" "stucks" "I", Cond.fieldLink RX10 212 "MarkDeskModel" "mores" "I", Cond.fieldLink RX10 162 "MarkDeskModel" "given" "I", Cond.fieldLink RX10 215 "MarkDeskModel" "latestKind" "I", Cond.fieldLink RX10 165 "MarkDeskModel" "word" "I", Cond.fieldLink RX10 218 "MarkDeskModel" "latestWord" "I", Cond.fieldLink RX10 221 "MarkDeskModel" "latestSteps" "I", Cond.fieldLink RX10 224 "MarkDeskModel" "found" "I", Cond.fieldLink RX10 227 "MarkDeskModel" "allSteps" "I", Cond.methodLink RX10 127 yX10_isTerm, Cond.instanceMethod yX10_isTerm, Cond.selects RX10 yX10_isTerm yX10_isTerm, Cond.initialized RX10, Cond.code yX10_isTerm cX10_isTerm 2 (some .boolean), Cond.fieldLink RX10 120 "MarkDeskModel" "terms" "I", Cond.methodLink RX10 123 yX10_in, Cond.static yX10_in, Cond.code yX10_in cX10_in 3 (some .boolean), Cond.methodLink RX10 138 yX10_fail, Cond.instanceMethod yX10_fail, Cond.selects RX10 yX10_fail yX10_fail, Cond.code yX10_fail cX10_fail 2 (some .int)]
def wsX10_work_r2 : List Cond := [Cond.methodLink RX10 206 yX10_run, Cond.instanceMethod yX10_run, Cond.selects RX10 yX10_run yX10_run, Cond.code yX10_run cX10_run 6 (some .int), Cond.fieldLink RX10 153 "MarkDeskModel" "bounds" "I", Cond.fieldLink RX10 168 "MarkDeskModel" "functions" "I", Cond.fieldLink RX10 156 "MarkDeskModel" "tasks" "I", Cond.fieldLink RX10 181 "MarkDeskModel" "marks" "I", Cond.fieldLink RX10 159 "MarkDeskModel" "now" "I", Cond.fieldLink RX10 192 "MarkDeskModel" "stuck" "Z", Cond.fieldLink RX10 171 "MarkDeskModel" "taken" "I", Cond.fieldLink RX10 64 "MarkDeskModel" "mark" "[I", Cond.methodLink RX10 199 yX10_begin, Cond.instanceMethod yX10_begin, Cond.selects RX10 yX10_begin yX10_begin, Cond.code yX10_begin cX10_begin 6 (some .int), Cond.fieldLink RX10 7 "MarkDeskModel" "kind" "[I", Cond.fieldLink RX10 13 "MarkDeskModel" "wordA" "[I", Cond.fieldLink RX10 37 "MarkDeskModel" "boundNext" "[I", Cond.fieldLink RX10 31 "MarkDeskModel" "boundKind" "[I", Cond.fieldLink RX10 34 "MarkDeskModel" "boundWord" "[I", Cond.methodLink RX10 174 yX10_give, Cond.instanceMethod yX10_give, Cond.selects RX10 yX10_give yX10_give]
def wsX10_work_r3 : List Cond := [Cond.code yX10_give cX10_give 3 none, Cond.methodLink RX10 178 yX10_closure, Cond.instanceMethod yX10_closure, Cond.selects RX10 yX10_closure yX10_closure, Cond.code yX10_closure cX10_closure 3 (some .int), Cond.fieldLink RX10 40 "MarkDeskModel" "functionTerm" "[I", Cond.fieldLink RX10 43 "MarkDeskModel" "functionBound" "[I", Cond.methodLink RX10 184 yX10_bind, Cond.instanceMethod yX10_bind, Cond.selects RX10 yX10_bind yX10_bind, Cond.code yX10_bind cX10_bind 4 (some .int), Cond.methodLink RX10 188 yX10_then, Cond.instanceMethod yX10_then, Cond.selects RX10 yX10_then yX10_then, Cond.code yX10_then cX10_then 6 none, Cond.fieldLink RX10 46 "MarkDeskModel" "taskKind" "[I", Cond.fieldLink RX10 49 "MarkDeskModel" "taskTerm" "[I", Cond.fieldLink RX10 52 "MarkDeskModel" "taskBound" "[I", Cond.fieldLink RX10 55 "MarkDeskModel" "taskValue" "[I", Cond.fieldLink RX10 58 "MarkDeskModel" "taskWord" "[I", Cond.fieldLink RX10 61 "MarkDeskModel" "taskNext" "[I", Cond.methodLink RX10 202 yX10_goOn, Cond.instanceMethod yX10_goOn, Cond.selects RX10 yX10_goOn yX10_goOn]
def wsX10_work_r4 : List Cond := [Cond.code yX10_goOn cX10_goOn 5 (some .int), Cond.fieldLink RX10 16 "MarkDeskModel" "wordB" "[I", Cond.fieldLink RX10 19 "MarkDeskModel" "wordC" "[I", Cond.methodLink RX10 196 yX10_call, Cond.instanceMethod yX10_call, Cond.selects RX10 yX10_call yX10_call, Cond.code yX10_call cX10_call 5 (some .int)]
def wsX10_work : List Cond := .code yX10_work cX10_work 4 (some .int) :: ((wsX10_work_r1 ++ (wsX10_work_r2 ++ (wsX10_work_r3 ++ wsX10_work_r4))) ++ wsX100)
def wsX10_value : List Cond := .code yX10_value cX10_value 1 (some .int) :: ([.fieldLink RX10 117 "MarkDeskModel" "thrown" "I", .fieldLink RX10 224 "MarkDeskModel" "found" "I", .fieldLink RX10 215 "MarkDeskModel" "latestKind" "I", .fieldLink RX10 218 "MarkDeskModel" "latestWord" "I"] ++ wsX100)
def wsX10_steps : List Cond := .code yX10_steps cX10_steps 1 (some .int) :: ([.fieldLink RX10 117 "MarkDeskModel" "thrown" "I", .fieldLink RX10 221 "MarkDeskModel" "latestSteps" "I"] ++ wsX100)
def wsX10_cell : List Cond := .code yX10_cell cX10_cell 3 (some .int) :: ([.fieldLink RX10 230 "MarkDeskModel" "bank" "I", .fieldLink RX10 233 "MarkDeskModel" "cells" "I", .fieldLink RX10 67 "MarkDeskModel" "sort" "[I", .fieldLink RX10 70 "MarkDeskModel" "standsFor" "[I"] ++ wsX100)
def wsX10_letterCell : List Cond := .code yX10_letterCell cX10_letterCell 1 (some .int) :: ([.methodLink RX10 236 yX10_cell, .instanceMethod yX10_cell, .selects RX10 yX10_cell yX10_cell, .initialized RX10, .code yX10_cell cX10_cell 3 (some .int), .fieldLink RX10 230 "MarkDeskModel" "bank" "I", .fieldLink RX10 233 "MarkDeskModel" "cells" "I", .fieldLink RX10 67 "MarkDeskModel" "sort" "[I", .fieldLink RX10 70 "MarkDeskModel" "standsFor" "[I"] ++ wsX100)
def wsX10_functionCell : List Cond := .code yX10_functionCell cX10_functionCell 6 (some .int) :: ([.fieldLink RX10 73 "MarkDeskModel" "parts" "[I", .methodLink RX10 236 yX10_cell, .instanceMethod yX10_cell, .selects RX10 yX10_cell yX10_cell, .initialized RX10, .code yX10_cell cX10_cell 3 (some .int), .fieldLink RX10 230 "MarkDeskModel" "bank" "I", .fieldLink RX10 233 "MarkDeskModel" "cells" "I", .fieldLink RX10 67 "MarkDeskModel" "sort" "[I", .fieldLink RX10 70 "MarkDeskModel" "standsFor" "[I"] ++ wsX100)
def wsX10_end : List Cond := .code yX10_end cX10_end 3 (some .int) :: ([.fieldLink RX10 70 "MarkDeskModel" "standsFor" "[I"] ++ wsX100)
def wsX10_contains : List Cond := .code yX10_contains cX10_contains 7 (some .boolean) :: ([.fieldLink RX10 230 "MarkDeskModel" "bank" "I", .fieldLink RX10 233 "MarkDeskModel" "cells" "I", .fieldLink RX10 89 "MarkDeskModel" "seen" "[Z", .fieldLink RX10 83 "MarkDeskModel" "pile" "[I", .fieldLink RX10 67 "MarkDeskModel" "sort" "[I", .fieldLink RX10 73 "MarkDeskModel" "parts" "[I", .methodLink RX10 239 yX10_end, .instanceMethod yX10_end, .selects RX10 yX10_end yX10_end, .initialized RX10, .code yX10_end cX10_end 3 (some .int), .fieldLink RX10 70 "MarkDeskModel" "standsFor" "[I"] ++ wsX100)
def wsX10_equal : List Cond := .code yX10_equal cX10_equal 8 none :: ([.fieldLink RX10 86 "MarkDeskModel" "pairs" "[I", .fieldLink RX10 242 "MarkDeskModel" "bad" "Z", .fieldLink RX10 67 "MarkDeskModel" "sort" "[I", .fieldLink RX10 70 "MarkDeskModel" "standsFor" "[I", .fieldLink RX10 73 "MarkDeskModel" "parts" "[I", .methodLink RX10 239 yX10_end, .instanceMethod yX10_end, .selects RX10 yX10_end yX10_end, .initialized RX10, .code yX10_end cX10_end 3 (some .int), .methodLink RX10 245 yX10_contains, .instanceMethod yX10_contains, .selects RX10 yX10_contains yX10_contains, .code yX10_contains cX10_contains 7 (some .boolean), .fieldLink RX10 230 "MarkDeskModel" "bank" "I", .fieldLink RX10 233 "MarkDeskModel" "cells" "I", .fieldLink RX10 89 "MarkDeskModel" "seen" "[Z", .fieldLink RX10 83 "MarkDeskModel" "pile" "[I"] ++ wsX100)
def wsX10_endless : List Cond := .code yX10_endless cX10_endless 6 (some .boolean) :: ([.fieldLink RX10 230 "MarkDeskModel" "bank" "I", .fieldLink RX10 233 "MarkDeskModel" "cells" "I", .fieldLink RX10 89 "MarkDeskModel" "seen" "[Z", .fieldLink RX10 67 "MarkDeskModel" "sort" "[I", .fieldLink RX10 70 "MarkDeskModel" "standsFor" "[I", .fieldLink RX10 73 "MarkDeskModel" "parts" "[I", .methodLink RX10 239 yX10_end, .instanceMethod yX10_end, .selects RX10 yX10_end yX10_end, .initialized RX10, .code yX10_end cX10_end 3 (some .int)] ++ wsX100)
def wsX10_goal : List Cond := .code yX10_goal cX10_goal 6 none :: ([.fieldLink RX10 93 "MarkDeskModel" "goalTerm" "[I", .fieldLink RX10 249 "MarkDeskModel" "goals" "I", .fieldLink RX10 96 "MarkDeskModel" "goalBound" "[I", .fieldLink RX10 99 "MarkDeskModel" "goalType" "[I", .fieldLink RX10 102 "MarkDeskModel" "goalFrom" "[I", .fieldLink RX10 105 "MarkDeskModel" "goalTo" "[I"] ++ wsX100)
def wsX10_place : List Cond := .code yX10_place cX10_place 4 (some .int) :: ([.fieldLink RX10 252 "MarkDeskModel" "places" "I", .fieldLink RX10 108 "MarkDeskModel" "placeType" "[I", .fieldLink RX10 111 "MarkDeskModel" "placeFrom" "[I", .fieldLink RX10 114 "MarkDeskModel" "placeNext" "[I"] ++ wsX100)
def wsX10_variable_r1 : List Cond := [Cond.fieldLink RX10 114 "MarkDeskModel" "placeNext" "[I", Cond.fieldLink RX10 111 "MarkDeskModel" "placeFrom" "[I", Cond.fieldLink RX10 108 "MarkDeskModel" "placeType" "[I", Cond.methodLink RX10 255 yX10_equal, Cond.instanceMethod yX10_equal, Cond.selects RX10 yX10_equal yX10_equal, Cond.initialized RX10, Cond.code yX10_equal cX10_equal 8 none, Cond.fieldLink RX10 86 "MarkDeskModel" "pairs" "[I", Cond.fieldLink RX10 242 "MarkDeskModel" "bad" "Z", Cond.fieldLink RX10 67 "MarkDeskModel" "sort" "[I", Cond.fieldLink RX10 70 "MarkDeskModel" "standsFor" "[I", Cond.fieldLink RX10 73 "MarkDeskModel" "parts" "[I", Cond.methodLink RX10 239 yX10_end, Cond.instanceMethod yX10_end, Cond.selects RX10 yX10_end yX10_end, Cond.code yX10_end cX10_end 3 (some .int), Cond.methodLink RX10 245 yX10_contains, Cond.instanceMethod yX10_contains, Cond.selects RX10 yX10_contains yX10_contains, Cond.code yX10_contains cX10_contains 7 (some .boolean), Cond.fieldLink RX10 230 "MarkDeskModel" "bank" "I", Cond.fieldLink RX10 233 "MarkDeskModel" "cells" "I", Cond.fieldLink RX10 89 "MarkDeskModel" "seen" "[Z"]
def wsX10_variable_r2 : List Cond := [Cond.fieldLink RX10 83 "MarkDeskModel" "pile" "[I", Cond.methodLink RX10 258 yX10_letterCell, Cond.instanceMethod yX10_letterCell, Cond.selects RX10 yX10_letterCell yX10_letterCell, Cond.code yX10_letterCell cX10_letterCell 1 (some .int), Cond.methodLink RX10 236 yX10_cell, Cond.instanceMethod yX10_cell, Cond.selects RX10 yX10_cell yX10_cell, Cond.code yX10_cell cX10_cell 3 (some .int), Cond.methodLink RX10 261 yX10_functionCell, Cond.instanceMethod yX10_functionCell, Cond.selects RX10 yX10_functionCell yX10_functionCell, Cond.code yX10_functionCell cX10_functionCell 6 (some .int)]
def wsX10_variable : List Cond := .code yX10_variable cX10_variable 6 none :: ((wsX10_variable_r1 ++ wsX10_variable_r2) ++ wsX100)
def wsX10_function_r1 : List Cond := [Cond.fieldLink RX10 13 "MarkDeskModel" "wordA" "[I", Cond.methodLink RX10 258 yX10_letterCell, Cond.instanceMethod yX10_letterCell, Cond.selects RX10 yX10_letterCell yX10_letterCell, Cond.initialized RX10, Cond.code yX10_letterCell cX10_letterCell 1 (some .int), Cond.methodLink RX10 236 yX10_cell, Cond.instanceMethod yX10_cell, Cond.selects RX10 yX10_cell yX10_cell, Cond.code yX10_cell cX10_cell 3 (some .int), Cond.fieldLink RX10 230 "MarkDeskModel" "bank" "I", Cond.fieldLink RX10 233 "MarkDeskModel" "cells" "I", Cond.fieldLink RX10 67 "MarkDeskModel" "sort" "[I", Cond.fieldLink RX10 70 "MarkDeskModel" "standsFor" "[I", Cond.methodLink RX10 261 yX10_functionCell, Cond.instanceMethod yX10_functionCell, Cond.selects RX10 yX10_functionCell yX10_functionCell, Cond.code yX10_functionCell cX10_functionCell 6 (some .int), Cond.fieldLink RX10 73 "MarkDeskModel" "parts" "[I", Cond.methodLink RX10 255 yX10_equal, Cond.instanceMethod yX10_equal, Cond.selects RX10 yX10_equal yX10_equal, Cond.code yX10_equal cX10_equal 8 none, Cond.fieldLink RX10 86 "MarkDeskModel" "pairs" "[I"]
def wsX10_function_r2 : List Cond := [Cond.fieldLink RX10 242 "MarkDeskModel" "bad" "Z", Cond.methodLink RX10 239 yX10_end, Cond.instanceMethod yX10_end, Cond.selects RX10 yX10_end yX10_end, Cond.code yX10_end cX10_end 3 (some .int), Cond.methodLink RX10 245 yX10_contains, Cond.instanceMethod yX10_contains, Cond.selects RX10 yX10_contains yX10_contains, Cond.code yX10_contains cX10_contains 7 (some .boolean), Cond.fieldLink RX10 89 "MarkDeskModel" "seen" "[Z", Cond.fieldLink RX10 83 "MarkDeskModel" "pile" "[I", Cond.methodLink RX10 264 yX10_place, Cond.instanceMethod yX10_place, Cond.selects RX10 yX10_place yX10_place, Cond.code yX10_place cX10_place 4 (some .int), Cond.fieldLink RX10 252 "MarkDeskModel" "places" "I", Cond.fieldLink RX10 108 "MarkDeskModel" "placeType" "[I", Cond.fieldLink RX10 111 "MarkDeskModel" "placeFrom" "[I", Cond.fieldLink RX10 114 "MarkDeskModel" "placeNext" "[I", Cond.methodLink RX10 267 yX10_goal, Cond.instanceMethod yX10_goal, Cond.selects RX10 yX10_goal yX10_goal, Cond.code yX10_goal cX10_goal 6 none, Cond.fieldLink RX10 93 "MarkDeskModel" "goalTerm" "[I"]
def wsX10_function_r3 : List Cond := [Cond.fieldLink RX10 249 "MarkDeskModel" "goals" "I", Cond.fieldLink RX10 96 "MarkDeskModel" "goalBound" "[I", Cond.fieldLink RX10 99 "MarkDeskModel" "goalType" "[I", Cond.fieldLink RX10 102 "MarkDeskModel" "goalFrom" "[I", Cond.fieldLink RX10 105 "MarkDeskModel" "goalTo" "[I"]
def wsX10_function : List Cond := .code yX10_function cX10_function 11 none :: ((wsX10_function_r1 ++ (wsX10_function_r2 ++ wsX10_function_r3)) ++ wsX100)
def wsX10_solveTwo_r1 : List Cond := [Cond.fieldLink RX10 99 "MarkDeskModel" "goalType" "[I", Cond.fieldLink RX10 249 "MarkDeskModel" "goals" "I", Cond.fieldLink RX10 102 "MarkDeskModel" "goalFrom" "[I", Cond.fieldLink RX10 105 "MarkDeskModel" "goalTo" "[I", Cond.fieldLink RX10 13 "MarkDeskModel" "wordA" "[I", Cond.fieldLink RX10 16 "MarkDeskModel" "wordB" "[I", Cond.fieldLink RX10 19 "MarkDeskModel" "wordC" "[I", Cond.methodLink RX10 258 yX10_letterCell, Cond.instanceMethod yX10_letterCell, Cond.selects RX10 yX10_letterCell yX10_letterCell, Cond.initialized RX10, Cond.code yX10_letterCell cX10_letterCell 1 (some .int), Cond.methodLink RX10 236 yX10_cell, Cond.instanceMethod yX10_cell, Cond.selects RX10 yX10_cell yX10_cell, Cond.code yX10_cell cX10_cell 3 (some .int), Cond.fieldLink RX10 230 "MarkDeskModel" "bank" "I", Cond.fieldLink RX10 233 "MarkDeskModel" "cells" "I", Cond.fieldLink RX10 67 "MarkDeskModel" "sort" "[I", Cond.fieldLink RX10 70 "MarkDeskModel" "standsFor" "[I", Cond.methodLink RX10 261 yX10_functionCell, Cond.instanceMethod yX10_functionCell, Cond.selects RX10 yX10_functionCell yX10_functionCell, Cond.code yX10_functionCell cX10_functionCell 6 (some .int)]
def wsX10_solveTwo_r2 : List Cond := [Cond.fieldLink RX10 73 "MarkDeskModel" "parts" "[I", Cond.methodLink RX10 267 yX10_goal, Cond.instanceMethod yX10_goal, Cond.selects RX10 yX10_goal yX10_goal, Cond.code yX10_goal cX10_goal 6 none, Cond.fieldLink RX10 93 "MarkDeskModel" "goalTerm" "[I", Cond.fieldLink RX10 96 "MarkDeskModel" "goalBound" "[I", Cond.methodLink RX10 264 yX10_place, Cond.instanceMethod yX10_place, Cond.selects RX10 yX10_place yX10_place, Cond.code yX10_place cX10_place 4 (some .int), Cond.fieldLink RX10 252 "MarkDeskModel" "places" "I", Cond.fieldLink RX10 108 "MarkDeskModel" "placeType" "[I", Cond.fieldLink RX10 111 "MarkDeskModel" "placeFrom" "[I", Cond.fieldLink RX10 114 "MarkDeskModel" "placeNext" "[I", Cond.methodLink RX10 255 yX10_equal, Cond.instanceMethod yX10_equal, Cond.selects RX10 yX10_equal yX10_equal, Cond.code yX10_equal cX10_equal 8 none, Cond.fieldLink RX10 86 "MarkDeskModel" "pairs" "[I", Cond.fieldLink RX10 242 "MarkDeskModel" "bad" "Z", Cond.methodLink RX10 239 yX10_end, Cond.instanceMethod yX10_end, Cond.selects RX10 yX10_end yX10_end]
def wsX10_solveTwo_r3 : List Cond := [Cond.code yX10_end cX10_end 3 (some .int), Cond.methodLink RX10 245 yX10_contains, Cond.instanceMethod yX10_contains, Cond.selects RX10 yX10_contains yX10_contains, Cond.code yX10_contains cX10_contains 7 (some .boolean), Cond.fieldLink RX10 89 "MarkDeskModel" "seen" "[Z", Cond.fieldLink RX10 83 "MarkDeskModel" "pile" "[I"]
def wsX10_solveTwo : List Cond := .code yX10_solveTwo cX10_solveTwo 10 none :: ((wsX10_solveTwo_r1 ++ (wsX10_solveTwo_r2 ++ wsX10_solveTwo_r3)) ++ wsX100)
def wsX10_solve_r1 : List Cond := [Cond.fieldLink RX10 249 "MarkDeskModel" "goals" "I", Cond.fieldLink RX10 93 "MarkDeskModel" "goalTerm" "[I", Cond.fieldLink RX10 96 "MarkDeskModel" "goalBound" "[I", Cond.fieldLink RX10 99 "MarkDeskModel" "goalType" "[I", Cond.fieldLink RX10 102 "MarkDeskModel" "goalFrom" "[I", Cond.fieldLink RX10 105 "MarkDeskModel" "goalTo" "[I", Cond.fieldLink RX10 7 "MarkDeskModel" "kind" "[I", Cond.fieldLink RX10 13 "MarkDeskModel" "wordA" "[I", Cond.methodLink RX10 123 yX10_in, Cond.static yX10_in, Cond.initialized RX10, Cond.code yX10_in cX10_in 3 (some .boolean), Cond.methodLink RX10 255 yX10_equal, Cond.instanceMethod yX10_equal, Cond.selects RX10 yX10_equal yX10_equal, Cond.code yX10_equal cX10_equal 8 none, Cond.fieldLink RX10 86 "MarkDeskModel" "pairs" "[I", Cond.fieldLink RX10 242 "MarkDeskModel" "bad" "Z", Cond.fieldLink RX10 67 "MarkDeskModel" "sort" "[I", Cond.fieldLink RX10 70 "MarkDeskModel" "standsFor" "[I", Cond.fieldLink RX10 73 "MarkDeskModel" "parts" "[I", Cond.methodLink RX10 239 yX10_end, Cond.instanceMethod yX10_end, Cond.selects RX10 yX10_end yX10_end]
def wsX10_solve_r2 : List Cond := [Cond.code yX10_end cX10_end 3 (some .int), Cond.methodLink RX10 245 yX10_contains, Cond.instanceMethod yX10_contains, Cond.selects RX10 yX10_contains yX10_contains, Cond.code yX10_contains cX10_contains 7 (some .boolean), Cond.fieldLink RX10 230 "MarkDeskModel" "bank" "I", Cond.fieldLink RX10 233 "MarkDeskModel" "cells" "I", Cond.fieldLink RX10 89 "MarkDeskModel" "seen" "[Z", Cond.fieldLink RX10 83 "MarkDeskModel" "pile" "[I", Cond.methodLink RX10 236 yX10_cell, Cond.instanceMethod yX10_cell, Cond.selects RX10 yX10_cell yX10_cell, Cond.code yX10_cell cX10_cell 3 (some .int), Cond.methodLink RX10 270 yX10_variable, Cond.instanceMethod yX10_variable, Cond.selects RX10 yX10_variable yX10_variable, Cond.code yX10_variable cX10_variable 6 none, Cond.fieldLink RX10 114 "MarkDeskModel" "placeNext" "[I", Cond.fieldLink RX10 111 "MarkDeskModel" "placeFrom" "[I", Cond.fieldLink RX10 108 "MarkDeskModel" "placeType" "[I", Cond.methodLink RX10 258 yX10_letterCell, Cond.instanceMethod yX10_letterCell, Cond.selects RX10 yX10_letterCell yX10_letterCell, Cond.code yX10_letterCell cX10_letterCell 1 (some .int)]
def wsX10_solve_r3 : List Cond := [Cond.methodLink RX10 261 yX10_functionCell, Cond.instanceMethod yX10_functionCell, Cond.selects RX10 yX10_functionCell yX10_functionCell, Cond.code yX10_functionCell cX10_functionCell 6 (some .int), Cond.methodLink RX10 274 yX10_function, Cond.instanceMethod yX10_function, Cond.selects RX10 yX10_function yX10_function, Cond.code yX10_function cX10_function 11 none, Cond.methodLink RX10 264 yX10_place, Cond.instanceMethod yX10_place, Cond.selects RX10 yX10_place yX10_place, Cond.code yX10_place cX10_place 4 (some .int), Cond.fieldLink RX10 252 "MarkDeskModel" "places" "I", Cond.methodLink RX10 267 yX10_goal, Cond.instanceMethod yX10_goal, Cond.selects RX10 yX10_goal yX10_goal, Cond.code yX10_goal cX10_goal 6 none, Cond.methodLink RX10 278 yX10_solveTwo, Cond.instanceMethod yX10_solveTwo, Cond.selects RX10 yX10_solveTwo yX10_solveTwo, Cond.code yX10_solveTwo cX10_solveTwo 10 none, Cond.fieldLink RX10 16 "MarkDeskModel" "wordB" "[I", Cond.fieldLink RX10 19 "MarkDeskModel" "wordC" "[I"]
def wsX10_solve : List Cond := .code yX10_solve cX10_solve 9 none :: ((wsX10_solve_r1 ++ (wsX10_solve_r2 ++ wsX10_solve_r3)) ++ wsX100)
def wsX10_numberLetters : List Cond := .code yX10_numberLetters cX10_numberLetters 7 none :: ([.fieldLink RX10 230 "MarkDeskModel" "bank" "I", .fieldLink RX10 233 "MarkDeskModel" "cells" "I", .fieldLink RX10 89 "MarkDeskModel" "seen" "[Z", .fieldLink RX10 83 "MarkDeskModel" "pile" "[I", .fieldLink RX10 67 "MarkDeskModel" "sort" "[I", .fieldLink RX10 76 "MarkDeskModel" "letter" "[I", .fieldLink RX10 73 "MarkDeskModel" "parts" "[I", .methodLink RX10 239 yX10_end, .instanceMethod yX10_end, .selects RX10 yX10_end yX10_end, .initialized RX10, .code yX10_end cX10_end 3 (some .int), .fieldLink RX10 70 "MarkDeskModel" "standsFor" "[I"] ++ wsX100)
def wsX10_told : List Cond := .code yX10_told cX10_told 2 (some .int) :: ([])
def wsX10_type_r1 : List Cond := [Cond.fieldLink RX10 117 "MarkDeskModel" "thrown" "I", Cond.fieldLink RX10 28 "MarkDeskModel" "need" "[I", Cond.fieldLink RX10 233 "MarkDeskModel" "cells" "I", Cond.fieldLink RX10 249 "MarkDeskModel" "goals" "I", Cond.fieldLink RX10 252 "MarkDeskModel" "places" "I", Cond.fieldLink RX10 242 "MarkDeskModel" "bad" "Z", Cond.fieldLink RX10 288 "MarkDeskModel" "untyped" "I", Cond.fieldLink RX10 230 "MarkDeskModel" "bank" "I", Cond.fieldLink RX10 79 "MarkDeskModel" "result" "I", Cond.fieldLink RX10 295 "MarkDeskModel" "typed" "I", Cond.fieldLink RX10 67 "MarkDeskModel" "sort" "[I", Cond.methodLink RX10 127 yX10_isTerm, Cond.instanceMethod yX10_isTerm, Cond.selects RX10 yX10_isTerm yX10_isTerm, Cond.initialized RX10, Cond.code yX10_isTerm cX10_isTerm 2 (some .boolean), Cond.fieldLink RX10 120 "MarkDeskModel" "terms" "I", Cond.methodLink RX10 123 yX10_in, Cond.static yX10_in, Cond.code yX10_in cX10_in 3 (some .boolean), Cond.methodLink RX10 138 yX10_fail, Cond.instanceMethod yX10_fail, Cond.selects RX10 yX10_fail yX10_fail, Cond.code yX10_fail cX10_fail 2 (some .int)]
def wsX10_type_r2 : List Cond := [Cond.methodLink RX10 258 yX10_letterCell, Cond.instanceMethod yX10_letterCell, Cond.selects RX10 yX10_letterCell yX10_letterCell, Cond.code yX10_letterCell cX10_letterCell 1 (some .int), Cond.methodLink RX10 236 yX10_cell, Cond.instanceMethod yX10_cell, Cond.selects RX10 yX10_cell yX10_cell, Cond.code yX10_cell cX10_cell 3 (some .int), Cond.fieldLink RX10 70 "MarkDeskModel" "standsFor" "[I", Cond.methodLink RX10 267 yX10_goal, Cond.instanceMethod yX10_goal, Cond.selects RX10 yX10_goal yX10_goal, Cond.code yX10_goal cX10_goal 6 none, Cond.fieldLink RX10 93 "MarkDeskModel" "goalTerm" "[I", Cond.fieldLink RX10 96 "MarkDeskModel" "goalBound" "[I", Cond.fieldLink RX10 99 "MarkDeskModel" "goalType" "[I", Cond.fieldLink RX10 102 "MarkDeskModel" "goalFrom" "[I", Cond.fieldLink RX10 105 "MarkDeskModel" "goalTo" "[I", Cond.methodLink RX10 281 yX10_solve, Cond.instanceMethod yX10_solve, Cond.selects RX10 yX10_solve yX10_solve, Cond.code yX10_solve cX10_solve 9 none, Cond.fieldLink RX10 7 "MarkDeskModel" "kind" "[I", Cond.fieldLink RX10 13 "MarkDeskModel" "wordA" "[I"]
def wsX10_type_r3 : List Cond := [Cond.methodLink RX10 255 yX10_equal, Cond.instanceMethod yX10_equal, Cond.selects RX10 yX10_equal yX10_equal, Cond.code yX10_equal cX10_equal 8 none, Cond.fieldLink RX10 86 "MarkDeskModel" "pairs" "[I", Cond.fieldLink RX10 73 "MarkDeskModel" "parts" "[I", Cond.methodLink RX10 239 yX10_end, Cond.instanceMethod yX10_end, Cond.selects RX10 yX10_end yX10_end, Cond.code yX10_end cX10_end 3 (some .int), Cond.methodLink RX10 245 yX10_contains, Cond.instanceMethod yX10_contains, Cond.selects RX10 yX10_contains yX10_contains, Cond.code yX10_contains cX10_contains 7 (some .boolean), Cond.fieldLink RX10 89 "MarkDeskModel" "seen" "[Z", Cond.fieldLink RX10 83 "MarkDeskModel" "pile" "[I", Cond.methodLink RX10 270 yX10_variable, Cond.instanceMethod yX10_variable, Cond.selects RX10 yX10_variable yX10_variable, Cond.code yX10_variable cX10_variable 6 none, Cond.fieldLink RX10 114 "MarkDeskModel" "placeNext" "[I", Cond.fieldLink RX10 111 "MarkDeskModel" "placeFrom" "[I", Cond.fieldLink RX10 108 "MarkDeskModel" "placeType" "[I", Cond.methodLink RX10 261 yX10_functionCell]
def wsX10_type_r4 : List Cond := [Cond.instanceMethod yX10_functionCell, Cond.selects RX10 yX10_functionCell yX10_functionCell, Cond.code yX10_functionCell cX10_functionCell 6 (some .int), Cond.methodLink RX10 274 yX10_function, Cond.instanceMethod yX10_function, Cond.selects RX10 yX10_function yX10_function, Cond.code yX10_function cX10_function 11 none, Cond.methodLink RX10 264 yX10_place, Cond.instanceMethod yX10_place, Cond.selects RX10 yX10_place yX10_place, Cond.code yX10_place cX10_place 4 (some .int), Cond.methodLink RX10 278 yX10_solveTwo, Cond.instanceMethod yX10_solveTwo, Cond.selects RX10 yX10_solveTwo yX10_solveTwo, Cond.code yX10_solveTwo cX10_solveTwo 10 none, Cond.fieldLink RX10 16 "MarkDeskModel" "wordB" "[I", Cond.fieldLink RX10 19 "MarkDeskModel" "wordC" "[I", Cond.methodLink RX10 284 yX10_endless, Cond.instanceMethod yX10_endless, Cond.selects RX10 yX10_endless yX10_endless, Cond.code yX10_endless cX10_endless 6 (some .boolean), Cond.methodLink RX10 291 yX10_numberLetters, Cond.instanceMethod yX10_numberLetters, Cond.selects RX10 yX10_numberLetters yX10_numberLetters]
def wsX10_type_r5 : List Cond := [Cond.code yX10_numberLetters cX10_numberLetters 7 none, Cond.fieldLink RX10 76 "MarkDeskModel" "letter" "[I"]
def wsX10_type : List Cond := .code yX10_type cX10_type 4 (some .int) :: ((wsX10_type_r1 ++ (wsX10_type_r2 ++ (wsX10_type_r3 ++ (wsX10_type_r4 ++ wsX10_type_r5)))) ++ wsX100)
def wsX10_part : List Cond := .code yX10_part cX10_part 5 (some .int) :: ([.fieldLink RX10 117 "MarkDeskModel" "thrown" "I", .fieldLink RX10 79 "MarkDeskModel" "result" "I", .fieldLink RX10 67 "MarkDeskModel" "sort" "[I", .fieldLink RX10 73 "MarkDeskModel" "parts" "[I", .fieldLink RX10 76 "MarkDeskModel" "letter" "[I", .methodLink RX10 123 yX10_in, .static yX10_in, .initialized RX10, .code yX10_in cX10_in 3 (some .boolean), .methodLink RX10 239 yX10_end, .instanceMethod yX10_end, .selects RX10 yX10_end yX10_end, .code yX10_end cX10_end 3 (some .int), .fieldLink RX10 70 "MarkDeskModel" "standsFor" "[I", .methodLink RX10 298 yX10_told, .static yX10_told, .code yX10_told cX10_told 2 (some .int)] ++ wsX100)
def wsX10_count : List Cond := .code yX10_count cX10_count 2 (some .int) :: ([.fieldLink RX10 117 "MarkDeskModel" "thrown" "I", .fieldLink RX10 120 "MarkDeskModel" "terms" "I", .fieldLink RX10 224 "MarkDeskModel" "found" "I", .fieldLink RX10 209 "MarkDeskModel" "stucks" "I", .fieldLink RX10 212 "MarkDeskModel" "mores" "I", .fieldLink RX10 295 "MarkDeskModel" "typed" "I", .fieldLink RX10 288 "MarkDeskModel" "untyped" "I"] ++ wsX100)
def wsX10_mean : List Cond := .code yX10_mean cX10_mean 3 (some .float) :: ([.fieldLink RX10 117 "MarkDeskModel" "thrown" "I", .fieldLink RX10 224 "MarkDeskModel" "found" "I", .fieldLink RX10 227 "MarkDeskModel" "allSteps" "I"] ++ wsX100)
def wsJ9_max_7cf53 : List Cond := .code yJ9_max_7cf53 cJ9_max_7cf53 2 (some .int) :: ([])
def wsJ9_min_7cf53 : List Cond := .code yJ9_min_7cf53 cJ9_min_7cf53 2 (some .int) :: ([])
def wsL_make_r1 : List Cond := [Cond.classLink RL 13 "java/lang/IllegalArgumentException", Cond.classLink RL 15 "java/lang/IllegalStateException", Cond.methodLink RL 7 yX9_make, Cond.instanceMethod yX9_make, Cond.selects RX9 yX9_make yX9_make, Cond.initialized RX9, Cond.code yX9_make cX9_make 5 (some .int), Cond.classLink RX9 43 "java/lang/IllegalArgumentException", Cond.initialized "java/lang/IllegalArgumentException", Cond.classLink RX9 49 "java/lang/IllegalStateException", Cond.initialized "java/lang/IllegalStateException", Cond.fieldLink RX9 10 "MarkDesk" "terms" "LMarkDesk$Terms;", Cond.methodLink RX9 39 yX4_wordsFit, Cond.instanceMethod yX4_wordsFit, Cond.selects RX4 yX4_wordsFit yX4_wordsFit, Cond.initialized RX4, Cond.code yX4_wordsFit cX4_wordsFit 6 (some .boolean), Cond.fieldLink RX4 39 "MarkDesk$Kind" "TERM_WORDS" "[I", Cond.methodLink RX4 35 yX4_has, Cond.instanceMethod yX4_has, Cond.selects RX4 yX4_has yX4_has, Cond.code yX4_has cX4_has 2 (some .boolean), Cond.fieldLink RX4 31 "MarkDesk$Terms" "used" "I", Cond.methodLink RX9 46 yX4_hasRoomFor]
def wsL_make_r2 : List Cond := [Cond.instanceMethod yX4_hasRoomFor, Cond.selects RX4 yX4_hasRoomFor yX4_hasRoomFor, Cond.code yX4_hasRoomFor cX4_hasRoomFor 6 (some .boolean), Cond.methodLink RX4 44 yX4_heightOver, Cond.instanceMethod yX4_heightOver, Cond.selects RX4 yX4_heightOver yX4_heightOver, Cond.code yX4_heightOver cX4_heightOver 6 (some .int), Cond.fieldLink RX4 25 "MarkDesk$Terms" "height" "[I", Cond.methodLink RX4 54 Lib.Math.max.name, Cond.static Lib.Math.max.name, Cond.initialized "java/lang/Math", Cond.code Lib.Math.max.name Lib.Math.max.code 2 (some .int), Cond.methodLink RX4 48 yX4_sizeOver, Cond.instanceMethod yX4_sizeOver, Cond.selects RX4 yX4_sizeOver yX4_sizeOver, Cond.code yX4_sizeOver cX4_sizeOver 6 (some .int), Cond.fieldLink RX4 28 "MarkDesk$Terms" "size" "[I", Cond.methodLink RX9 52 yX4_add, Cond.instanceMethod yX4_add, Cond.selects RX4 yX4_add yX4_add, Cond.code yX4_add cX4_add 7 (some .int), Cond.fieldLink RX4 9 "MarkDesk$Terms" "kind" "[I", Cond.fieldLink RX4 13 "MarkDesk$Terms" "first" "[I", Cond.fieldLink RX4 16 "MarkDesk$Terms" "second" "[I"]
def wsL_make_r3 : List Cond := [Cond.fieldLink RX4 19 "MarkDesk$Terms" "third" "[I", Cond.fieldLink RX4 22 "MarkDesk$Terms" "needed" "[I", Cond.methodLink RX4 51 yX4_neededOver, Cond.instanceMethod yX4_neededOver, Cond.selects RX4 yX4_neededOver yX4_neededOver, Cond.code yX4_neededOver cX4_neededOver 6 (some .int), Cond.fieldLink RX4 60 "MarkDesk$Kind" "BINDS" "[I"]
def wsL_make : List Cond := .codeWith yL_make cL_make 7 (some .int) [(0, 14, 17, 13), (0, 14, 21, 15)] :: ((wsL_make_r1 ++ (wsL_make_r2 ++ wsL_make_r3)) ++ wsX90 ++ wsX40 ++ (vx_at0 RX9 45 "java/lang/IllegalArgumentException" ["java/lang/RuntimeException", "java/lang/Exception"]).filter goodWord ++ (vx_at0 RX9 51 "java/lang/IllegalStateException" ["java/lang/RuntimeException", "java/lang/Exception"]).filter goodWord)
def wsL_open : List Cond := .codeWith yL_open cL_open 4 (some .int) [(0, 9, 12, 21)] :: ([.classLink RL 21 "java/util/NoSuchElementException", .methodLink RL 17 yX9_open, .instanceMethod yX9_open, .selects RX9 yX9_open yX9_open, .initialized RX9, .code yX9_open cX9_open 2 (some .int), .classLink RX9 60 "java/util/NoSuchElementException", .initialized "java/util/NoSuchElementException", .fieldLink RX9 10 "MarkDesk" "terms" "LMarkDesk$Terms;", .fieldLink RX9 63 "MarkDesk$Terms" "needed" "[I", .methodLink RX9 56 yX4_has, .instanceMethod yX4_has, .selects RX4 yX4_has yX4_has, .initialized RX4, .code yX4_has cX4_has 2 (some .boolean), .fieldLink RX4 31 "MarkDesk$Terms" "used" "I"] ++ wsX90 ++ wsX40 ++ (vx_at0 RX9 62 "java/util/NoSuchElementException" ["java/lang/RuntimeException", "java/lang/Exception"]).filter goodWord)
def wsL_work_r1 : List Cond := [Cond.classLink RL 21 "java/util/NoSuchElementException", Cond.classLink RL 27 "java/lang/IndexOutOfBoundsException", Cond.classLink RL 13 "java/lang/IllegalArgumentException", Cond.classLink RL 15 "java/lang/IllegalStateException", Cond.methodLink RL 23 yX9_work, Cond.instanceMethod yX9_work, Cond.selects RX9 yX9_work yX9_work, Cond.initialized RX9, Cond.code yX9_work cX9_work 4 (some .int), Cond.classLink RX9 60 "java/util/NoSuchElementException", Cond.initialized "java/util/NoSuchElementException", Cond.classLink RX9 70 "java/lang/IndexOutOfBoundsException", Cond.initialized "java/lang/IndexOutOfBoundsException", Cond.classLink RX9 43 "java/lang/IllegalArgumentException", Cond.initialized "java/lang/IllegalArgumentException", Cond.classLink RX9 49 "java/lang/IllegalStateException", Cond.initialized "java/lang/IllegalStateException", Cond.fieldLink RX9 10 "MarkDesk" "terms" "LMarkDesk$Terms;", Cond.fieldLink RX9 21 "MarkDesk" "machine" "LMarkDesk$Machine;", Cond.fieldLink RX9 77 "MarkDesk" "stuckTerms" "I", Cond.fieldLink RX9 81 "MarkDesk" "neededMore" "I", Cond.methodLink RX9 67 yX4_hasClosed, Cond.instanceMethod yX4_hasClosed, Cond.selects RX4 yX4_hasClosed yX4_hasClosed]
def wsL_work_r2 : List Cond := [Cond.initialized RX4, Cond.code yX4_hasClosed cX4_hasClosed 2 (some .boolean), Cond.fieldLink RX4 22 "MarkDesk$Terms" "needed" "[I", Cond.methodLink RX4 35 yX4_has, Cond.instanceMethod yX4_has, Cond.selects RX4 yX4_has yX4_has, Cond.code yX4_has cX4_has 2 (some .boolean), Cond.fieldLink RX4 31 "MarkDesk$Terms" "used" "I", Cond.methodLink RX9 73 yX2_workOut, Cond.instanceMethod yX2_workOut, Cond.selects RX2 yX2_workOut yX2_workOut, Cond.initialized RX2, Cond.code yX2_workOut cX2_workOut 4 (some .int), Cond.fieldLink RX2 14 "MarkDesk$Machine" "values" "LMarkDesk$Values;", Cond.fieldLink RX2 21 "MarkDesk$Machine" "scopes" "LMarkDesk$Scopes;", Cond.fieldLink RX2 28 "MarkDesk$Machine" "waitings" "LMarkDesk$Waitings;", Cond.fieldLink RX2 45 "MarkDesk$Machine" "marks" "I", Cond.fieldLink RX2 49 "MarkDesk$Machine" "toDo" "I", Cond.fieldLink RX2 52 "MarkDesk$Machine" "fuelLeft" "I", Cond.fieldLink RX2 55 "MarkDesk$Machine" "stepsDone" "I", Cond.fieldLink RX2 58 "MarkDesk$Machine" "end" "I", Cond.methodLink RX2 40 yX7_clear, Cond.instanceMethod yX7_clear, Cond.selects RX7 yX7_clear yX7_clear]
def wsL_work_r3 : List Cond := [Cond.initialized RX7, Cond.code yX7_clear cX7_clear 1 none, Cond.fieldLink RX7 21 "MarkDesk$Values" "used" "I", Cond.methodLink RX2 43 yX3_clear, Cond.instanceMethod yX3_clear, Cond.selects RX3 yX3_clear yX3_clear, Cond.initialized RX3, Cond.code yX3_clear cX3_clear 1 none, Cond.fieldLink RX3 20 "MarkDesk$Scopes" "used" "I", Cond.methodLink RX2 44 yX8_clear, Cond.instanceMethod yX8_clear, Cond.selects RX8 yX8_clear yX8_clear, Cond.initialized RX8, Cond.code yX8_clear cX8_clear 1 none, Cond.fieldLink RX8 24 "MarkDesk$Waitings" "used" "I", Cond.methodLink RX2 61 yX2_goTo, Cond.instanceMethod yX2_goTo, Cond.selects RX2 yX2_goTo yX2_goTo, Cond.code yX2_goTo cX2_goTo 3 none, Cond.fieldLink RX2 96 "MarkDesk$Machine" "term" "I", Cond.fieldLink RX2 99 "MarkDesk$Machine" "scope" "I", Cond.fieldLink RX2 71 "MarkDesk$Machine" "given" "I", Cond.methodLink RX2 65 yX2_doRound, Cond.instanceMethod yX2_doRound]
def wsL_work_r4 : List Cond := [Cond.selects RX2 yX2_doRound yX2_doRound, Cond.code yX2_doRound cX2_doRound 1 none, Cond.methodLink RX2 87 yX2_leaveMark, Cond.instanceMethod yX2_leaveMark, Cond.selects RX2 yX2_leaveMark yX2_leaveMark, Cond.code yX2_leaveMark cX2_leaveMark 1 none, Cond.fieldLink RX2 32 "MarkDesk$Machine" "behindMarks" "[I", Cond.methodLink RX2 90 yX2_beginTerm, Cond.instanceMethod yX2_beginTerm, Cond.selects RX2 yX2_beginTerm yX2_beginTerm, Cond.code yX2_beginTerm cX2_beginTerm 2 none, Cond.fieldLink RX2 36 "MarkDesk$Machine" "terms" "LMarkDesk$Terms;", Cond.fieldLink RX2 102 "MarkDesk$Terms" "first" "[I", Cond.fieldLink RX2 107 "MarkDesk$Terms" "kind" "[I", Cond.methodLink RX2 110 yX7_add, Cond.instanceMethod yX7_add, Cond.selects RX7 yX7_add yX7_add, Cond.code yX7_add cX7_add 4 (some .int), Cond.fieldLink RX7 9 "MarkDesk$Values" "form" "[I", Cond.fieldLink RX7 15 "MarkDesk$Values" "content" "[I", Cond.fieldLink RX7 18 "MarkDesk$Values" "scope" "[I", Cond.methodLink RX2 114 yX3_look, Cond.instanceMethod yX3_look, Cond.selects RX3 yX3_look yX3_look]
def wsL_work_r5 : List Cond := [Cond.code yX3_look cX3_look 5 (some .int), Cond.fieldLink RX3 17 "MarkDesk$Scopes" "outer" "[I", Cond.fieldLink RX3 11 "MarkDesk$Scopes" "bound" "[I", Cond.methodLink RX2 117 yX2_enterMark, Cond.instanceMethod yX2_enterMark, Cond.selects RX2 yX2_enterMark yX2_enterMark, Cond.code yX2_enterMark cX2_enterMark 2 none, Cond.methodLink RX2 121 yX3_bind, Cond.instanceMethod yX3_bind, Cond.selects RX3 yX3_bind yX3_bind, Cond.code yX3_bind cX3_bind 3 (some .int), Cond.methodLink RX2 124 yX8_add, Cond.instanceMethod yX8_add, Cond.selects RX8 yX8_add yX8_add, Cond.code yX8_add cX8_add 5 (some .int), Cond.fieldLink RX8 9 "MarkDesk$Waitings" "term" "[I", Cond.fieldLink RX8 15 "MarkDesk$Waitings" "scope" "[I", Cond.fieldLink RX8 18 "MarkDesk$Waitings" "held" "[I", Cond.fieldLink RX8 21 "MarkDesk$Waitings" "next" "[I", Cond.methodLink RX2 93 yX2_bringValue, Cond.instanceMethod yX2_bringValue, Cond.selects RX2 yX2_bringValue yX2_bringValue, Cond.code yX2_bringValue cX2_bringValue 4 none, Cond.fieldLink RX2 127 "MarkDesk$Waitings" "term" "[I"]
def wsL_work_r6 : List Cond := [Cond.fieldLink RX2 129 "MarkDesk$Waitings" "next" "[I", Cond.fieldLink RX2 134 "MarkDesk$Waitings" "scope" "[I", Cond.fieldLink RX2 139 "MarkDesk$Terms" "second" "[I", Cond.fieldLink RX2 142 "MarkDesk$Waitings" "held" "[I", Cond.methodLink RX2 136 yX2_choose, Cond.instanceMethod yX2_choose, Cond.selects RX2 yX2_choose yX2_choose, Cond.code yX2_choose cX2_choose 3 none, Cond.fieldLink RX2 68 "MarkDesk$Values" "form" "[I", Cond.fieldLink RX2 84 "MarkDesk$Values" "content" "[I", Cond.fieldLink RX2 152 "MarkDesk$Terms" "third" "[I", Cond.methodLink RX2 145 yX2_callWith, Cond.instanceMethod yX2_callWith, Cond.selects RX2 yX2_callWith yX2_callWith, Cond.code yX2_callWith cX2_callWith 6 none, Cond.fieldLink RX2 155 "MarkDesk$Values" "scope" "[I", Cond.methodLink RX2 148 yX2_joinNumbers, Cond.instanceMethod yX2_joinNumbers, Cond.selects RX2 yX2_joinNumbers yX2_joinNumbers, Cond.code yX2_joinNumbers cX2_joinNumbers 4 none, Cond.methodLink RX9 84 yX9_keepValue, Cond.instanceMethod yX9_keepValue, Cond.selects RX9 yX9_keepValue yX9_keepValue, Cond.code yX9_keepValue cX9_keepValue 1 (some .int)]
def wsL_work_r7 : List Cond := [Cond.fieldLink RX9 88 "MarkDesk" "latestValue" "I", Cond.fieldLink RX9 128 "MarkDesk$Machine" "stepsDone" "I", Cond.fieldLink RX9 91 "MarkDesk" "latestSteps" "I", Cond.fieldLink RX9 121 "MarkDesk" "allSteps" "J", Cond.fieldLink RX9 118 "MarkDesk" "valuesFound" "I", Cond.methodLink RX9 125 yX2_plainResult, Cond.instanceMethod yX2_plainResult, Cond.selects RX2 yX2_plainResult yX2_plainResult, Cond.code yX2_plainResult cX2_plainResult 1 (some .int), Cond.methodLink RX2 80 yX2_resultForm, Cond.instanceMethod yX2_resultForm, Cond.selects RX2 yX2_resultForm yX2_resultForm, Cond.code yX2_resultForm cX2_resultForm 1 (some .int), Cond.methodLink RX2 74 Lib.Math.min.name, Cond.static Lib.Math.min.name, Cond.initialized "java/lang/Math", Cond.code Lib.Math.min.name Lib.Math.min.code 2 (some .int), Cond.methodLink RX9 131 yX2_resultForm]
def wsL_work : List Cond := .codeWith yL_work cL_work 5 (some .int) [(0, 10, 13, 21), (0, 10, 17, 27), (0, 10, 21, 13), (0, 10, 25, 15)] :: ((wsL_work_r1 ++ (wsL_work_r2 ++ (wsL_work_r3 ++ (wsL_work_r4 ++ (wsL_work_r5 ++ (wsL_work_r6 ++ wsL_work_r7)))))) ++ wsX90 ++ wsX40 ++ wsX20 ++ wsX70 ++ wsX30 ++ wsX80 ++ (vx_at0 RX9 62 "java/util/NoSuchElementException" ["java/lang/RuntimeException", "java/lang/Exception"]).filter goodWord ++ (vx_at0 RX9 72 "java/lang/IndexOutOfBoundsException" ["java/lang/RuntimeException", "java/lang/Exception"]).filter goodWord ++ (vx_at0 RX9 45 "java/lang/IllegalArgumentException" ["java/lang/RuntimeException", "java/lang/Exception"]).filter goodWord ++ (vx_at0 RX9 51 "java/lang/IllegalStateException" ["java/lang/RuntimeException", "java/lang/Exception"]).filter goodWord)
def wsL_type_r1 : List Cond := [Cond.classLink RL 21 "java/util/NoSuchElementException", Cond.classLink RL 13 "java/lang/IllegalArgumentException", Cond.methodLink RL 29 yX9_type, Cond.instanceMethod yX9_type, Cond.selects RX9 yX9_type yX9_type, Cond.initialized RX9, Cond.code yX9_type cX9_type 3 (some .int), Cond.classLink RX9 60 "java/util/NoSuchElementException", Cond.initialized "java/util/NoSuchElementException", Cond.classLink RX9 43 "java/lang/IllegalArgumentException", Cond.initialized "java/lang/IllegalArgumentException", Cond.fieldLink RX9 10 "MarkDesk" "terms" "LMarkDesk$Terms;", Cond.fieldLink RX9 28 "MarkDesk" "typing" "LMarkDesk$Typing;", Cond.fieldLink RX9 98 "MarkDesk" "typesMissing" "I", Cond.fieldLink RX9 101 "MarkDesk" "typesFound" "I", Cond.fieldLink RX9 35 "MarkDesk" "latestType" "LMarkDesk$KnownType;", Cond.fieldLink RX9 104 "MarkDesk$Typing" "types" "LMarkDesk$Types;", Cond.methodLink RX9 67 yX4_hasClosed, Cond.instanceMethod yX4_hasClosed, Cond.selects RX4 yX4_hasClosed yX4_hasClosed, Cond.initialized RX4, Cond.code yX4_hasClosed cX4_hasClosed 2 (some .boolean), Cond.fieldLink RX4 22 "MarkDesk$Terms" "needed" "[I", Cond.methodLink RX4 35 yX4_has]
def wsL_type_r2 : List Cond := [Cond.instanceMethod yX4_has, Cond.selects RX4 yX4_has yX4_has, Cond.code yX4_has cX4_has 2 (some .boolean), Cond.fieldLink RX4 31 "MarkDesk$Terms" "used" "I", Cond.methodLink RX9 94 yX6_typeOfWhole, Cond.instanceMethod yX6_typeOfWhole, Cond.selects RX6 yX6_typeOfWhole yX6_typeOfWhole, Cond.initialized RX6, Cond.code yX6_typeOfWhole cX6_typeOfWhole 4 (some .int), Cond.fieldLink RX6 14 "MarkDesk$Typing" "types" "LMarkDesk$Types;", Cond.fieldLink RX6 34 "MarkDesk$Typing" "bound" "I", Cond.methodLink RX6 31 yX5_clear, Cond.instanceMethod yX5_clear, Cond.selects RX5 yX5_clear yX5_clear, Cond.initialized RX5, Cond.code yX5_clear cX5_clear 1 none, Cond.fieldLink RX5 35 "MarkDesk$Types" "used" "I", Cond.methodLink RX5 39 yX5_addNode, Cond.instanceMethod yX5_addNode, Cond.selects RX5 yX5_addNode yX5_addNode, Cond.code yX5_addNode cX5_addNode 2 (some .int), Cond.fieldLink RX5 13 "MarkDesk$Types" "form" "[I", Cond.fieldLink RX5 17 "MarkDesk$Types" "sameAs" "[I", Cond.fieldLink RX5 26 "MarkDesk$Types" "progress" "[I"]
def wsL_type_r3 : List Cond := [Cond.fieldLink RX5 29 "MarkDesk$Types" "partsSeen" "[I", Cond.methodLink RX6 38 yX5_letter, Cond.instanceMethod yX5_letter, Cond.selects RX5 yX5_letter yX5_letter, Cond.code yX5_letter cX5_letter 1 (some .int), Cond.methodLink RX6 42 yX6_holds, Cond.instanceMethod yX6_holds, Cond.selects RX6 yX6_holds yX6_holds, Cond.code yX6_holds cX6_holds 7 (some .boolean), Cond.fieldLink RX6 27 "MarkDesk$Typing" "terms" "LMarkDesk$Terms;", Cond.fieldLink RX6 50 "MarkDesk$Terms" "first" "[I", Cond.fieldLink RX6 53 "MarkDesk$Terms" "kind" "[I", Cond.methodLink RX6 56 yX5_makeSame, Cond.instanceMethod yX5_makeSame, Cond.selects RX5 yX5_makeSame yX5_makeSame, Cond.code yX5_makeSame cX5_makeSame 6 (some .boolean), Cond.fieldLink RX5 46 "MarkDesk$Types" "pending" "I", Cond.fieldLink RX5 23 "MarkDesk$Types" "pairs" "[I", Cond.methodLink RX5 49 yX5_addPair, Cond.instanceMethod yX5_addPair, Cond.selects RX5 yX5_addPair yX5_addPair, Cond.code yX5_addPair cX5_addPair 3 none, Cond.methodLink RX5 43 yX5_chosen, Cond.instanceMethod yX5_chosen]
def wsL_type_r4 : List Cond := [Cond.selects RX5 yX5_chosen yX5_chosen, Cond.code yX5_chosen cX5_chosen 4 (some .int), Cond.methodLink RX5 53 yX5_join, Cond.instanceMethod yX5_join, Cond.selects RX5 yX5_join yX5_join, Cond.code yX5_join cX5_join 4 (some .boolean), Cond.fieldLink RX5 20 "MarkDesk$Types" "parts" "[I", Cond.methodLink RX6 60 yX6_typeOfVariable, Cond.instanceMethod yX6_typeOfVariable, Cond.selects RX6 yX6_typeOfVariable yX6_typeOfVariable, Cond.code yX6_typeOfVariable cX6_typeOfVariable 4 (some .int), Cond.fieldLink RX6 24 "MarkDesk$Typing" "pieceGives" "[I", Cond.fieldLink RX6 20 "MarkDesk$Typing" "boundType" "[I", Cond.methodLink RX6 87 yX5_function, Cond.instanceMethod yX5_function, Cond.selects RX5 yX5_function yX5_function, Cond.code yX5_function cX5_function 6 (some .int), Cond.methodLink RX6 64 yX6_functionHolds, Cond.instanceMethod yX6_functionHolds, Cond.selects RX6 yX6_functionHolds yX6_functionHolds, Cond.methodLink RX6 68 yX6_callHolds, Cond.instanceMethod yX6_callHolds, Cond.selects RX6 yX6_callHolds yX6_callHolds, Cond.methodLink RX6 71 yX6_numbersHold]
def wsL_type_r5 : List Cond := [Cond.instanceMethod yX6_numbersHold, Cond.selects RX6 yX6_numbersHold yX6_numbersHold, Cond.methodLink RX6 75 yX6_ifHolds, Cond.instanceMethod yX6_ifHolds, Cond.selects RX6 yX6_ifHolds yX6_ifHolds, Cond.methodLink RX6 78 yX6_letHolds, Cond.instanceMethod yX6_letHolds, Cond.selects RX6 yX6_letHolds yX6_letHolds, Cond.methodLink RX6 81 yX6_wholeHolds, Cond.instanceMethod yX6_wholeHolds, Cond.selects RX6 yX6_wholeHolds yX6_wholeHolds, Cond.methodLink RX6 84 yX6_takeHolds, Cond.instanceMethod yX6_takeHolds, Cond.selects RX6 yX6_takeHolds yX6_takeHolds, Cond.code yX6_callHolds cX6_callHolds 10 (some .boolean), Cond.fieldLink RX6 97 "MarkDesk$Terms" "second" "[I", Cond.code yX6_functionHolds cX6_functionHolds 11 (some .boolean), Cond.methodLink RX6 93 yX6_bind, Cond.instanceMethod yX6_bind, Cond.selects RX6 yX6_bind yX6_bind, Cond.code yX6_bind cX6_bind 3 none, Cond.code yX6_ifHolds cX6_ifHolds 7 (some .boolean), Cond.fieldLink RX6 100 "MarkDesk$Terms" "third" "[I", Cond.code yX6_letHolds cX6_letHolds 9 (some .boolean)]
def wsL_type_r6 : List Cond := [Cond.code yX6_numbersHold cX6_numbersHold 6 (some .boolean), Cond.code yX6_takeHolds cX6_takeHolds 7 (some .boolean), Cond.code yX6_wholeHolds cX6_wholeHolds 5 (some .boolean), Cond.methodLink RX6 46 yX5_noneContainsItself, Cond.instanceMethod yX5_noneContainsItself, Cond.selects RX5 yX5_noneContainsItself yX5_noneContainsItself, Cond.code yX5_noneContainsItself cX5_noneContainsItself 3 (some .boolean), Cond.methodLink RX5 57 yX5_endsEverywhere, Cond.instanceMethod yX5_endsEverywhere, Cond.selects RX5 yX5_endsEverywhere yX5_endsEverywhere, Cond.code yX5_endsEverywhere cX5_endsEverywhere 6 (some .boolean), Cond.fieldLink RX5 32 "MarkDesk$Types" "path" "[I", Cond.methodLink RX5 61 yX5_chosenPart, Cond.instanceMethod yX5_chosenPart, Cond.selects RX5 yX5_chosenPart yX5_chosenPart, Cond.code yX5_chosenPart cX5_chosenPart 3 (some .int), Cond.methodLink RX9 108 yX1_keep, Cond.instanceMethod yX1_keep, Cond.selects RX1 yX1_keep yX1_keep, Cond.initialized RX1, Cond.code yX1_keep cX1_keep 6 none, Cond.fieldLink RX1 25 "MarkDesk$KnownType" "root" "I", Cond.fieldLink RX1 33 "MarkDesk$KnownType" "letters" "I", Cond.fieldLink RX1 11 "MarkDesk$KnownType" "answer" "[I"]
def wsL_type_r7 : List Cond := [Cond.fieldLink RX1 22 "MarkDesk$KnownType" "waiting" "[I", Cond.methodLink RX1 29 yX5_chosen, Cond.methodLink RX1 36 yJ7_fill_53178, Cond.static yJ7_fill_53178, Cond.initialized RJ7, Cond.code yJ7_fill_53178 cJ7_fill_53178 4 none, Cond.methodLink RX1 42 yX1_keepNode, Cond.instanceMethod yX1_keepNode, Cond.selects RX1 yX1_keepNode yX1_keepNode, Cond.code yX1_keepNode cX1_keepNode 7 (some .int), Cond.fieldLink RX1 46 "MarkDesk$Types" "form" "[I", Cond.fieldLink RX1 17 "MarkDesk$KnownType" "parts" "[I", Cond.methodLink RX1 49 yX5_chosenPart, Cond.methodLink RX9 112 yX1_at, Cond.instanceMethod yX1_at, Cond.selects RX1 yX1_at yX1_at, Cond.code yX1_at cX1_at 5 (some .int)]
def wsL_type : List Cond := .codeWith yL_type cL_type 4 (some .int) [(0, 9, 12, 21), (0, 9, 15, 13)] :: ((wsL_type_r1 ++ (wsL_type_r2 ++ (wsL_type_r3 ++ (wsL_type_r4 ++ (wsL_type_r5 ++ (wsL_type_r6 ++ wsL_type_r7)))))) ++ wsX90 ++ wsX60 ++ wsX40 ++ wsX50 ++ wsX10 ++ (vx_at0 RX9 62 "java/util/NoSuchElementException" ["java/lang/RuntimeException", "java/lang/Exception"]).filter goodWord ++ (vx_at0 RX9 45 "java/lang/IllegalArgumentException" ["java/lang/RuntimeException", "java/lang/Exception"]).filter goodWord)
def wsL_law0_r1 : List Cond := [Cond.classLink RL 8 RX9, Cond.instantiable RX9 12, Cond.initialized RX9, Cond.classLink RL 33 RX10, Cond.instantiable RX10 60, Cond.initialized RX10, Cond.arrayClass .long, Cond.methodLink RL 32 yX9_init, Cond.instanceMethod yX9_init, Cond.code yX9_init cX9_init 2 none, Cond.methodLink RX9 1 objectInit, Cond.instanceMethod objectInit, Cond.code objectInit ⟨#[0xb1]⟩ 1 none, Cond.classLink RX9 7 RX4, Cond.instantiable RX4 8, Cond.initialized RX4, Cond.fieldLink RX9 10 "MarkDesk" "terms" "LMarkDesk$Terms;", Cond.classLink RX9 16 RX2, Cond.instantiable RX2 13, Cond.initialized RX2, Cond.fieldLink RX9 21 "MarkDesk" "machine" "LMarkDesk$Machine;", Cond.classLink RX9 25 RX6, Cond.instantiable RX6 5, Cond.initialized RX6]
def wsL_law0_r2 : List Cond := [Cond.fieldLink RX9 28 "MarkDesk" "typing" "LMarkDesk$Typing;", Cond.classLink RX9 32 RX1, Cond.instantiable RX1 5, Cond.initialized RX1, Cond.fieldLink RX9 35 "MarkDesk" "latestType" "LMarkDesk$KnownType;", Cond.instanceMethod yX4_init, Cond.code yX4_init cX4_init 1 none, Cond.methodLink RX4 1 objectInit, Cond.arrayClass .int, Cond.fieldLink RX4 9 "MarkDesk$Terms" "kind" "[I", Cond.fieldLink RX4 13 "MarkDesk$Terms" "first" "[I", Cond.fieldLink RX4 16 "MarkDesk$Terms" "second" "[I", Cond.fieldLink RX4 19 "MarkDesk$Terms" "third" "[I", Cond.fieldLink RX4 22 "MarkDesk$Terms" "needed" "[I", Cond.fieldLink RX4 25 "MarkDesk$Terms" "height" "[I", Cond.fieldLink RX4 28 "MarkDesk$Terms" "size" "[I", Cond.methodLink RX9 18 yX2_init, Cond.instanceMethod yX2_init, Cond.code yX2_init cX2_init 2 none, Cond.methodLink RX2 5 objectInit, Cond.classLink RX2 11 RX7, Cond.instantiable RX7 4, Cond.initialized RX7, Cond.fieldLink RX2 14 "MarkDesk$Machine" "values" "LMarkDesk$Values;"]
def wsL_law0_r3 : List Cond := [Cond.classLink RX2 18 RX3, Cond.instantiable RX3 3, Cond.initialized RX3, Cond.fieldLink RX2 21 "MarkDesk$Machine" "scopes" "LMarkDesk$Scopes;", Cond.classLink RX2 25 RX8, Cond.instantiable RX8 5, Cond.initialized RX8, Cond.fieldLink RX2 28 "MarkDesk$Machine" "waitings" "LMarkDesk$Waitings;", Cond.fieldLink RX2 32 "MarkDesk$Machine" "behindMarks" "[I", Cond.fieldLink RX2 36 "MarkDesk$Machine" "terms" "LMarkDesk$Terms;", Cond.instanceMethod yX7_init, Cond.code yX7_init cX7_init 1 none, Cond.methodLink RX7 1 objectInit, Cond.fieldLink RX7 9 "MarkDesk$Values" "form" "[I", Cond.fieldLink RX7 15 "MarkDesk$Values" "content" "[I", Cond.fieldLink RX7 18 "MarkDesk$Values" "scope" "[I", Cond.instanceMethod yX3_init, Cond.code yX3_init cX3_init 1 none, Cond.methodLink RX3 3 objectInit, Cond.fieldLink RX3 11 "MarkDesk$Scopes" "bound" "[I", Cond.fieldLink RX3 17 "MarkDesk$Scopes" "outer" "[I", Cond.instanceMethod yX8_init, Cond.code yX8_init cX8_init 1 none, Cond.methodLink RX8 1 objectInit]
def wsL_law0_r4 : List Cond := [Cond.fieldLink RX8 9 "MarkDesk$Waitings" "term" "[I", Cond.fieldLink RX8 15 "MarkDesk$Waitings" "scope" "[I", Cond.fieldLink RX8 18 "MarkDesk$Waitings" "held" "[I", Cond.fieldLink RX8 21 "MarkDesk$Waitings" "next" "[I", Cond.methodLink RX9 27 yX6_init, Cond.instanceMethod yX6_init, Cond.code yX6_init cX6_init 2 none, Cond.methodLink RX6 5 objectInit, Cond.classLink RX6 11 RX5, Cond.instantiable RX5 9, Cond.initialized RX5, Cond.fieldLink RX6 14 "MarkDesk$Typing" "types" "LMarkDesk$Types;", Cond.fieldLink RX6 20 "MarkDesk$Typing" "boundType" "[I", Cond.fieldLink RX6 24 "MarkDesk$Typing" "pieceGives" "[I", Cond.fieldLink RX6 27 "MarkDesk$Typing" "terms" "LMarkDesk$Terms;", Cond.instanceMethod yX5_init, Cond.code yX5_init cX5_init 1 none, Cond.methodLink RX5 7 objectInit, Cond.fieldLink RX5 13 "MarkDesk$Types" "form" "[I", Cond.fieldLink RX5 17 "MarkDesk$Types" "sameAs" "[I", Cond.fieldLink RX5 20 "MarkDesk$Types" "parts" "[I", Cond.fieldLink RX5 23 "MarkDesk$Types" "pairs" "[I", Cond.fieldLink RX5 26 "MarkDesk$Types" "progress" "[I", Cond.fieldLink RX5 29 "MarkDesk$Types" "partsSeen" "[I"]
def wsL_law0_r5 : List Cond := [Cond.fieldLink RX5 32 "MarkDesk$Types" "path" "[I", Cond.instanceMethod yX1_init, Cond.code yX1_init cX1_init 1 none, Cond.methodLink RX1 3 objectInit, Cond.fieldLink RX1 11 "MarkDesk$KnownType" "answer" "[I", Cond.fieldLink RX1 17 "MarkDesk$KnownType" "parts" "[I", Cond.fieldLink RX1 22 "MarkDesk$KnownType" "waiting" "[I", Cond.fieldLink RX1 25 "MarkDesk$KnownType" "root" "I", Cond.methodLink RL 35 yX10_init, Cond.instanceMethod yX10_init, Cond.code yX10_init cX10_init 1 none, Cond.methodLink RX10 1 objectInit, Cond.fieldLink RX10 7 "MarkDeskModel" "kind" "[I", Cond.fieldLink RX10 13 "MarkDeskModel" "wordA" "[I", Cond.fieldLink RX10 16 "MarkDeskModel" "wordB" "[I", Cond.fieldLink RX10 19 "MarkDeskModel" "wordC" "[I", Cond.fieldLink RX10 22 "MarkDeskModel" "height" "[I", Cond.fieldLink RX10 25 "MarkDeskModel" "size" "[I", Cond.fieldLink RX10 28 "MarkDeskModel" "need" "[I", Cond.fieldLink RX10 31 "MarkDeskModel" "boundKind" "[I", Cond.fieldLink RX10 34 "MarkDeskModel" "boundWord" "[I", Cond.fieldLink RX10 37 "MarkDeskModel" "boundNext" "[I", Cond.fieldLink RX10 40 "MarkDeskModel" "functionTerm" "[I", Cond.fieldLink RX10 43 "MarkDeskModel" "functionBound" "[I"]
def wsL_law0_r6 : List Cond := [Cond.fieldLink RX10 46 "MarkDeskModel" "taskKind" "[I", Cond.fieldLink RX10 49 "MarkDeskModel" "taskTerm" "[I", Cond.fieldLink RX10 52 "MarkDeskModel" "taskBound" "[I", Cond.fieldLink RX10 55 "MarkDeskModel" "taskValue" "[I", Cond.fieldLink RX10 58 "MarkDeskModel" "taskWord" "[I", Cond.fieldLink RX10 61 "MarkDeskModel" "taskNext" "[I", Cond.fieldLink RX10 64 "MarkDeskModel" "mark" "[I", Cond.fieldLink RX10 67 "MarkDeskModel" "sort" "[I", Cond.fieldLink RX10 70 "MarkDeskModel" "standsFor" "[I", Cond.fieldLink RX10 73 "MarkDeskModel" "parts" "[I", Cond.fieldLink RX10 76 "MarkDeskModel" "letter" "[I", Cond.fieldLink RX10 79 "MarkDeskModel" "result" "I", Cond.fieldLink RX10 83 "MarkDeskModel" "pile" "[I", Cond.fieldLink RX10 86 "MarkDeskModel" "pairs" "[I", Cond.arrayClass .boolean, Cond.fieldLink RX10 89 "MarkDeskModel" "seen" "[Z", Cond.fieldLink RX10 93 "MarkDeskModel" "goalTerm" "[I", Cond.fieldLink RX10 96 "MarkDeskModel" "goalBound" "[I", Cond.fieldLink RX10 99 "MarkDeskModel" "goalType" "[I", Cond.fieldLink RX10 102 "MarkDeskModel" "goalFrom" "[I", Cond.fieldLink RX10 105 "MarkDeskModel" "goalTo" "[I", Cond.fieldLink RX10 108 "MarkDeskModel" "placeType" "[I", Cond.fieldLink RX10 111 "MarkDeskModel" "placeFrom" "[I", Cond.fieldLink RX10 114 "MarkDeskModel" "placeNext" "[I"]
def wsL_law0_r7 : List Cond := [Cond.methodLink RL 36 yL_make, Cond.static yL_make, Cond.initialized RL, Cond.codeWith yL_make cL_make 7 (some .int) [(0, 14, 17, 13), (0, 14, 21, 15)], Cond.classLink RL 13 "java/lang/IllegalArgumentException", Cond.classLink RL 15 "java/lang/IllegalStateException", Cond.methodLink RL 7 yX9_make, Cond.instanceMethod yX9_make, Cond.selects RX9 yX9_make yX9_make, Cond.code yX9_make cX9_make 5 (some .int), Cond.classLink RX9 43 "java/lang/IllegalArgumentException", Cond.initialized "java/lang/IllegalArgumentException", Cond.classLink RX9 49 "java/lang/IllegalStateException", Cond.initialized "java/lang/IllegalStateException", Cond.methodLink RX9 39 yX4_wordsFit, Cond.instanceMethod yX4_wordsFit, Cond.selects RX4 yX4_wordsFit yX4_wordsFit, Cond.code yX4_wordsFit cX4_wordsFit 6 (some .boolean), Cond.fieldLink RX4 39 "MarkDesk$Kind" "TERM_WORDS" "[I", Cond.methodLink RX4 35 yX4_has, Cond.instanceMethod yX4_has, Cond.selects RX4 yX4_has yX4_has, Cond.code yX4_has cX4_has 2 (some .boolean), Cond.fieldLink RX4 31 "MarkDesk$Terms" "used" "I"]
def wsL_law0_r8 : List Cond := [Cond.methodLink RX9 46 yX4_hasRoomFor, Cond.instanceMethod yX4_hasRoomFor, Cond.selects RX4 yX4_hasRoomFor yX4_hasRoomFor, Cond.code yX4_hasRoomFor cX4_hasRoomFor 6 (some .boolean), Cond.methodLink RX4 44 yX4_heightOver, Cond.instanceMethod yX4_heightOver, Cond.selects RX4 yX4_heightOver yX4_heightOver, Cond.code yX4_heightOver cX4_heightOver 6 (some .int), Cond.methodLink RX4 54 Lib.Math.max.name, Cond.static Lib.Math.max.name, Cond.initialized "java/lang/Math", Cond.code Lib.Math.max.name Lib.Math.max.code 2 (some .int), Cond.methodLink RX4 48 yX4_sizeOver, Cond.instanceMethod yX4_sizeOver, Cond.selects RX4 yX4_sizeOver yX4_sizeOver, Cond.code yX4_sizeOver cX4_sizeOver 6 (some .int), Cond.methodLink RX9 52 yX4_add, Cond.instanceMethod yX4_add, Cond.selects RX4 yX4_add yX4_add, Cond.code yX4_add cX4_add 7 (some .int), Cond.methodLink RX4 51 yX4_neededOver, Cond.instanceMethod yX4_neededOver, Cond.selects RX4 yX4_neededOver yX4_neededOver, Cond.code yX4_neededOver cX4_neededOver 6 (some .int)]
def wsL_law0_r9 : List Cond := [Cond.fieldLink RX4 60 "MarkDesk$Kind" "BINDS" "[I", Cond.methodLink RL 41 yX10_make, Cond.instanceMethod yX10_make, Cond.selects RX10 yX10_make yX10_make, Cond.code yX10_make cX10_make 7 (some .int), Cond.fieldLink RX10 117 "MarkDeskModel" "thrown" "I", Cond.fieldLink RX10 120 "MarkDeskModel" "terms" "I", Cond.methodLink RX10 123 yX10_in, Cond.static yX10_in, Cond.code yX10_in cX10_in 3 (some .boolean), Cond.methodLink RX10 134 yX10_fits, Cond.instanceMethod yX10_fits, Cond.selects RX10 yX10_fits yX10_fits, Cond.code yX10_fits cX10_fits 5 (some .boolean), Cond.methodLink RX10 127 yX10_isTerm, Cond.instanceMethod yX10_isTerm, Cond.selects RX10 yX10_isTerm yX10_isTerm, Cond.code yX10_isTerm cX10_isTerm 2 (some .boolean), Cond.methodLink RX10 131 yX10_hasB, Cond.static yX10_hasB, Cond.code yX10_hasB cX10_hasB 1 (some .boolean), Cond.methodLink RX10 138 yX10_fail, Cond.instanceMethod yX10_fail, Cond.selects RX10 yX10_fail yX10_fail]
def wsL_law0_r10 : List Cond := [Cond.code yX10_fail cX10_fail 2 (some .int), Cond.methodLink RX10 142 yX10_hasA, Cond.static yX10_hasA, Cond.code yX10_hasA cX10_hasA 1 (some .boolean), Cond.methodLink RX10 145 yX10_greater, Cond.static yX10_greater, Cond.code yX10_greater cX10_greater 2 (some .int), Cond.methodLink RX10 149 yX10_needs, Cond.instanceMethod yX10_needs, Cond.selects RX10 yX10_needs yX10_needs, Cond.code yX10_needs cX10_needs 5 (some .int), Cond.methodLink RL 42 yX10_thrown, Cond.instanceMethod yX10_thrown, Cond.selects RX10 yX10_thrown yX10_thrown, Cond.code yX10_thrown cX10_thrown 1 (some .int), Cond.methodLink RL 46 yL_open, Cond.static yL_open, Cond.codeWith yL_open cL_open 4 (some .int) [(0, 9, 12, 21)], Cond.classLink RL 21 "java/util/NoSuchElementException", Cond.methodLink RL 17 yX9_open, Cond.instanceMethod yX9_open, Cond.selects RX9 yX9_open yX9_open, Cond.code yX9_open cX9_open 2 (some .int), Cond.classLink RX9 60 "java/util/NoSuchElementException"]
def wsL_law0_r11 : List Cond := [Cond.initialized "java/util/NoSuchElementException", Cond.fieldLink RX9 63 "MarkDesk$Terms" "needed" "[I", Cond.methodLink RX9 56 yX4_has, Cond.methodLink RL 49 yX10_open, Cond.instanceMethod yX10_open, Cond.selects RX10 yX10_open yX10_open, Cond.code yX10_open cX10_open 2 (some .int), Cond.methodLink RL 50 yL_work, Cond.static yL_work, Cond.codeWith yL_work cL_work 5 (some .int) [(0, 10, 13, 21), (0, 10, 17, 27), (0, 10, 21, 13), (0, 10, 25, 15)], Cond.classLink RL 27 "java/lang/IndexOutOfBoundsException", Cond.methodLink RL 23 yX9_work, Cond.instanceMethod yX9_work, Cond.selects RX9 yX9_work yX9_work, Cond.code yX9_work cX9_work 4 (some .int), Cond.classLink RX9 70 "java/lang/IndexOutOfBoundsException", Cond.initialized "java/lang/IndexOutOfBoundsException", Cond.fieldLink RX9 77 "MarkDesk" "stuckTerms" "I", Cond.fieldLink RX9 81 "MarkDesk" "neededMore" "I", Cond.methodLink RX9 67 yX4_hasClosed, Cond.instanceMethod yX4_hasClosed, Cond.selects RX4 yX4_hasClosed yX4_hasClosed, Cond.code yX4_hasClosed cX4_hasClosed 2 (some .boolean), Cond.methodLink RX9 73 yX2_workOut]
def wsL_law0_r12 : List Cond := [Cond.instanceMethod yX2_workOut, Cond.selects RX2 yX2_workOut yX2_workOut, Cond.code yX2_workOut cX2_workOut 4 (some .int), Cond.fieldLink RX2 45 "MarkDesk$Machine" "marks" "I", Cond.fieldLink RX2 49 "MarkDesk$Machine" "toDo" "I", Cond.fieldLink RX2 52 "MarkDesk$Machine" "fuelLeft" "I", Cond.fieldLink RX2 55 "MarkDesk$Machine" "stepsDone" "I", Cond.fieldLink RX2 58 "MarkDesk$Machine" "end" "I", Cond.methodLink RX2 40 yX7_clear, Cond.instanceMethod yX7_clear, Cond.selects RX7 yX7_clear yX7_clear, Cond.code yX7_clear cX7_clear 1 none, Cond.fieldLink RX7 21 "MarkDesk$Values" "used" "I", Cond.methodLink RX2 43 yX3_clear, Cond.instanceMethod yX3_clear, Cond.selects RX3 yX3_clear yX3_clear, Cond.code yX3_clear cX3_clear 1 none, Cond.fieldLink RX3 20 "MarkDesk$Scopes" "used" "I", Cond.methodLink RX2 44 yX8_clear, Cond.instanceMethod yX8_clear, Cond.selects RX8 yX8_clear yX8_clear, Cond.code yX8_clear cX8_clear 1 none, Cond.fieldLink RX8 24 "MarkDesk$Waitings" "used" "I", Cond.methodLink RX2 61 yX2_goTo]
def wsL_law0_r13 : List Cond := [Cond.instanceMethod yX2_goTo, Cond.selects RX2 yX2_goTo yX2_goTo, Cond.code yX2_goTo cX2_goTo 3 none, Cond.fieldLink RX2 96 "MarkDesk$Machine" "term" "I", Cond.fieldLink RX2 99 "MarkDesk$Machine" "scope" "I", Cond.fieldLink RX2 71 "MarkDesk$Machine" "given" "I", Cond.methodLink RX2 65 yX2_doRound, Cond.instanceMethod yX2_doRound, Cond.selects RX2 yX2_doRound yX2_doRound, Cond.code yX2_doRound cX2_doRound 1 none, Cond.methodLink RX2 87 yX2_leaveMark, Cond.instanceMethod yX2_leaveMark, Cond.selects RX2 yX2_leaveMark yX2_leaveMark, Cond.code yX2_leaveMark cX2_leaveMark 1 none, Cond.methodLink RX2 90 yX2_beginTerm, Cond.instanceMethod yX2_beginTerm, Cond.selects RX2 yX2_beginTerm yX2_beginTerm, Cond.code yX2_beginTerm cX2_beginTerm 2 none, Cond.fieldLink RX2 102 "MarkDesk$Terms" "first" "[I", Cond.fieldLink RX2 107 "MarkDesk$Terms" "kind" "[I", Cond.methodLink RX2 110 yX7_add, Cond.instanceMethod yX7_add, Cond.selects RX7 yX7_add yX7_add, Cond.code yX7_add cX7_add 4 (some .int)]
def wsL_law0_r14 : List Cond := [Cond.methodLink RX2 114 yX3_look, Cond.instanceMethod yX3_look, Cond.selects RX3 yX3_look yX3_look, Cond.code yX3_look cX3_look 5 (some .int), Cond.methodLink RX2 117 yX2_enterMark, Cond.instanceMethod yX2_enterMark, Cond.selects RX2 yX2_enterMark yX2_enterMark, Cond.code yX2_enterMark cX2_enterMark 2 none, Cond.methodLink RX2 121 yX3_bind, Cond.instanceMethod yX3_bind, Cond.selects RX3 yX3_bind yX3_bind, Cond.code yX3_bind cX3_bind 3 (some .int), Cond.methodLink RX2 124 yX8_add, Cond.instanceMethod yX8_add, Cond.selects RX8 yX8_add yX8_add, Cond.code yX8_add cX8_add 5 (some .int), Cond.methodLink RX2 93 yX2_bringValue, Cond.instanceMethod yX2_bringValue, Cond.selects RX2 yX2_bringValue yX2_bringValue, Cond.code yX2_bringValue cX2_bringValue 4 none, Cond.fieldLink RX2 127 "MarkDesk$Waitings" "term" "[I", Cond.fieldLink RX2 129 "MarkDesk$Waitings" "next" "[I", Cond.fieldLink RX2 134 "MarkDesk$Waitings" "scope" "[I", Cond.fieldLink RX2 139 "MarkDesk$Terms" "second" "[I"]
def wsL_law0_r15 : List Cond := [Cond.fieldLink RX2 142 "MarkDesk$Waitings" "held" "[I", Cond.methodLink RX2 136 yX2_choose, Cond.instanceMethod yX2_choose, Cond.selects RX2 yX2_choose yX2_choose, Cond.code yX2_choose cX2_choose 3 none, Cond.fieldLink RX2 68 "MarkDesk$Values" "form" "[I", Cond.fieldLink RX2 84 "MarkDesk$Values" "content" "[I", Cond.fieldLink RX2 152 "MarkDesk$Terms" "third" "[I", Cond.methodLink RX2 145 yX2_callWith, Cond.instanceMethod yX2_callWith, Cond.selects RX2 yX2_callWith yX2_callWith, Cond.code yX2_callWith cX2_callWith 6 none, Cond.fieldLink RX2 155 "MarkDesk$Values" "scope" "[I", Cond.methodLink RX2 148 yX2_joinNumbers, Cond.instanceMethod yX2_joinNumbers, Cond.selects RX2 yX2_joinNumbers yX2_joinNumbers, Cond.code yX2_joinNumbers cX2_joinNumbers 4 none, Cond.methodLink RX9 84 yX9_keepValue, Cond.instanceMethod yX9_keepValue, Cond.selects RX9 yX9_keepValue yX9_keepValue, Cond.code yX9_keepValue cX9_keepValue 1 (some .int), Cond.fieldLink RX9 88 "MarkDesk" "latestValue" "I", Cond.fieldLink RX9 128 "MarkDesk$Machine" "stepsDone" "I", Cond.fieldLink RX9 91 "MarkDesk" "latestSteps" "I"]
def wsL_law0_r16 : List Cond := [Cond.fieldLink RX9 121 "MarkDesk" "allSteps" "J", Cond.fieldLink RX9 118 "MarkDesk" "valuesFound" "I", Cond.methodLink RX9 125 yX2_plainResult, Cond.instanceMethod yX2_plainResult, Cond.selects RX2 yX2_plainResult yX2_plainResult, Cond.code yX2_plainResult cX2_plainResult 1 (some .int), Cond.methodLink RX2 80 yX2_resultForm, Cond.instanceMethod yX2_resultForm, Cond.selects RX2 yX2_resultForm yX2_resultForm, Cond.code yX2_resultForm cX2_resultForm 1 (some .int), Cond.methodLink RX2 74 Lib.Math.min.name, Cond.static Lib.Math.min.name, Cond.code Lib.Math.min.name Lib.Math.min.code 2 (some .int), Cond.methodLink RX9 131 yX2_resultForm, Cond.methodLink RL 53 yX10_work, Cond.instanceMethod yX10_work, Cond.selects RX10 yX10_work yX10_work, Cond.code yX10_work cX10_work 4 (some .int), Cond.fieldLink RX10 209 "MarkDeskModel" "stucks" "I", Cond.fieldLink RX10 212 "MarkDeskModel" "mores" "I", Cond.fieldLink RX10 162 "MarkDeskModel" "given" "I", Cond.fieldLink RX10 215 "MarkDeskModel" "latestKind" "I", Cond.fieldLink RX10 165 "MarkDeskModel" "word" "I", Cond.fieldLink RX10 218 "MarkDeskModel" "latestWord" "I"]
def wsL_law0_r17 : List Cond := [Cond.fieldLink RX10 221 "MarkDeskModel" "latestSteps" "I", Cond.fieldLink RX10 224 "MarkDeskModel" "found" "I", Cond.fieldLink RX10 227 "MarkDeskModel" "allSteps" "I", Cond.methodLink RX10 206 yX10_run, Cond.instanceMethod yX10_run, Cond.selects RX10 yX10_run yX10_run, Cond.code yX10_run cX10_run 6 (some .int), Cond.fieldLink RX10 153 "MarkDeskModel" "bounds" "I", Cond.fieldLink RX10 168 "MarkDeskModel" "functions" "I", Cond.fieldLink RX10 156 "MarkDeskModel" "tasks" "I", Cond.fieldLink RX10 181 "MarkDeskModel" "marks" "I", Cond.fieldLink RX10 159 "MarkDeskModel" "now" "I", Cond.fieldLink RX10 192 "MarkDeskModel" "stuck" "Z", Cond.fieldLink RX10 171 "MarkDeskModel" "taken" "I", Cond.methodLink RX10 199 yX10_begin, Cond.instanceMethod yX10_begin, Cond.selects RX10 yX10_begin yX10_begin, Cond.code yX10_begin cX10_begin 6 (some .int), Cond.methodLink RX10 174 yX10_give, Cond.instanceMethod yX10_give, Cond.selects RX10 yX10_give yX10_give, Cond.code yX10_give cX10_give 3 none, Cond.methodLink RX10 178 yX10_closure, Cond.instanceMethod yX10_closure]
def wsL_law0_r18 : List Cond := [Cond.selects RX10 yX10_closure yX10_closure, Cond.code yX10_closure cX10_closure 3 (some .int), Cond.methodLink RX10 184 yX10_bind, Cond.instanceMethod yX10_bind, Cond.selects RX10 yX10_bind yX10_bind, Cond.code yX10_bind cX10_bind 4 (some .int), Cond.methodLink RX10 188 yX10_then, Cond.instanceMethod yX10_then, Cond.selects RX10 yX10_then yX10_then, Cond.code yX10_then cX10_then 6 none, Cond.methodLink RX10 202 yX10_goOn, Cond.instanceMethod yX10_goOn, Cond.selects RX10 yX10_goOn yX10_goOn, Cond.code yX10_goOn cX10_goOn 5 (some .int), Cond.methodLink RX10 196 yX10_call, Cond.instanceMethod yX10_call, Cond.selects RX10 yX10_call yX10_call, Cond.code yX10_call cX10_call 5 (some .int), Cond.methodLink RL 54 yX9_value, Cond.instanceMethod yX9_value, Cond.selects RX9 yX9_value yX9_value, Cond.code yX9_value cX9_value 1 (some .int), Cond.methodLink RL 57 yX10_value, Cond.instanceMethod yX10_value]
def wsL_law0_r19 : List Cond := [Cond.selects RX10 yX10_value yX10_value, Cond.code yX10_value cX10_value 1 (some .int), Cond.methodLink RL 58 yX9_steps, Cond.instanceMethod yX9_steps, Cond.selects RX9 yX9_steps yX9_steps, Cond.code yX9_steps cX9_steps 1 (some .int), Cond.methodLink RL 61 yX10_steps, Cond.instanceMethod yX10_steps, Cond.selects RX10 yX10_steps yX10_steps, Cond.code yX10_steps cX10_steps 1 (some .int), Cond.methodLink RL 62 yL_type, Cond.static yL_type, Cond.codeWith yL_type cL_type 4 (some .int) [(0, 9, 12, 21), (0, 9, 15, 13)], Cond.methodLink RL 29 yX9_type, Cond.instanceMethod yX9_type, Cond.selects RX9 yX9_type yX9_type, Cond.code yX9_type cX9_type 3 (some .int), Cond.fieldLink RX9 98 "MarkDesk" "typesMissing" "I", Cond.fieldLink RX9 101 "MarkDesk" "typesFound" "I", Cond.fieldLink RX9 104 "MarkDesk$Typing" "types" "LMarkDesk$Types;", Cond.methodLink RX9 94 yX6_typeOfWhole, Cond.instanceMethod yX6_typeOfWhole, Cond.selects RX6 yX6_typeOfWhole yX6_typeOfWhole, Cond.code yX6_typeOfWhole cX6_typeOfWhole 4 (some .int)]
def wsL_law0_r20 : List Cond := [Cond.fieldLink RX6 34 "MarkDesk$Typing" "bound" "I", Cond.methodLink RX6 31 yX5_clear, Cond.instanceMethod yX5_clear, Cond.selects RX5 yX5_clear yX5_clear, Cond.code yX5_clear cX5_clear 1 none, Cond.fieldLink RX5 35 "MarkDesk$Types" "used" "I", Cond.methodLink RX5 39 yX5_addNode, Cond.instanceMethod yX5_addNode, Cond.selects RX5 yX5_addNode yX5_addNode, Cond.code yX5_addNode cX5_addNode 2 (some .int), Cond.methodLink RX6 38 yX5_letter, Cond.instanceMethod yX5_letter, Cond.selects RX5 yX5_letter yX5_letter, Cond.code yX5_letter cX5_letter 1 (some .int), Cond.methodLink RX6 42 yX6_holds, Cond.instanceMethod yX6_holds, Cond.selects RX6 yX6_holds yX6_holds, Cond.code yX6_holds cX6_holds 7 (some .boolean), Cond.fieldLink RX6 50 "MarkDesk$Terms" "first" "[I", Cond.fieldLink RX6 53 "MarkDesk$Terms" "kind" "[I", Cond.methodLink RX6 56 yX5_makeSame, Cond.instanceMethod yX5_makeSame, Cond.selects RX5 yX5_makeSame yX5_makeSame, Cond.code yX5_makeSame cX5_makeSame 6 (some .boolean)]
def wsL_law0_r21 : List Cond := [Cond.fieldLink RX5 46 "MarkDesk$Types" "pending" "I", Cond.methodLink RX5 49 yX5_addPair, Cond.instanceMethod yX5_addPair, Cond.selects RX5 yX5_addPair yX5_addPair, Cond.code yX5_addPair cX5_addPair 3 none, Cond.methodLink RX5 43 yX5_chosen, Cond.instanceMethod yX5_chosen, Cond.selects RX5 yX5_chosen yX5_chosen, Cond.code yX5_chosen cX5_chosen 4 (some .int), Cond.methodLink RX5 53 yX5_join, Cond.instanceMethod yX5_join, Cond.selects RX5 yX5_join yX5_join, Cond.code yX5_join cX5_join 4 (some .boolean), Cond.methodLink RX6 60 yX6_typeOfVariable, Cond.instanceMethod yX6_typeOfVariable, Cond.selects RX6 yX6_typeOfVariable yX6_typeOfVariable, Cond.code yX6_typeOfVariable cX6_typeOfVariable 4 (some .int), Cond.methodLink RX6 87 yX5_function, Cond.instanceMethod yX5_function, Cond.selects RX5 yX5_function yX5_function, Cond.code yX5_function cX5_function 6 (some .int), Cond.methodLink RX6 64 yX6_functionHolds, Cond.instanceMethod yX6_functionHolds, Cond.selects RX6 yX6_functionHolds yX6_functionHolds]
def wsL_law0_r22 : List Cond := [Cond.methodLink RX6 68 yX6_callHolds, Cond.instanceMethod yX6_callHolds, Cond.selects RX6 yX6_callHolds yX6_callHolds, Cond.methodLink RX6 71 yX6_numbersHold, Cond.instanceMethod yX6_numbersHold, Cond.selects RX6 yX6_numbersHold yX6_numbersHold, Cond.methodLink RX6 75 yX6_ifHolds, Cond.instanceMethod yX6_ifHolds, Cond.selects RX6 yX6_ifHolds yX6_ifHolds, Cond.methodLink RX6 78 yX6_letHolds, Cond.instanceMethod yX6_letHolds, Cond.selects RX6 yX6_letHolds yX6_letHolds, Cond.methodLink RX6 81 yX6_wholeHolds, Cond.instanceMethod yX6_wholeHolds, Cond.selects RX6 yX6_wholeHolds yX6_wholeHolds, Cond.methodLink RX6 84 yX6_takeHolds, Cond.instanceMethod yX6_takeHolds, Cond.selects RX6 yX6_takeHolds yX6_takeHolds, Cond.code yX6_callHolds cX6_callHolds 10 (some .boolean), Cond.fieldLink RX6 97 "MarkDesk$Terms" "second" "[I", Cond.code yX6_functionHolds cX6_functionHolds 11 (some .boolean), Cond.methodLink RX6 93 yX6_bind, Cond.instanceMethod yX6_bind, Cond.selects RX6 yX6_bind yX6_bind]
def wsL_law0_r23 : List Cond := [Cond.code yX6_bind cX6_bind 3 none, Cond.code yX6_ifHolds cX6_ifHolds 7 (some .boolean), Cond.fieldLink RX6 100 "MarkDesk$Terms" "third" "[I", Cond.code yX6_letHolds cX6_letHolds 9 (some .boolean), Cond.code yX6_numbersHold cX6_numbersHold 6 (some .boolean), Cond.code yX6_takeHolds cX6_takeHolds 7 (some .boolean), Cond.code yX6_wholeHolds cX6_wholeHolds 5 (some .boolean), Cond.methodLink RX6 46 yX5_noneContainsItself, Cond.instanceMethod yX5_noneContainsItself, Cond.selects RX5 yX5_noneContainsItself yX5_noneContainsItself, Cond.code yX5_noneContainsItself cX5_noneContainsItself 3 (some .boolean), Cond.methodLink RX5 57 yX5_endsEverywhere, Cond.instanceMethod yX5_endsEverywhere, Cond.selects RX5 yX5_endsEverywhere yX5_endsEverywhere, Cond.code yX5_endsEverywhere cX5_endsEverywhere 6 (some .boolean), Cond.methodLink RX5 61 yX5_chosenPart, Cond.instanceMethod yX5_chosenPart, Cond.selects RX5 yX5_chosenPart yX5_chosenPart, Cond.code yX5_chosenPart cX5_chosenPart 3 (some .int), Cond.methodLink RX9 108 yX1_keep, Cond.instanceMethod yX1_keep, Cond.selects RX1 yX1_keep yX1_keep, Cond.code yX1_keep cX1_keep 6 none, Cond.fieldLink RX1 33 "MarkDesk$KnownType" "letters" "I"]
def wsL_law0_r24 : List Cond := [Cond.methodLink RX1 29 yX5_chosen, Cond.methodLink RX1 36 yJ7_fill_53178, Cond.static yJ7_fill_53178, Cond.initialized RJ7, Cond.code yJ7_fill_53178 cJ7_fill_53178 4 none, Cond.methodLink RX1 42 yX1_keepNode, Cond.instanceMethod yX1_keepNode, Cond.selects RX1 yX1_keepNode yX1_keepNode, Cond.code yX1_keepNode cX1_keepNode 7 (some .int), Cond.fieldLink RX1 46 "MarkDesk$Types" "form" "[I", Cond.methodLink RX1 49 yX5_chosenPart, Cond.methodLink RX9 112 yX1_at, Cond.instanceMethod yX1_at, Cond.selects RX1 yX1_at yX1_at, Cond.code yX1_at cX1_at 5 (some .int), Cond.methodLink RL 64 yX10_type, Cond.instanceMethod yX10_type, Cond.selects RX10 yX10_type yX10_type, Cond.code yX10_type cX10_type 4 (some .int), Cond.fieldLink RX10 233 "MarkDeskModel" "cells" "I", Cond.fieldLink RX10 249 "MarkDeskModel" "goals" "I", Cond.fieldLink RX10 252 "MarkDeskModel" "places" "I", Cond.fieldLink RX10 242 "MarkDeskModel" "bad" "Z", Cond.fieldLink RX10 288 "MarkDeskModel" "untyped" "I"]
def wsL_law0_r25 : List Cond := [Cond.fieldLink RX10 230 "MarkDeskModel" "bank" "I", Cond.fieldLink RX10 295 "MarkDeskModel" "typed" "I", Cond.methodLink RX10 258 yX10_letterCell, Cond.instanceMethod yX10_letterCell, Cond.selects RX10 yX10_letterCell yX10_letterCell, Cond.code yX10_letterCell cX10_letterCell 1 (some .int), Cond.methodLink RX10 236 yX10_cell, Cond.instanceMethod yX10_cell, Cond.selects RX10 yX10_cell yX10_cell, Cond.code yX10_cell cX10_cell 3 (some .int), Cond.methodLink RX10 267 yX10_goal, Cond.instanceMethod yX10_goal, Cond.selects RX10 yX10_goal yX10_goal, Cond.code yX10_goal cX10_goal 6 none, Cond.methodLink RX10 281 yX10_solve, Cond.instanceMethod yX10_solve, Cond.selects RX10 yX10_solve yX10_solve, Cond.code yX10_solve cX10_solve 9 none, Cond.methodLink RX10 255 yX10_equal, Cond.instanceMethod yX10_equal, Cond.selects RX10 yX10_equal yX10_equal, Cond.code yX10_equal cX10_equal 8 none, Cond.methodLink RX10 239 yX10_end, Cond.instanceMethod yX10_end]
def wsL_law0_r26 : List Cond := [Cond.selects RX10 yX10_end yX10_end, Cond.code yX10_end cX10_end 3 (some .int), Cond.methodLink RX10 245 yX10_contains, Cond.instanceMethod yX10_contains, Cond.selects RX10 yX10_contains yX10_contains, Cond.code yX10_contains cX10_contains 7 (some .boolean), Cond.methodLink RX10 270 yX10_variable, Cond.instanceMethod yX10_variable, Cond.selects RX10 yX10_variable yX10_variable, Cond.code yX10_variable cX10_variable 6 none, Cond.methodLink RX10 261 yX10_functionCell, Cond.instanceMethod yX10_functionCell, Cond.selects RX10 yX10_functionCell yX10_functionCell, Cond.code yX10_functionCell cX10_functionCell 6 (some .int), Cond.methodLink RX10 274 yX10_function, Cond.instanceMethod yX10_function, Cond.selects RX10 yX10_function yX10_function, Cond.code yX10_function cX10_function 11 none, Cond.methodLink RX10 264 yX10_place, Cond.instanceMethod yX10_place, Cond.selects RX10 yX10_place yX10_place, Cond.code yX10_place cX10_place 4 (some .int), Cond.methodLink RX10 278 yX10_solveTwo, Cond.instanceMethod yX10_solveTwo]
def wsL_law0_r27 : List Cond := [Cond.selects RX10 yX10_solveTwo yX10_solveTwo, Cond.code yX10_solveTwo cX10_solveTwo 10 none, Cond.methodLink RX10 284 yX10_endless, Cond.instanceMethod yX10_endless, Cond.selects RX10 yX10_endless yX10_endless, Cond.code yX10_endless cX10_endless 6 (some .boolean), Cond.methodLink RX10 291 yX10_numberLetters, Cond.instanceMethod yX10_numberLetters, Cond.selects RX10 yX10_numberLetters yX10_numberLetters, Cond.code yX10_numberLetters cX10_numberLetters 7 none, Cond.methodLink RL 65 yX9_part, Cond.instanceMethod yX9_part, Cond.selects RX9 yX9_part yX9_part, Cond.code yX9_part cX9_part 2 (some .int), Cond.methodLink RL 68 yX10_part, Cond.instanceMethod yX10_part, Cond.selects RX10 yX10_part yX10_part, Cond.code yX10_part cX10_part 5 (some .int), Cond.methodLink RX10 298 yX10_told, Cond.static yX10_told, Cond.code yX10_told cX10_told 2 (some .int), Cond.methodLink RL 69 yX9_count, Cond.instanceMethod yX9_count, Cond.selects RX9 yX9_count yX9_count]
def wsL_law0_r28 : List Cond := [Cond.code yX9_count cX9_count 2 (some .int), Cond.fieldLink RX9 115 "MarkDesk$Terms" "used" "I", Cond.methodLink RL 72 yX10_count, Cond.instanceMethod yX10_count, Cond.selects RX10 yX10_count yX10_count, Cond.code yX10_count cX10_count 2 (some .int), Cond.methodLink RL 73 yX9_mean, Cond.instanceMethod yX9_mean, Cond.selects RX9 yX9_mean yX9_mean, Cond.code yX9_mean cX9_mean 1 (some .float), Cond.methodLink RL 77 yX10_mean, Cond.instanceMethod yX10_mean, Cond.selects RX10 yX10_mean yX10_mean, Cond.code yX10_mean cX10_mean 3 (some .float)]
def wsL_law0 : List Cond := (wsL_law0_r1 ++ (wsL_law0_r2 ++ (wsL_law0_r3 ++ (wsL_law0_r4 ++ (wsL_law0_r5 ++ (wsL_law0_r6 ++ (wsL_law0_r7 ++ (wsL_law0_r8 ++ (wsL_law0_r9 ++ (wsL_law0_r10 ++ (wsL_law0_r11 ++ (wsL_law0_r12 ++ (wsL_law0_r13 ++ (wsL_law0_r14 ++ (wsL_law0_r15 ++ (wsL_law0_r16 ++ (wsL_law0_r17 ++ (wsL_law0_r18 ++ (wsL_law0_r19 ++ (wsL_law0_r20 ++ (wsL_law0_r21 ++ (wsL_law0_r22 ++ (wsL_law0_r23 ++ (wsL_law0_r24 ++ (wsL_law0_r25 ++ (wsL_law0_r26 ++ (wsL_law0_r27 ++ wsL_law0_r28))))))))))))))))))))))))))) ++ wsX90 ++ wsX100 ++ wsX40 ++ wsX20 ++ wsX60 ++ wsX10 ++ wsX70 ++ wsX30 ++ wsX80 ++ wsX50 ++ ([] : List Cond)
def wsL_law : List Cond := wsL_law0 ++ (vx_at0 RX9 45 "java/lang/IllegalArgumentException" ["java/lang/RuntimeException", "java/lang/Exception"]).filter goodWord ++ (vx_at0 RX9 51 "java/lang/IllegalStateException" ["java/lang/RuntimeException", "java/lang/Exception"]).filter goodWord ++ (vx_at0 RX9 62 "java/util/NoSuchElementException" ["java/lang/RuntimeException", "java/lang/Exception"]).filter goodWord ++ (vx_at0 RX9 72 "java/lang/IndexOutOfBoundsException" ["java/lang/RuntimeException", "java/lang/Exception"]).filter goodWord
theorem inlX1 : ∀ w ∈ wsX10, w ∈ wsL_law := fun _ h => List.mem_append_left _ (List.mem_append_left _ (List.mem_append_left _ (List.mem_append_left _ (List.mem_append_left _ (List.mem_append_left _ (List.mem_append_left _ (List.mem_append_left _ (List.mem_append_left _ (List.mem_append_right _ h)))))))))
theorem inlX2 : ∀ w ∈ wsX20, w ∈ wsL_law := fun _ h => List.mem_append_left _ (List.mem_append_left _ (List.mem_append_left _ (List.mem_append_left _ (List.mem_append_left _ (List.mem_append_left _ (List.mem_append_left _ (List.mem_append_left _ (List.mem_append_left _ (List.mem_append_left _ (List.mem_append_left _ (List.mem_append_right _ h)))))))))))
theorem inlX3 : ∀ w ∈ wsX30, w ∈ wsL_law := fun _ h => List.mem_append_left _ (List.mem_append_left _ (List.mem_append_left _ (List.mem_append_left _ (List.mem_append_left _ (List.mem_append_left _ (List.mem_append_left _ (List.mem_append_right _ h)))))))
theorem inlX4 : ∀ w ∈ wsX40, w ∈ wsL_law := fun _ h => List.mem_append_left _ (List.mem_append_left _ (List.mem_append_left _ (List.mem_append_left _ (List.mem_append_left _ (List.mem_append_left _ (List.mem_append_left _ (List.mem_append_left _ (List.mem_append_left _ (List.mem_append_left _ (List.mem_append_left _ (List.mem_append_left _ (List.mem_append_right _ h))))))))))))
theorem inlX5 : ∀ w ∈ wsX50, w ∈ wsL_law := fun _ h => List.mem_append_left _ (List.mem_append_left _ (List.mem_append_left _ (List.mem_append_left _ (List.mem_append_left _ (List.mem_append_right _ h)))))
theorem inlX6 : ∀ w ∈ wsX60, w ∈ wsL_law := fun _ h => List.mem_append_left _ (List.mem_append_left _ (List.mem_append_left _ (List.mem_append_left _ (List.mem_append_left _ (List.mem_append_left _ (List.mem_append_left _ (List.mem_append_left _ (List.mem_append_left _ (List.mem_append_left _ (List.mem_append_right _ h))))))))))
theorem inlX7 : ∀ w ∈ wsX70, w ∈ wsL_law := fun _ h => List.mem_append_left _ (List.mem_append_left _ (List.mem_append_left _ (List.mem_append_left _ (List.mem_append_left _ (List.mem_append_left _ (List.mem_append_left _ (List.mem_append_left _ (List.mem_append_right _ h))))))))
theorem inlX8 : ∀ w ∈ wsX80, w ∈ wsL_law := fun _ h => List.mem_append_left _ (List.mem_append_left _ (List.mem_append_left _ (List.mem_append_left _ (List.mem_append_left _ (List.mem_append_left _ (List.mem_append_right _ h))))))
theorem inlX9 : ∀ w ∈ wsX90, w ∈ wsL_law := fun _ h => List.mem_append_left _ (List.mem_append_left _ (List.mem_append_left _ (List.mem_append_left _ (List.mem_append_left _ (List.mem_append_left _ (List.mem_append_left _ (List.mem_append_left _ (List.mem_append_left _ (List.mem_append_left _ (List.mem_append_left _ (List.mem_append_left _ (List.mem_append_left _ (List.mem_append_left _ (List.mem_append_right _ h))))))))))))))
theorem inlX10 : ∀ w ∈ wsX100, w ∈ wsL_law := fun _ h => List.mem_append_left _ (List.mem_append_left _ (List.mem_append_left _ (List.mem_append_left _ (List.mem_append_left _ (List.mem_append_left _ (List.mem_append_left _ (List.mem_append_left _ (List.mem_append_left _ (List.mem_append_left _ (List.mem_append_left _ (List.mem_append_left _ (List.mem_append_left _ (List.mem_append_right _ h)))))))))))))
abbrev vwCl : List vw_C := [(RX1, TX1, 5), (RX2, TX2, 13), (RX3, TX3, 3), (RX4, TX4, 8), (RX5, TX5, 9), (RX6, TX6, 5), (RX7, TX7, 4), (RX8, TX8, 5), (RX9, TX9, 12), (RX10, TX10, 60)]
end
section
theorem dX10_init_0 : decode cX10_init 0 = .ok (.aload_n 0, 1) := by decide +kernel
theorem dX10_init_1 : decode cX10_init 1 = .ok (.invokespecial 1, 3) := by decide +kernel
theorem dX10_init_4 : decode cX10_init 4 = .ok (.aload_n 0, 1) := by decide +kernel
theorem dX10_init_5 : decode cX10_init 5 = .ok (.bipush 60, 2) := by decide +kernel
theorem dX10_init_7 : decode cX10_init 7 = .ok (.newarray .int, 2) := by decide +kernel
theorem dX10_init_9 : decode cX10_init 9 = .ok (.putfield 7, 3) := by decide +kernel
theorem dX10_init_12 : decode cX10_init 12 = .ok (.aload_n 0, 1) := by decide +kernel
theorem dX10_init_13 : decode cX10_init 13 = .ok (.bipush 60, 2) := by decide +kernel
theorem dX10_init_15 : decode cX10_init 15 = .ok (.newarray .int, 2) := by decide +kernel
theorem dX10_init_17 : decode cX10_init 17 = .ok (.putfield 13, 3) := by decide +kernel
theorem dX10_init_20 : decode cX10_init 20 = .ok (.aload_n 0, 1) := by decide +kernel
theorem dX10_init_21 : decode cX10_init 21 = .ok (.bipush 60, 2) := by decide +kernel
theorem dX10_init_23 : decode cX10_init 23 = .ok (.newarray .int, 2) := by decide +kernel
theorem dX10_init_25 : decode cX10_init 25 = .ok (.putfield 16, 3) := by decide +kernel
theorem dX10_init_28 : decode cX10_init 28 = .ok (.aload_n 0, 1) := by decide +kernel
theorem dX10_init_29 : decode cX10_init 29 = .ok (.bipush 60, 2) := by decide +kernel
theorem dX10_init_31 : decode cX10_init 31 = .ok (.newarray .int, 2) := by decide +kernel
theorem dX10_init_33 : decode cX10_init 33 = .ok (.putfield 19, 3) := by decide +kernel
theorem dX10_init_36 : decode cX10_init 36 = .ok (.aload_n 0, 1) := by decide +kernel
theorem dX10_init_37 : decode cX10_init 37 = .ok (.bipush 60, 2) := by decide +kernel
theorem dX10_init_39 : decode cX10_init 39 = .ok (.newarray .int, 2) := by decide +kernel
theorem dX10_init_41 : decode cX10_init 41 = .ok (.putfield 22, 3) := by decide +kernel
theorem dX10_init_44 : decode cX10_init 44 = .ok (.aload_n 0, 1) := by decide +kernel
theorem dX10_init_45 : decode cX10_init 45 = .ok (.bipush 60, 2) := by decide +kernel
theorem dX10_init_47 : decode cX10_init 47 = .ok (.newarray .int, 2) := by decide +kernel
theorem dX10_init_49 : decode cX10_init 49 = .ok (.putfield 25, 3) := by decide +kernel
theorem dX10_init_52 : decode cX10_init 52 = .ok (.aload_n 0, 1) := by decide +kernel
theorem dX10_init_53 : decode cX10_init 53 = .ok (.bipush 60, 2) := by decide +kernel
theorem dX10_init_55 : decode cX10_init 55 = .ok (.newarray .int, 2) := by decide +kernel
theorem dX10_init_57 : decode cX10_init 57 = .ok (.putfield 28, 3) := by decide +kernel
theorem dX10_init_60 : decode cX10_init 60 = .ok (.aload_n 0, 1) := by decide +kernel
theorem dX10_init_61 : decode cX10_init 61 = .ok (.sipush 320, 3) := by decide +kernel
theorem dX10_init_64 : decode cX10_init 64 = .ok (.newarray .int, 2) := by decide +kernel
theorem dX10_init_66 : decode cX10_init 66 = .ok (.putfield 31, 3) := by decide +kernel
theorem dX10_init_69 : decode cX10_init 69 = .ok (.aload_n 0, 1) := by decide +kernel
theorem dX10_init_70 : decode cX10_init 70 = .ok (.sipush 320, 3) := by decide +kernel
theorem dX10_init_73 : decode cX10_init 73 = .ok (.newarray .int, 2) := by decide +kernel
theorem dX10_init_75 : decode cX10_init 75 = .ok (.putfield 34, 3) := by decide +kernel
theorem dX10_init_78 : decode cX10_init 78 = .ok (.aload_n 0, 1) := by decide +kernel
theorem dX10_init_79 : decode cX10_init 79 = .ok (.sipush 320, 3) := by decide +kernel
theorem dX10_init_82 : decode cX10_init 82 = .ok (.newarray .int, 2) := by decide +kernel
theorem dX10_init_84 : decode cX10_init 84 = .ok (.putfield 37, 3) := by decide +kernel
theorem dX10_init_87 : decode cX10_init 87 = .ok (.aload_n 0, 1) := by decide +kernel
theorem dX10_init_88 : decode cX10_init 88 = .ok (.sipush 210, 3) := by decide +kernel
theorem dX10_init_91 : decode cX10_init 91 = .ok (.newarray .int, 2) := by decide +kernel
theorem dX10_init_93 : decode cX10_init 93 = .ok (.putfield 40, 3) := by decide +kernel
theorem dX10_init_96 : decode cX10_init 96 = .ok (.aload_n 0, 1) := by decide +kernel
theorem dX10_init_97 : decode cX10_init 97 = .ok (.sipush 210, 3) := by decide +kernel
theorem dX10_init_100 : decode cX10_init 100 = .ok (.newarray .int, 2) := by decide +kernel
theorem dX10_init_102 : decode cX10_init 102 = .ok (.putfield 43, 3) := by decide +kernel
theorem dX10_init_105 : decode cX10_init 105 = .ok (.aload_n 0, 1) := by decide +kernel
theorem dX10_init_106 : decode cX10_init 106 = .ok (.sipush 320, 3) := by decide +kernel
theorem dX10_init_109 : decode cX10_init 109 = .ok (.newarray .int, 2) := by decide +kernel
theorem dX10_init_111 : decode cX10_init 111 = .ok (.putfield 46, 3) := by decide +kernel
theorem dX10_init_114 : decode cX10_init 114 = .ok (.aload_n 0, 1) := by decide +kernel
theorem dX10_init_115 : decode cX10_init 115 = .ok (.sipush 320, 3) := by decide +kernel
theorem dX10_init_118 : decode cX10_init 118 = .ok (.newarray .int, 2) := by decide +kernel
theorem dX10_init_120 : decode cX10_init 120 = .ok (.putfield 49, 3) := by decide +kernel
theorem dX10_init_123 : decode cX10_init 123 = .ok (.aload_n 0, 1) := by decide +kernel
theorem dX10_init_124 : decode cX10_init 124 = .ok (.sipush 320, 3) := by decide +kernel
theorem dX10_init_127 : decode cX10_init 127 = .ok (.newarray .int, 2) := by decide +kernel
theorem dX10_init_129 : decode cX10_init 129 = .ok (.putfield 52, 3) := by decide +kernel
theorem dX10_init_132 : decode cX10_init 132 = .ok (.aload_n 0, 1) := by decide +kernel
theorem dX10_init_133 : decode cX10_init 133 = .ok (.sipush 320, 3) := by decide +kernel
theorem dX10_init_136 : decode cX10_init 136 = .ok (.newarray .int, 2) := by decide +kernel
theorem dX10_init_138 : decode cX10_init 138 = .ok (.putfield 55, 3) := by decide +kernel
theorem dX10_init_141 : decode cX10_init 141 = .ok (.aload_n 0, 1) := by decide +kernel
theorem dX10_init_142 : decode cX10_init 142 = .ok (.sipush 320, 3) := by decide +kernel
theorem dX10_init_145 : decode cX10_init 145 = .ok (.newarray .int, 2) := by decide +kernel
theorem dX10_init_147 : decode cX10_init 147 = .ok (.putfield 58, 3) := by decide +kernel
theorem dX10_init_150 : decode cX10_init 150 = .ok (.aload_n 0, 1) := by decide +kernel
theorem dX10_init_151 : decode cX10_init 151 = .ok (.sipush 320, 3) := by decide +kernel
theorem dX10_init_154 : decode cX10_init 154 = .ok (.newarray .int, 2) := by decide +kernel
theorem dX10_init_156 : decode cX10_init 156 = .ok (.putfield 61, 3) := by decide +kernel
theorem dX10_init_159 : decode cX10_init 159 = .ok (.aload_n 0, 1) := by decide +kernel
theorem dX10_init_160 : decode cX10_init 160 = .ok (.sipush 320, 3) := by decide +kernel
theorem dX10_init_163 : decode cX10_init 163 = .ok (.newarray .int, 2) := by decide +kernel
theorem dX10_init_165 : decode cX10_init 165 = .ok (.putfield 64, 3) := by decide +kernel
theorem dX10_init_168 : decode cX10_init 168 = .ok (.aload_n 0, 1) := by decide +kernel
theorem dX10_init_169 : decode cX10_init 169 = .ok (.sipush 1280, 3) := by decide +kernel
theorem dX10_init_172 : decode cX10_init 172 = .ok (.newarray .int, 2) := by decide +kernel
theorem dX10_init_174 : decode cX10_init 174 = .ok (.putfield 67, 3) := by decide +kernel
theorem dX10_init_177 : decode cX10_init 177 = .ok (.aload_n 0, 1) := by decide +kernel
theorem dX10_init_178 : decode cX10_init 178 = .ok (.sipush 1280, 3) := by decide +kernel
theorem dX10_init_181 : decode cX10_init 181 = .ok (.newarray .int, 2) := by decide +kernel
theorem dX10_init_183 : decode cX10_init 183 = .ok (.putfield 70, 3) := by decide +kernel
theorem dX10_init_186 : decode cX10_init 186 = .ok (.aload_n 0, 1) := by decide +kernel
theorem dX10_init_187 : decode cX10_init 187 = .ok (.sipush 5120, 3) := by decide +kernel
theorem dX10_init_190 : decode cX10_init 190 = .ok (.newarray .int, 2) := by decide +kernel
theorem dX10_init_192 : decode cX10_init 192 = .ok (.putfield 73, 3) := by decide +kernel
theorem dX10_init_195 : decode cX10_init 195 = .ok (.aload_n 0, 1) := by decide +kernel
theorem dX10_init_196 : decode cX10_init 196 = .ok (.sipush 1280, 3) := by decide +kernel
theorem dX10_init_199 : decode cX10_init 199 = .ok (.newarray .int, 2) := by decide +kernel
theorem dX10_init_201 : decode cX10_init 201 = .ok (.putfield 76, 3) := by decide +kernel
theorem dX10_init_204 : decode cX10_init 204 = .ok (.aload_n 0, 1) := by decide +kernel
theorem dX10_init_205 : decode cX10_init 205 = .ok (.iconst (-1), 1) := by decide +kernel
theorem dX10_init_206 : decode cX10_init 206 = .ok (.putfield 79, 3) := by decide +kernel
theorem dX10_init_209 : decode cX10_init 209 = .ok (.aload_n 0, 1) := by decide +kernel
theorem dX10_init_210 : decode cX10_init 210 = .ok (.sipush 1400, 3) := by decide +kernel
theorem dX10_init_213 : decode cX10_init 213 = .ok (.newarray .int, 2) := by decide +kernel
theorem dX10_init_215 : decode cX10_init 215 = .ok (.putfield 83, 3) := by decide +kernel
theorem dX10_init_218 : decode cX10_init 218 = .ok (.aload_n 0, 1) := by decide +kernel
theorem dX10_init_219 : decode cX10_init 219 = .ok (.sipush 2400, 3) := by decide +kernel
theorem dX10_init_222 : decode cX10_init 222 = .ok (.newarray .int, 2) := by decide +kernel
theorem dX10_init_224 : decode cX10_init 224 = .ok (.putfield 86, 3) := by decide +kernel
theorem dX10_init_227 : decode cX10_init 227 = .ok (.aload_n 0, 1) := by decide +kernel
theorem dX10_init_228 : decode cX10_init 228 = .ok (.sipush 1280, 3) := by decide +kernel
theorem dX10_init_231 : decode cX10_init 231 = .ok (.newarray .boolean, 2) := by decide +kernel
theorem dX10_init_233 : decode cX10_init 233 = .ok (.putfield 89, 3) := by decide +kernel
theorem dX10_init_236 : decode cX10_init 236 = .ok (.aload_n 0, 1) := by decide +kernel
theorem dX10_init_237 : decode cX10_init 237 = .ok (.sipush 130, 3) := by decide +kernel
theorem dX10_init_240 : decode cX10_init 240 = .ok (.newarray .int, 2) := by decide +kernel
theorem dX10_init_242 : decode cX10_init 242 = .ok (.putfield 93, 3) := by decide +kernel
theorem dX10_init_245 : decode cX10_init 245 = .ok (.aload_n 0, 1) := by decide +kernel
theorem dX10_init_246 : decode cX10_init 246 = .ok (.sipush 130, 3) := by decide +kernel
theorem dX10_init_249 : decode cX10_init 249 = .ok (.newarray .int, 2) := by decide +kernel
theorem dX10_init_251 : decode cX10_init 251 = .ok (.putfield 96, 3) := by decide +kernel
theorem dX10_init_254 : decode cX10_init 254 = .ok (.aload_n 0, 1) := by decide +kernel
theorem dX10_init_255 : decode cX10_init 255 = .ok (.sipush 130, 3) := by decide +kernel
theorem dX10_init_258 : decode cX10_init 258 = .ok (.newarray .int, 2) := by decide +kernel
theorem dX10_init_260 : decode cX10_init 260 = .ok (.putfield 99, 3) := by decide +kernel
theorem dX10_init_263 : decode cX10_init 263 = .ok (.aload_n 0, 1) := by decide +kernel
theorem dX10_init_264 : decode cX10_init 264 = .ok (.sipush 130, 3) := by decide +kernel
theorem dX10_init_267 : decode cX10_init 267 = .ok (.newarray .int, 2) := by decide +kernel
theorem dX10_init_269 : decode cX10_init 269 = .ok (.putfield 102, 3) := by decide +kernel
theorem dX10_init_272 : decode cX10_init 272 = .ok (.aload_n 0, 1) := by decide +kernel
theorem dX10_init_273 : decode cX10_init 273 = .ok (.sipush 130, 3) := by decide +kernel
theorem dX10_init_276 : decode cX10_init 276 = .ok (.newarray .int, 2) := by decide +kernel
theorem dX10_init_278 : decode cX10_init 278 = .ok (.putfield 105, 3) := by decide +kernel
theorem dX10_init_281 : decode cX10_init 281 = .ok (.aload_n 0, 1) := by decide +kernel
theorem dX10_init_282 : decode cX10_init 282 = .ok (.sipush 250, 3) := by decide +kernel
theorem dX10_init_285 : decode cX10_init 285 = .ok (.newarray .int, 2) := by decide +kernel
theorem dX10_init_287 : decode cX10_init 287 = .ok (.putfield 108, 3) := by decide +kernel
theorem dX10_init_290 : decode cX10_init 290 = .ok (.aload_n 0, 1) := by decide +kernel
theorem dX10_init_291 : decode cX10_init 291 = .ok (.sipush 250, 3) := by decide +kernel
theorem dX10_init_294 : decode cX10_init 294 = .ok (.newarray .int, 2) := by decide +kernel
theorem dX10_init_296 : decode cX10_init 296 = .ok (.putfield 111, 3) := by decide +kernel
theorem dX10_init_299 : decode cX10_init 299 = .ok (.aload_n 0, 1) := by decide +kernel
theorem dX10_init_300 : decode cX10_init 300 = .ok (.sipush 250, 3) := by decide +kernel
theorem dX10_init_303 : decode cX10_init 303 = .ok (.newarray .int, 2) := by decide +kernel
theorem dX10_init_305 : decode cX10_init 305 = .ok (.putfield 114, 3) := by decide +kernel
theorem dX10_init_308 : decode cX10_init 308 = .ok (.return_, 1) := by decide +kernel
theorem dX10_thrown_0 : decode cX10_thrown 0 = .ok (.aload_n 0, 1) := by decide +kernel
theorem dX10_thrown_1 : decode cX10_thrown 1 = .ok (.getfield 117, 3) := by decide +kernel
theorem dX10_thrown_4 : decode cX10_thrown 4 = .ok (.ireturn, 1) := by decide +kernel
theorem dX10_fail_0 : decode cX10_fail 0 = .ok (.aload_n 0, 1) := by decide +kernel
theorem dX10_fail_1 : decode cX10_fail 1 = .ok (.iload_n 1, 1) := by decide +kernel
theorem dX10_fail_2 : decode cX10_fail 2 = .ok (.putfield 117, 3) := by decide +kernel
theorem dX10_fail_5 : decode cX10_fail 5 = .ok (.iconst 0, 1) := by decide +kernel
theorem dX10_fail_6 : decode cX10_fail 6 = .ok (.ireturn, 1) := by decide +kernel
theorem dX10_in_0 : decode cX10_in 0 = .ok (.iload_n 0, 1) := by decide +kernel
theorem dX10_in_1 : decode cX10_in 1 = .ok (.iload_n 1, 1) := by decide +kernel
theorem dX10_in_2 : decode cX10_in 2 = .ok (.if_icmp .lt 12, 3) := by decide +kernel
theorem dX10_in_5 : decode cX10_in 5 = .ok (.iload_n 0, 1) := by decide +kernel
theorem dX10_in_6 : decode cX10_in 6 = .ok (.iload_n 2, 1) := by decide +kernel
theorem dX10_in_7 : decode cX10_in 7 = .ok (.if_icmp .gt 7, 3) := by decide +kernel
theorem dX10_in_10 : decode cX10_in 10 = .ok (.iconst 1, 1) := by decide +kernel
theorem dX10_in_11 : decode cX10_in 11 = .ok (.goto 4, 3) := by decide +kernel
theorem dX10_in_14 : decode cX10_in 14 = .ok (.iconst 0, 1) := by decide +kernel
theorem dX10_in_15 : decode cX10_in 15 = .ok (.ireturn, 1) := by decide +kernel
theorem dX10_greater_0 : decode cX10_greater 0 = .ok (.iload_n 0, 1) := by decide +kernel
theorem dX10_greater_1 : decode cX10_greater 1 = .ok (.iload_n 1, 1) := by decide +kernel
theorem dX10_greater_2 : decode cX10_greater 2 = .ok (.if_icmp .le 7, 3) := by decide +kernel
theorem dX10_greater_5 : decode cX10_greater 5 = .ok (.iload_n 0, 1) := by decide +kernel
theorem dX10_greater_6 : decode cX10_greater 6 = .ok (.goto 4, 3) := by decide +kernel
theorem dX10_greater_9 : decode cX10_greater 9 = .ok (.iload_n 1, 1) := by decide +kernel
theorem dX10_greater_10 : decode cX10_greater 10 = .ok (.ireturn, 1) := by decide +kernel
theorem dX10_isTerm_0 : decode cX10_isTerm 0 = .ok (.iload_n 1, 1) := by decide +kernel
theorem dX10_isTerm_1 : decode cX10_isTerm 1 = .ok (.iconst 0, 1) := by decide +kernel
theorem dX10_isTerm_2 : decode cX10_isTerm 2 = .ok (.aload_n 0, 1) := by decide +kernel
theorem dX10_isTerm_3 : decode cX10_isTerm 3 = .ok (.getfield 120, 3) := by decide +kernel
theorem dX10_isTerm_6 : decode cX10_isTerm 6 = .ok (.iconst 1, 1) := by decide +kernel
theorem dX10_isTerm_7 : decode cX10_isTerm 7 = .ok (.isub, 1) := by decide +kernel
theorem dX10_isTerm_8 : decode cX10_isTerm 8 = .ok (.invokestatic 123, 3) := by decide +kernel
theorem dX10_isTerm_11 : decode cX10_isTerm 11 = .ok (.ireturn, 1) := by decide +kernel
theorem dX10_hasB_0 : decode cX10_hasB 0 = .ok (.iload_n 0, 1) := by decide +kernel
theorem dX10_hasB_1 : decode cX10_hasB 1 = .ok (.iconst 4, 1) := by decide +kernel
theorem dX10_hasB_2 : decode cX10_hasB 2 = .ok (.bipush 8, 2) := by decide +kernel
theorem dX10_hasB_4 : decode cX10_hasB 4 = .ok (.invokestatic 123, 3) := by decide +kernel
theorem dX10_hasB_7 : decode cX10_hasB 7 = .ok (.ireturn, 1) := by decide +kernel
theorem dX10_hasA_0 : decode cX10_hasA 0 = .ok (.iload_n 0, 1) := by decide +kernel
theorem dX10_hasA_1 : decode cX10_hasA 1 = .ok (.iconst 3, 1) := by decide +kernel
theorem dX10_hasA_2 : decode cX10_hasA 2 = .ok (.bipush 11, 2) := by decide +kernel
theorem dX10_hasA_4 : decode cX10_hasA 4 = .ok (.invokestatic 123, 3) := by decide +kernel
theorem dX10_hasA_7 : decode cX10_hasA 7 = .ok (.ireturn, 1) := by decide +kernel
theorem dX10_fits_0 : decode cX10_fits 0 = .ok (.iload_n 1, 1) := by decide +kernel
theorem dX10_fits_1 : decode cX10_fits 1 = .ok (.tableswitch 52 0 2 #[27, 38, 45], 27) := by decide +kernel
theorem dX10_fits_28 : decode cX10_fits 28 = .ok (.iload_n 2, 1) := by decide +kernel
theorem dX10_fits_29 : decode cX10_fits 29 = .ok (.sipush (-1000), 3) := by decide +kernel
theorem dX10_fits_32 : decode cX10_fits 32 = .ok (.sipush 1000, 3) := by decide +kernel
theorem dX10_fits_35 : decode cX10_fits 35 = .ok (.invokestatic 123, 3) := by decide +kernel
theorem dX10_fits_38 : decode cX10_fits 38 = .ok (.ireturn, 1) := by decide +kernel
theorem dX10_fits_39 : decode cX10_fits 39 = .ok (.iload_n 2, 1) := by decide +kernel
theorem dX10_fits_40 : decode cX10_fits 40 = .ok (.iconst 0, 1) := by decide +kernel
theorem dX10_fits_41 : decode cX10_fits 41 = .ok (.iconst 1, 1) := by decide +kernel
theorem dX10_fits_42 : decode cX10_fits 42 = .ok (.invokestatic 123, 3) := by decide +kernel
theorem dX10_fits_45 : decode cX10_fits 45 = .ok (.ireturn, 1) := by decide +kernel
theorem dX10_fits_46 : decode cX10_fits 46 = .ok (.iload_n 2, 1) := by decide +kernel
theorem dX10_fits_47 : decode cX10_fits 47 = .ok (.iconst 0, 1) := by decide +kernel
theorem dX10_fits_48 : decode cX10_fits 48 = .ok (.iconst 5, 1) := by decide +kernel
theorem dX10_fits_49 : decode cX10_fits 49 = .ok (.invokestatic 123, 3) := by decide +kernel
theorem dX10_fits_52 : decode cX10_fits 52 = .ok (.ireturn, 1) := by decide +kernel
theorem dX10_fits_53 : decode cX10_fits 53 = .ok (.aload_n 0, 1) := by decide +kernel
theorem dX10_fits_54 : decode cX10_fits 54 = .ok (.iload_n 2, 1) := by decide +kernel
theorem dX10_fits_55 : decode cX10_fits 55 = .ok (.invokevirtual 127, 3) := by decide +kernel
theorem dX10_fits_58 : decode cX10_fits 58 = .ok (.ifCond .eq 37, 3) := by decide +kernel
theorem dX10_fits_61 : decode cX10_fits 61 = .ok (.iload_n 1, 1) := by decide +kernel
theorem dX10_fits_62 : decode cX10_fits 62 = .ok (.invokestatic 131, 3) := by decide +kernel
theorem dX10_fits_65 : decode cX10_fits 65 = .ok (.ifCond .eq 11, 3) := by decide +kernel
theorem dX10_fits_68 : decode cX10_fits 68 = .ok (.aload_n 0, 1) := by decide +kernel
theorem dX10_fits_69 : decode cX10_fits 69 = .ok (.iload_n 3, 1) := by decide +kernel
theorem dX10_fits_70 : decode cX10_fits 70 = .ok (.invokevirtual 127, 3) := by decide +kernel
theorem dX10_fits_73 : decode cX10_fits 73 = .ok (.ifCond .eq 22, 3) := by decide +kernel
theorem dX10_fits_76 : decode cX10_fits 76 = .ok (.iload_n 1, 1) := by decide +kernel
theorem dX10_fits_77 : decode cX10_fits 77 = .ok (.bipush 7, 2) := by decide +kernel
theorem dX10_fits_79 : decode cX10_fits 79 = .ok (.if_icmp .ne 12, 3) := by decide +kernel
theorem dX10_fits_82 : decode cX10_fits 82 = .ok (.aload_n 0, 1) := by decide +kernel
theorem dX10_fits_83 : decode cX10_fits 83 = .ok (.iload 4, 2) := by decide +kernel
theorem dX10_fits_85 : decode cX10_fits 85 = .ok (.invokevirtual 127, 3) := by decide +kernel
theorem dX10_fits_88 : decode cX10_fits 88 = .ok (.ifCond .eq 7, 3) := by decide +kernel
theorem dX10_fits_91 : decode cX10_fits 91 = .ok (.iconst 1, 1) := by decide +kernel
theorem dX10_fits_92 : decode cX10_fits 92 = .ok (.goto 4, 3) := by decide +kernel
theorem dX10_fits_95 : decode cX10_fits 95 = .ok (.iconst 0, 1) := by decide +kernel
theorem dX10_fits_96 : decode cX10_fits 96 = .ok (.ireturn, 1) := by decide +kernel
theorem dX10_make_0 : decode cX10_make 0 = .ok (.aload_n 0, 1) := by decide +kernel
theorem dX10_make_1 : decode cX10_make 1 = .ok (.iconst 0, 1) := by decide +kernel
theorem dX10_make_2 : decode cX10_make 2 = .ok (.putfield 117, 3) := by decide +kernel
theorem dX10_make_5 : decode cX10_make 5 = .ok (.iload_n 1, 1) := by decide +kernel
theorem dX10_make_6 : decode cX10_make 6 = .ok (.iconst 0, 1) := by decide +kernel
theorem dX10_make_7 : decode cX10_make 7 = .ok (.bipush 11, 2) := by decide +kernel
theorem dX10_make_9 : decode cX10_make 9 = .ok (.invokestatic 123, 3) := by decide +kernel
theorem dX10_make_12 : decode cX10_make 12 = .ok (.ifCond .eq 15, 3) := by decide +kernel
theorem dX10_make_15 : decode cX10_make 15 = .ok (.aload_n 0, 1) := by decide +kernel
theorem dX10_make_16 : decode cX10_make 16 = .ok (.iload_n 1, 1) := by decide +kernel
theorem dX10_make_17 : decode cX10_make 17 = .ok (.iload_n 2, 1) := by decide +kernel
theorem dX10_make_18 : decode cX10_make 18 = .ok (.iload_n 3, 1) := by decide +kernel
theorem dX10_make_19 : decode cX10_make 19 = .ok (.iload 4, 2) := by decide +kernel
theorem dX10_make_21 : decode cX10_make 21 = .ok (.invokevirtual 134, 3) := by decide +kernel
theorem dX10_make_24 : decode cX10_make 24 = .ok (.ifCond .ne 9, 3) := by decide +kernel
theorem dX10_make_27 : decode cX10_make 27 = .ok (.aload_n 0, 1) := by decide +kernel
theorem dX10_make_28 : decode cX10_make 28 = .ok (.iconst 1, 1) := by decide +kernel
theorem dX10_make_29 : decode cX10_make 29 = .ok (.invokevirtual 138, 3) := by decide +kernel
theorem dX10_make_32 : decode cX10_make 32 = .ok (.ireturn, 1) := by decide +kernel
theorem dX10_make_33 : decode cX10_make 33 = .ok (.iconst 1, 1) := by decide +kernel
theorem dX10_make_34 : decode cX10_make 34 = .ok (.istore 5, 2) := by decide +kernel
theorem dX10_make_36 : decode cX10_make 36 = .ok (.iconst 1, 1) := by decide +kernel
theorem dX10_make_37 : decode cX10_make 37 = .ok (.istore 6, 2) := by decide +kernel
theorem dX10_make_39 : decode cX10_make 39 = .ok (.iload_n 1, 1) := by decide +kernel
theorem dX10_make_40 : decode cX10_make 40 = .ok (.invokestatic 142, 3) := by decide +kernel
theorem dX10_make_43 : decode cX10_make 43 = .ok (.ifCond .eq 24, 3) := by decide +kernel
theorem dX10_make_46 : decode cX10_make 46 = .ok (.aload_n 0, 1) := by decide +kernel
theorem dX10_make_47 : decode cX10_make 47 = .ok (.getfield 22, 3) := by decide +kernel
theorem dX10_make_50 : decode cX10_make 50 = .ok (.iload_n 2, 1) := by decide +kernel
theorem dX10_make_51 : decode cX10_make 51 = .ok (.iaload, 1) := by decide +kernel
theorem dX10_make_52 : decode cX10_make 52 = .ok (.iconst 1, 1) := by decide +kernel
theorem dX10_make_53 : decode cX10_make 53 = .ok (.iadd, 1) := by decide +kernel
theorem dX10_make_54 : decode cX10_make 54 = .ok (.istore 5, 2) := by decide +kernel
theorem dX10_make_56 : decode cX10_make 56 = .ok (.iload 6, 2) := by decide +kernel
theorem dX10_make_58 : decode cX10_make 58 = .ok (.aload_n 0, 1) := by decide +kernel
theorem dX10_make_59 : decode cX10_make 59 = .ok (.getfield 25, 3) := by decide +kernel
theorem dX10_make_62 : decode cX10_make 62 = .ok (.iload_n 2, 1) := by decide +kernel
theorem dX10_make_63 : decode cX10_make 63 = .ok (.iaload, 1) := by decide +kernel
theorem dX10_make_64 : decode cX10_make 64 = .ok (.iadd, 1) := by decide +kernel
theorem dX10_make_65 : decode cX10_make 65 = .ok (.istore 6, 2) := by decide +kernel
theorem dX10_make_67 : decode cX10_make 67 = .ok (.iload_n 1, 1) := by decide +kernel
theorem dX10_make_68 : decode cX10_make 68 = .ok (.invokestatic 131, 3) := by decide +kernel
theorem dX10_make_71 : decode cX10_make 71 = .ok (.ifCond .eq 29, 3) := by decide +kernel
theorem dX10_make_74 : decode cX10_make 74 = .ok (.iload 5, 2) := by decide +kernel
theorem dX10_make_76 : decode cX10_make 76 = .ok (.aload_n 0, 1) := by decide +kernel
theorem dX10_make_77 : decode cX10_make 77 = .ok (.getfield 22, 3) := by decide +kernel
theorem dX10_make_80 : decode cX10_make 80 = .ok (.iload_n 3, 1) := by decide +kernel
theorem dX10_make_81 : decode cX10_make 81 = .ok (.iaload, 1) := by decide +kernel
theorem dX10_make_82 : decode cX10_make 82 = .ok (.iconst 1, 1) := by decide +kernel
theorem dX10_make_83 : decode cX10_make 83 = .ok (.iadd, 1) := by decide +kernel
theorem dX10_make_84 : decode cX10_make 84 = .ok (.invokestatic 145, 3) := by decide +kernel
theorem dX10_make_87 : decode cX10_make 87 = .ok (.istore 5, 2) := by decide +kernel
theorem dX10_make_89 : decode cX10_make 89 = .ok (.iload 6, 2) := by decide +kernel
theorem dX10_make_91 : decode cX10_make 91 = .ok (.aload_n 0, 1) := by decide +kernel
theorem dX10_make_92 : decode cX10_make 92 = .ok (.getfield 25, 3) := by decide +kernel
theorem dX10_make_95 : decode cX10_make 95 = .ok (.iload_n 3, 1) := by decide +kernel
theorem dX10_make_96 : decode cX10_make 96 = .ok (.iaload, 1) := by decide +kernel
theorem dX10_make_97 : decode cX10_make 97 = .ok (.iadd, 1) := by decide +kernel
theorem dX10_make_98 : decode cX10_make 98 = .ok (.istore 6, 2) := by decide +kernel
theorem dX10_make_100 : decode cX10_make 100 = .ok (.iload_n 1, 1) := by decide +kernel
theorem dX10_make_101 : decode cX10_make 101 = .ok (.bipush 7, 2) := by decide +kernel
theorem dX10_make_103 : decode cX10_make 103 = .ok (.if_icmp .ne 31, 3) := by decide +kernel
theorem dX10_make_106 : decode cX10_make 106 = .ok (.iload 5, 2) := by decide +kernel
theorem dX10_make_108 : decode cX10_make 108 = .ok (.aload_n 0, 1) := by decide +kernel
theorem dX10_make_109 : decode cX10_make 109 = .ok (.getfield 22, 3) := by decide +kernel
theorem dX10_make_112 : decode cX10_make 112 = .ok (.iload 4, 2) := by decide +kernel
theorem dX10_make_114 : decode cX10_make 114 = .ok (.iaload, 1) := by decide +kernel
theorem dX10_make_115 : decode cX10_make 115 = .ok (.iconst 1, 1) := by decide +kernel
theorem dX10_make_116 : decode cX10_make 116 = .ok (.iadd, 1) := by decide +kernel
theorem dX10_make_117 : decode cX10_make 117 = .ok (.invokestatic 145, 3) := by decide +kernel
theorem dX10_make_120 : decode cX10_make 120 = .ok (.istore 5, 2) := by decide +kernel
theorem dX10_make_122 : decode cX10_make 122 = .ok (.iload 6, 2) := by decide +kernel
theorem dX10_make_124 : decode cX10_make 124 = .ok (.aload_n 0, 1) := by decide +kernel
theorem dX10_make_125 : decode cX10_make 125 = .ok (.getfield 25, 3) := by decide +kernel
theorem dX10_make_128 : decode cX10_make 128 = .ok (.iload 4, 2) := by decide +kernel
theorem dX10_make_130 : decode cX10_make 130 = .ok (.iaload, 1) := by decide +kernel
theorem dX10_make_131 : decode cX10_make 131 = .ok (.iadd, 1) := by decide +kernel
theorem dX10_make_132 : decode cX10_make 132 = .ok (.istore 6, 2) := by decide +kernel
theorem dX10_make_134 : decode cX10_make 134 = .ok (.aload_n 0, 1) := by decide +kernel
theorem dX10_make_135 : decode cX10_make 135 = .ok (.getfield 120, 3) := by decide +kernel
theorem dX10_make_138 : decode cX10_make 138 = .ok (.bipush 60, 2) := by decide +kernel
theorem dX10_make_140 : decode cX10_make 140 = .ok (.if_icmp .eq 17, 3) := by decide +kernel
theorem dX10_make_143 : decode cX10_make 143 = .ok (.iload 5, 2) := by decide +kernel
theorem dX10_make_145 : decode cX10_make 145 = .ok (.bipush 9, 2) := by decide +kernel
theorem dX10_make_147 : decode cX10_make 147 = .ok (.if_icmp .gt 10, 3) := by decide +kernel
theorem dX10_make_150 : decode cX10_make 150 = .ok (.iload 6, 2) := by decide +kernel
theorem dX10_make_152 : decode cX10_make 152 = .ok (.bipush 120, 2) := by decide +kernel
theorem dX10_make_154 : decode cX10_make 154 = .ok (.if_icmp .le 9, 3) := by decide +kernel
theorem dX10_make_157 : decode cX10_make 157 = .ok (.aload_n 0, 1) := by decide +kernel
theorem dX10_make_158 : decode cX10_make 158 = .ok (.iconst 2, 1) := by decide +kernel
theorem dX10_make_159 : decode cX10_make 159 = .ok (.invokevirtual 138, 3) := by decide +kernel
theorem dX10_make_162 : decode cX10_make 162 = .ok (.ireturn, 1) := by decide +kernel
theorem dX10_make_163 : decode cX10_make 163 = .ok (.aload_n 0, 1) := by decide +kernel
theorem dX10_make_164 : decode cX10_make 164 = .ok (.getfield 7, 3) := by decide +kernel
theorem dX10_make_167 : decode cX10_make 167 = .ok (.aload_n 0, 1) := by decide +kernel
theorem dX10_make_168 : decode cX10_make 168 = .ok (.getfield 120, 3) := by decide +kernel
theorem dX10_make_171 : decode cX10_make 171 = .ok (.iload_n 1, 1) := by decide +kernel
theorem dX10_make_172 : decode cX10_make 172 = .ok (.iastore, 1) := by decide +kernel
theorem dX10_make_173 : decode cX10_make 173 = .ok (.aload_n 0, 1) := by decide +kernel
theorem dX10_make_174 : decode cX10_make 174 = .ok (.getfield 13, 3) := by decide +kernel
theorem dX10_make_177 : decode cX10_make 177 = .ok (.aload_n 0, 1) := by decide +kernel
theorem dX10_make_178 : decode cX10_make 178 = .ok (.getfield 120, 3) := by decide +kernel
theorem dX10_make_181 : decode cX10_make 181 = .ok (.iload_n 2, 1) := by decide +kernel
theorem dX10_make_182 : decode cX10_make 182 = .ok (.iastore, 1) := by decide +kernel
theorem dX10_make_183 : decode cX10_make 183 = .ok (.aload_n 0, 1) := by decide +kernel
theorem dX10_make_184 : decode cX10_make 184 = .ok (.getfield 16, 3) := by decide +kernel
theorem dX10_make_187 : decode cX10_make 187 = .ok (.aload_n 0, 1) := by decide +kernel
theorem dX10_make_188 : decode cX10_make 188 = .ok (.getfield 120, 3) := by decide +kernel
theorem dX10_make_191 : decode cX10_make 191 = .ok (.iload_n 3, 1) := by decide +kernel
theorem dX10_make_192 : decode cX10_make 192 = .ok (.iastore, 1) := by decide +kernel
theorem dX10_make_193 : decode cX10_make 193 = .ok (.aload_n 0, 1) := by decide +kernel
theorem dX10_make_194 : decode cX10_make 194 = .ok (.getfield 19, 3) := by decide +kernel
theorem dX10_make_197 : decode cX10_make 197 = .ok (.aload_n 0, 1) := by decide +kernel
theorem dX10_make_198 : decode cX10_make 198 = .ok (.getfield 120, 3) := by decide +kernel
theorem dX10_make_201 : decode cX10_make 201 = .ok (.iload 4, 2) := by decide +kernel
theorem dX10_make_203 : decode cX10_make 203 = .ok (.iastore, 1) := by decide +kernel
theorem dX10_make_204 : decode cX10_make 204 = .ok (.aload_n 0, 1) := by decide +kernel
theorem dX10_make_205 : decode cX10_make 205 = .ok (.getfield 22, 3) := by decide +kernel
theorem dX10_make_208 : decode cX10_make 208 = .ok (.aload_n 0, 1) := by decide +kernel
theorem dX10_make_209 : decode cX10_make 209 = .ok (.getfield 120, 3) := by decide +kernel
theorem dX10_make_212 : decode cX10_make 212 = .ok (.iload 5, 2) := by decide +kernel
theorem dX10_make_214 : decode cX10_make 214 = .ok (.iastore, 1) := by decide +kernel
theorem dX10_make_215 : decode cX10_make 215 = .ok (.aload_n 0, 1) := by decide +kernel
theorem dX10_make_216 : decode cX10_make 216 = .ok (.getfield 25, 3) := by decide +kernel
theorem dX10_make_219 : decode cX10_make 219 = .ok (.aload_n 0, 1) := by decide +kernel
theorem dX10_make_220 : decode cX10_make 220 = .ok (.getfield 120, 3) := by decide +kernel
theorem dX10_make_223 : decode cX10_make 223 = .ok (.iload 6, 2) := by decide +kernel
theorem dX10_make_225 : decode cX10_make 225 = .ok (.iastore, 1) := by decide +kernel
theorem dX10_make_226 : decode cX10_make 226 = .ok (.aload_n 0, 1) := by decide +kernel
theorem dX10_make_227 : decode cX10_make 227 = .ok (.getfield 28, 3) := by decide +kernel
theorem dX10_make_230 : decode cX10_make 230 = .ok (.aload_n 0, 1) := by decide +kernel
theorem dX10_make_231 : decode cX10_make 231 = .ok (.getfield 120, 3) := by decide +kernel
theorem dX10_make_234 : decode cX10_make 234 = .ok (.aload_n 0, 1) := by decide +kernel
theorem dX10_make_235 : decode cX10_make 235 = .ok (.iload_n 1, 1) := by decide +kernel
theorem dX10_make_236 : decode cX10_make 236 = .ok (.iload_n 2, 1) := by decide +kernel
theorem dX10_make_237 : decode cX10_make 237 = .ok (.iload_n 3, 1) := by decide +kernel
theorem dX10_make_238 : decode cX10_make 238 = .ok (.iload 4, 2) := by decide +kernel
theorem dX10_make_240 : decode cX10_make 240 = .ok (.invokevirtual 149, 3) := by decide +kernel
theorem dX10_make_243 : decode cX10_make 243 = .ok (.iastore, 1) := by decide +kernel
theorem dX10_make_244 : decode cX10_make 244 = .ok (.aload_n 0, 1) := by decide +kernel
theorem dX10_make_245 : decode cX10_make 245 = .ok (.dup, 1) := by decide +kernel
theorem dX10_make_246 : decode cX10_make 246 = .ok (.getfield 120, 3) := by decide +kernel
theorem dX10_make_249 : decode cX10_make 249 = .ok (.iconst 1, 1) := by decide +kernel
theorem dX10_make_250 : decode cX10_make 250 = .ok (.iadd, 1) := by decide +kernel
theorem dX10_make_251 : decode cX10_make 251 = .ok (.putfield 120, 3) := by decide +kernel
theorem dX10_make_254 : decode cX10_make 254 = .ok (.aload_n 0, 1) := by decide +kernel
theorem dX10_make_255 : decode cX10_make 255 = .ok (.getfield 120, 3) := by decide +kernel
theorem dX10_make_258 : decode cX10_make 258 = .ok (.iconst 1, 1) := by decide +kernel
theorem dX10_make_259 : decode cX10_make 259 = .ok (.isub, 1) := by decide +kernel
theorem dX10_make_260 : decode cX10_make 260 = .ok (.ireturn, 1) := by decide +kernel
theorem dX10_needs_0 : decode cX10_needs 0 = .ok (.iload_n 1, 1) := by decide +kernel
theorem dX10_needs_1 : decode cX10_needs 1 = .ok (.tableswitch 146 0 11 #[63, 63, 65, 69, 146, 146, 146, 120, 102, 95, 69, 82], 63) := by decide +kernel
theorem dX10_needs_64 : decode cX10_needs 64 = .ok (.iconst 0, 1) := by decide +kernel
theorem dX10_needs_65 : decode cX10_needs 65 = .ok (.ireturn, 1) := by decide +kernel
theorem dX10_needs_66 : decode cX10_needs 66 = .ok (.iload_n 2, 1) := by decide +kernel
theorem dX10_needs_67 : decode cX10_needs 67 = .ok (.iconst 1, 1) := by decide +kernel
theorem dX10_needs_68 : decode cX10_needs 68 = .ok (.iadd, 1) := by decide +kernel
theorem dX10_needs_69 : decode cX10_needs 69 = .ok (.ireturn, 1) := by decide +kernel
theorem dX10_needs_70 : decode cX10_needs 70 = .ok (.aload_n 0, 1) := by decide +kernel
theorem dX10_needs_71 : decode cX10_needs 71 = .ok (.getfield 28, 3) := by decide +kernel
theorem dX10_needs_74 : decode cX10_needs 74 = .ok (.iload_n 2, 1) := by decide +kernel
theorem dX10_needs_75 : decode cX10_needs 75 = .ok (.iaload, 1) := by decide +kernel
theorem dX10_needs_76 : decode cX10_needs 76 = .ok (.iconst 1, 1) := by decide +kernel
theorem dX10_needs_77 : decode cX10_needs 77 = .ok (.isub, 1) := by decide +kernel
theorem dX10_needs_78 : decode cX10_needs 78 = .ok (.iconst 0, 1) := by decide +kernel
theorem dX10_needs_79 : decode cX10_needs 79 = .ok (.invokestatic 145, 3) := by decide +kernel
theorem dX10_needs_82 : decode cX10_needs 82 = .ok (.ireturn, 1) := by decide +kernel
theorem dX10_needs_83 : decode cX10_needs 83 = .ok (.aload_n 0, 1) := by decide +kernel
theorem dX10_needs_84 : decode cX10_needs 84 = .ok (.getfield 28, 3) := by decide +kernel
theorem dX10_needs_87 : decode cX10_needs 87 = .ok (.iload_n 2, 1) := by decide +kernel
theorem dX10_needs_88 : decode cX10_needs 88 = .ok (.iaload, 1) := by decide +kernel
theorem dX10_needs_89 : decode cX10_needs 89 = .ok (.iconst 2, 1) := by decide +kernel
theorem dX10_needs_90 : decode cX10_needs 90 = .ok (.isub, 1) := by decide +kernel
theorem dX10_needs_91 : decode cX10_needs 91 = .ok (.iconst 0, 1) := by decide +kernel
theorem dX10_needs_92 : decode cX10_needs 92 = .ok (.invokestatic 145, 3) := by decide +kernel
theorem dX10_needs_95 : decode cX10_needs 95 = .ok (.ireturn, 1) := by decide +kernel
theorem dX10_needs_96 : decode cX10_needs 96 = .ok (.aload_n 0, 1) := by decide +kernel
theorem dX10_needs_97 : decode cX10_needs 97 = .ok (.getfield 28, 3) := by decide +kernel
theorem dX10_needs_100 : decode cX10_needs 100 = .ok (.iload_n 2, 1) := by decide +kernel
theorem dX10_needs_101 : decode cX10_needs 101 = .ok (.iaload, 1) := by decide +kernel
theorem dX10_needs_102 : decode cX10_needs 102 = .ok (.ireturn, 1) := by decide +kernel
theorem dX10_needs_103 : decode cX10_needs 103 = .ok (.aload_n 0, 1) := by decide +kernel
theorem dX10_needs_104 : decode cX10_needs 104 = .ok (.getfield 28, 3) := by decide +kernel
theorem dX10_needs_107 : decode cX10_needs 107 = .ok (.iload_n 2, 1) := by decide +kernel
theorem dX10_needs_108 : decode cX10_needs 108 = .ok (.iaload, 1) := by decide +kernel
theorem dX10_needs_109 : decode cX10_needs 109 = .ok (.aload_n 0, 1) := by decide +kernel
theorem dX10_needs_110 : decode cX10_needs 110 = .ok (.getfield 28, 3) := by decide +kernel
theorem dX10_needs_113 : decode cX10_needs 113 = .ok (.iload_n 3, 1) := by decide +kernel
theorem dX10_needs_114 : decode cX10_needs 114 = .ok (.iaload, 1) := by decide +kernel
theorem dX10_needs_115 : decode cX10_needs 115 = .ok (.iconst 1, 1) := by decide +kernel
theorem dX10_needs_116 : decode cX10_needs 116 = .ok (.isub, 1) := by decide +kernel
theorem dX10_needs_117 : decode cX10_needs 117 = .ok (.invokestatic 145, 3) := by decide +kernel
theorem dX10_needs_120 : decode cX10_needs 120 = .ok (.ireturn, 1) := by decide +kernel
theorem dX10_needs_121 : decode cX10_needs 121 = .ok (.aload_n 0, 1) := by decide +kernel
theorem dX10_needs_122 : decode cX10_needs 122 = .ok (.getfield 28, 3) := by decide +kernel
theorem dX10_needs_125 : decode cX10_needs 125 = .ok (.iload_n 2, 1) := by decide +kernel
theorem dX10_needs_126 : decode cX10_needs 126 = .ok (.iaload, 1) := by decide +kernel
theorem dX10_needs_127 : decode cX10_needs 127 = .ok (.aload_n 0, 1) := by decide +kernel
theorem dX10_needs_128 : decode cX10_needs 128 = .ok (.getfield 28, 3) := by decide +kernel
theorem dX10_needs_131 : decode cX10_needs 131 = .ok (.iload_n 3, 1) := by decide +kernel
theorem dX10_needs_132 : decode cX10_needs 132 = .ok (.iaload, 1) := by decide +kernel
theorem dX10_needs_133 : decode cX10_needs 133 = .ok (.aload_n 0, 1) := by decide +kernel
theorem dX10_needs_134 : decode cX10_needs 134 = .ok (.getfield 28, 3) := by decide +kernel
theorem dX10_needs_137 : decode cX10_needs 137 = .ok (.iload 4, 2) := by decide +kernel
theorem dX10_needs_139 : decode cX10_needs 139 = .ok (.iaload, 1) := by decide +kernel
theorem dX10_needs_140 : decode cX10_needs 140 = .ok (.invokestatic 145, 3) := by decide +kernel
theorem dX10_needs_143 : decode cX10_needs 143 = .ok (.invokestatic 145, 3) := by decide +kernel
theorem dX10_needs_146 : decode cX10_needs 146 = .ok (.ireturn, 1) := by decide +kernel
theorem dX10_needs_147 : decode cX10_needs 147 = .ok (.aload_n 0, 1) := by decide +kernel
theorem dX10_needs_148 : decode cX10_needs 148 = .ok (.getfield 28, 3) := by decide +kernel
theorem dX10_needs_151 : decode cX10_needs 151 = .ok (.iload_n 2, 1) := by decide +kernel
theorem dX10_needs_152 : decode cX10_needs 152 = .ok (.iaload, 1) := by decide +kernel
theorem dX10_needs_153 : decode cX10_needs 153 = .ok (.aload_n 0, 1) := by decide +kernel
theorem dX10_needs_154 : decode cX10_needs 154 = .ok (.getfield 28, 3) := by decide +kernel
theorem dX10_needs_157 : decode cX10_needs 157 = .ok (.iload_n 3, 1) := by decide +kernel
theorem dX10_needs_158 : decode cX10_needs 158 = .ok (.iaload, 1) := by decide +kernel
theorem dX10_needs_159 : decode cX10_needs 159 = .ok (.invokestatic 145, 3) := by decide +kernel
theorem dX10_needs_162 : decode cX10_needs 162 = .ok (.ireturn, 1) := by decide +kernel
theorem dX10_open_0 : decode cX10_open 0 = .ok (.aload_n 0, 1) := by decide +kernel
theorem dX10_open_1 : decode cX10_open 1 = .ok (.aload_n 0, 1) := by decide +kernel
theorem dX10_open_2 : decode cX10_open 2 = .ok (.iload_n 1, 1) := by decide +kernel
theorem dX10_open_3 : decode cX10_open 3 = .ok (.invokevirtual 127, 3) := by decide +kernel
theorem dX10_open_6 : decode cX10_open 6 = .ok (.ifCond .eq 7, 3) := by decide +kernel
theorem dX10_open_9 : decode cX10_open 9 = .ok (.iconst 0, 1) := by decide +kernel
theorem dX10_open_10 : decode cX10_open 10 = .ok (.goto 4, 3) := by decide +kernel
theorem dX10_open_13 : decode cX10_open 13 = .ok (.iconst 1, 1) := by decide +kernel
theorem dX10_open_14 : decode cX10_open 14 = .ok (.putfield 117, 3) := by decide +kernel
theorem dX10_open_17 : decode cX10_open 17 = .ok (.aload_n 0, 1) := by decide +kernel
theorem dX10_open_18 : decode cX10_open 18 = .ok (.getfield 117, 3) := by decide +kernel
theorem dX10_open_21 : decode cX10_open 21 = .ok (.ifCond .le 7, 3) := by decide +kernel
theorem dX10_open_24 : decode cX10_open 24 = .ok (.iconst 0, 1) := by decide +kernel
theorem dX10_open_25 : decode cX10_open 25 = .ok (.goto 9, 3) := by decide +kernel
theorem dX10_open_28 : decode cX10_open 28 = .ok (.aload_n 0, 1) := by decide +kernel
theorem dX10_open_29 : decode cX10_open 29 = .ok (.getfield 28, 3) := by decide +kernel
theorem dX10_open_32 : decode cX10_open 32 = .ok (.iload_n 1, 1) := by decide +kernel
theorem dX10_open_33 : decode cX10_open 33 = .ok (.iaload, 1) := by decide +kernel
theorem dX10_open_34 : decode cX10_open 34 = .ok (.ireturn, 1) := by decide +kernel
theorem dX10_bind_0 : decode cX10_bind 0 = .ok (.aload_n 0, 1) := by decide +kernel
theorem dX10_bind_1 : decode cX10_bind 1 = .ok (.dup, 1) := by decide +kernel
theorem dX10_bind_2 : decode cX10_bind 2 = .ok (.getfield 153, 3) := by decide +kernel
theorem dX10_bind_5 : decode cX10_bind 5 = .ok (.iconst 1, 1) := by decide +kernel
theorem dX10_bind_6 : decode cX10_bind 6 = .ok (.iadd, 1) := by decide +kernel
theorem dX10_bind_7 : decode cX10_bind 7 = .ok (.putfield 153, 3) := by decide +kernel
theorem dX10_bind_10 : decode cX10_bind 10 = .ok (.aload_n 0, 1) := by decide +kernel
theorem dX10_bind_11 : decode cX10_bind 11 = .ok (.getfield 31, 3) := by decide +kernel
theorem dX10_bind_14 : decode cX10_bind 14 = .ok (.aload_n 0, 1) := by decide +kernel
theorem dX10_bind_15 : decode cX10_bind 15 = .ok (.getfield 153, 3) := by decide +kernel
theorem dX10_bind_18 : decode cX10_bind 18 = .ok (.iload_n 1, 1) := by decide +kernel
theorem dX10_bind_19 : decode cX10_bind 19 = .ok (.iastore, 1) := by decide +kernel
theorem dX10_bind_20 : decode cX10_bind 20 = .ok (.aload_n 0, 1) := by decide +kernel
theorem dX10_bind_21 : decode cX10_bind 21 = .ok (.getfield 34, 3) := by decide +kernel
theorem dX10_bind_24 : decode cX10_bind 24 = .ok (.aload_n 0, 1) := by decide +kernel
theorem dX10_bind_25 : decode cX10_bind 25 = .ok (.getfield 153, 3) := by decide +kernel
theorem dX10_bind_28 : decode cX10_bind 28 = .ok (.iload_n 2, 1) := by decide +kernel
theorem dX10_bind_29 : decode cX10_bind 29 = .ok (.iastore, 1) := by decide +kernel
theorem dX10_bind_30 : decode cX10_bind 30 = .ok (.aload_n 0, 1) := by decide +kernel
theorem dX10_bind_31 : decode cX10_bind 31 = .ok (.getfield 37, 3) := by decide +kernel
theorem dX10_bind_34 : decode cX10_bind 34 = .ok (.aload_n 0, 1) := by decide +kernel
theorem dX10_bind_35 : decode cX10_bind 35 = .ok (.getfield 153, 3) := by decide +kernel
theorem dX10_bind_38 : decode cX10_bind 38 = .ok (.iload_n 3, 1) := by decide +kernel
theorem dX10_bind_39 : decode cX10_bind 39 = .ok (.iastore, 1) := by decide +kernel
theorem dX10_bind_40 : decode cX10_bind 40 = .ok (.aload_n 0, 1) := by decide +kernel
theorem dX10_bind_41 : decode cX10_bind 41 = .ok (.getfield 153, 3) := by decide +kernel
theorem dX10_bind_44 : decode cX10_bind 44 = .ok (.ireturn, 1) := by decide +kernel
theorem dX10_then_0 : decode cX10_then 0 = .ok (.aload_n 0, 1) := by decide +kernel
theorem dX10_then_1 : decode cX10_then 1 = .ok (.dup, 1) := by decide +kernel
theorem dX10_then_2 : decode cX10_then 2 = .ok (.getfield 156, 3) := by decide +kernel
theorem dX10_then_5 : decode cX10_then 5 = .ok (.iconst 1, 1) := by decide +kernel
theorem dX10_then_6 : decode cX10_then 6 = .ok (.iadd, 1) := by decide +kernel
theorem dX10_then_7 : decode cX10_then 7 = .ok (.putfield 156, 3) := by decide +kernel
theorem dX10_then_10 : decode cX10_then 10 = .ok (.aload_n 0, 1) := by decide +kernel
theorem dX10_then_11 : decode cX10_then 11 = .ok (.getfield 46, 3) := by decide +kernel
theorem dX10_then_14 : decode cX10_then 14 = .ok (.aload_n 0, 1) := by decide +kernel
theorem dX10_then_15 : decode cX10_then 15 = .ok (.getfield 156, 3) := by decide +kernel
theorem dX10_then_18 : decode cX10_then 18 = .ok (.iload_n 1, 1) := by decide +kernel
theorem dX10_then_19 : decode cX10_then 19 = .ok (.iastore, 1) := by decide +kernel
theorem dX10_then_20 : decode cX10_then 20 = .ok (.aload_n 0, 1) := by decide +kernel
theorem dX10_then_21 : decode cX10_then 21 = .ok (.getfield 49, 3) := by decide +kernel
theorem dX10_then_24 : decode cX10_then 24 = .ok (.aload_n 0, 1) := by decide +kernel
theorem dX10_then_25 : decode cX10_then 25 = .ok (.getfield 156, 3) := by decide +kernel
theorem dX10_then_28 : decode cX10_then 28 = .ok (.iload_n 2, 1) := by decide +kernel
theorem dX10_then_29 : decode cX10_then 29 = .ok (.iastore, 1) := by decide +kernel
theorem dX10_then_30 : decode cX10_then 30 = .ok (.aload_n 0, 1) := by decide +kernel
theorem dX10_then_31 : decode cX10_then 31 = .ok (.getfield 52, 3) := by decide +kernel
theorem dX10_then_34 : decode cX10_then 34 = .ok (.aload_n 0, 1) := by decide +kernel
theorem dX10_then_35 : decode cX10_then 35 = .ok (.getfield 156, 3) := by decide +kernel
theorem dX10_then_38 : decode cX10_then 38 = .ok (.iload_n 3, 1) := by decide +kernel
theorem dX10_then_39 : decode cX10_then 39 = .ok (.iastore, 1) := by decide +kernel
theorem dX10_then_40 : decode cX10_then 40 = .ok (.aload_n 0, 1) := by decide +kernel
theorem dX10_then_41 : decode cX10_then 41 = .ok (.getfield 55, 3) := by decide +kernel
theorem dX10_then_44 : decode cX10_then 44 = .ok (.aload_n 0, 1) := by decide +kernel
theorem dX10_then_45 : decode cX10_then 45 = .ok (.getfield 156, 3) := by decide +kernel
theorem dX10_then_48 : decode cX10_then 48 = .ok (.iload 4, 2) := by decide +kernel
theorem dX10_then_50 : decode cX10_then 50 = .ok (.iastore, 1) := by decide +kernel
theorem dX10_then_51 : decode cX10_then 51 = .ok (.aload_n 0, 1) := by decide +kernel
theorem dX10_then_52 : decode cX10_then 52 = .ok (.getfield 58, 3) := by decide +kernel
theorem dX10_then_55 : decode cX10_then 55 = .ok (.aload_n 0, 1) := by decide +kernel
theorem dX10_then_56 : decode cX10_then 56 = .ok (.getfield 156, 3) := by decide +kernel
theorem dX10_then_59 : decode cX10_then 59 = .ok (.iload 5, 2) := by decide +kernel
theorem dX10_then_61 : decode cX10_then 61 = .ok (.iastore, 1) := by decide +kernel
theorem dX10_then_62 : decode cX10_then 62 = .ok (.aload_n 0, 1) := by decide +kernel
theorem dX10_then_63 : decode cX10_then 63 = .ok (.getfield 61, 3) := by decide +kernel
theorem dX10_then_66 : decode cX10_then 66 = .ok (.aload_n 0, 1) := by decide +kernel
theorem dX10_then_67 : decode cX10_then 67 = .ok (.getfield 156, 3) := by decide +kernel
theorem dX10_then_70 : decode cX10_then 70 = .ok (.aload_n 0, 1) := by decide +kernel
theorem dX10_then_71 : decode cX10_then 71 = .ok (.getfield 159, 3) := by decide +kernel
theorem dX10_then_74 : decode cX10_then 74 = .ok (.iastore, 1) := by decide +kernel
theorem dX10_then_75 : decode cX10_then 75 = .ok (.aload_n 0, 1) := by decide +kernel
theorem dX10_then_76 : decode cX10_then 76 = .ok (.aload_n 0, 1) := by decide +kernel
theorem dX10_then_77 : decode cX10_then 77 = .ok (.getfield 156, 3) := by decide +kernel
theorem dX10_then_80 : decode cX10_then 80 = .ok (.putfield 159, 3) := by decide +kernel
theorem dX10_then_83 : decode cX10_then 83 = .ok (.return_, 1) := by decide +kernel
theorem dX10_give_0 : decode cX10_give 0 = .ok (.aload_n 0, 1) := by decide +kernel
theorem dX10_give_1 : decode cX10_give 1 = .ok (.iload_n 1, 1) := by decide +kernel
theorem dX10_give_2 : decode cX10_give 2 = .ok (.putfield 162, 3) := by decide +kernel
theorem dX10_give_5 : decode cX10_give 5 = .ok (.aload_n 0, 1) := by decide +kernel
theorem dX10_give_6 : decode cX10_give 6 = .ok (.iload_n 2, 1) := by decide +kernel
theorem dX10_give_7 : decode cX10_give 7 = .ok (.putfield 165, 3) := by decide +kernel
theorem dX10_give_10 : decode cX10_give 10 = .ok (.return_, 1) := by decide +kernel
theorem dX10_closure_0 : decode cX10_closure 0 = .ok (.aload_n 0, 1) := by decide +kernel
theorem dX10_closure_1 : decode cX10_closure 1 = .ok (.dup, 1) := by decide +kernel
theorem dX10_closure_2 : decode cX10_closure 2 = .ok (.getfield 168, 3) := by decide +kernel
theorem dX10_closure_5 : decode cX10_closure 5 = .ok (.iconst 1, 1) := by decide +kernel
theorem dX10_closure_6 : decode cX10_closure 6 = .ok (.iadd, 1) := by decide +kernel
theorem dX10_closure_7 : decode cX10_closure 7 = .ok (.putfield 168, 3) := by decide +kernel
theorem dX10_closure_10 : decode cX10_closure 10 = .ok (.aload_n 0, 1) := by decide +kernel
theorem dX10_closure_11 : decode cX10_closure 11 = .ok (.getfield 40, 3) := by decide +kernel
theorem dX10_closure_14 : decode cX10_closure 14 = .ok (.aload_n 0, 1) := by decide +kernel
theorem dX10_closure_15 : decode cX10_closure 15 = .ok (.getfield 168, 3) := by decide +kernel
theorem dX10_closure_18 : decode cX10_closure 18 = .ok (.iload_n 1, 1) := by decide +kernel
theorem dX10_closure_19 : decode cX10_closure 19 = .ok (.iastore, 1) := by decide +kernel
theorem dX10_closure_20 : decode cX10_closure 20 = .ok (.aload_n 0, 1) := by decide +kernel
theorem dX10_closure_21 : decode cX10_closure 21 = .ok (.getfield 43, 3) := by decide +kernel
theorem dX10_closure_24 : decode cX10_closure 24 = .ok (.aload_n 0, 1) := by decide +kernel
theorem dX10_closure_25 : decode cX10_closure 25 = .ok (.getfield 168, 3) := by decide +kernel
theorem dX10_closure_28 : decode cX10_closure 28 = .ok (.iload_n 2, 1) := by decide +kernel
theorem dX10_closure_29 : decode cX10_closure 29 = .ok (.iastore, 1) := by decide +kernel
theorem dX10_closure_30 : decode cX10_closure 30 = .ok (.aload_n 0, 1) := by decide +kernel
theorem dX10_closure_31 : decode cX10_closure 31 = .ok (.getfield 168, 3) := by decide +kernel
theorem dX10_closure_34 : decode cX10_closure 34 = .ok (.ireturn, 1) := by decide +kernel
theorem dX10_begin_0 : decode cX10_begin 0 = .ok (.aload_n 0, 1) := by decide +kernel
theorem dX10_begin_1 : decode cX10_begin 1 = .ok (.getfield 7, 3) := by decide +kernel
theorem dX10_begin_4 : decode cX10_begin 4 = .ok (.iload_n 1, 1) := by decide +kernel
theorem dX10_begin_5 : decode cX10_begin 5 = .ok (.iaload, 1) := by decide +kernel
theorem dX10_begin_6 : decode cX10_begin 6 = .ok (.istore_n 3, 1) := by decide +kernel
theorem dX10_begin_7 : decode cX10_begin 7 = .ok (.aload_n 0, 1) := by decide +kernel
theorem dX10_begin_8 : decode cX10_begin 8 = .ok (.iload_n 2, 1) := by decide +kernel
theorem dX10_begin_9 : decode cX10_begin 9 = .ok (.putfield 171, 3) := by decide +kernel
theorem dX10_begin_12 : decode cX10_begin 12 = .ok (.iload_n 3, 1) := by decide +kernel
theorem dX10_begin_13 : decode cX10_begin 13 = .ok (.tableswitch 215 0 11 #[63, 76, 89, 141, 215, 215, 215, 215, 215, 154, 189, 141], 63) := by decide +kernel
theorem dX10_begin_76 : decode cX10_begin 76 = .ok (.aload_n 0, 1) := by decide +kernel
theorem dX10_begin_77 : decode cX10_begin 77 = .ok (.iconst 0, 1) := by decide +kernel
theorem dX10_begin_78 : decode cX10_begin 78 = .ok (.aload_n 0, 1) := by decide +kernel
theorem dX10_begin_79 : decode cX10_begin 79 = .ok (.getfield 13, 3) := by decide +kernel
theorem dX10_begin_82 : decode cX10_begin 82 = .ok (.iload_n 1, 1) := by decide +kernel
theorem dX10_begin_83 : decode cX10_begin 83 = .ok (.iaload, 1) := by decide +kernel
theorem dX10_begin_84 : decode cX10_begin 84 = .ok (.invokevirtual 174, 3) := by decide +kernel
theorem dX10_begin_87 : decode cX10_begin 87 = .ok (.iconst (-1), 1) := by decide +kernel
theorem dX10_begin_88 : decode cX10_begin 88 = .ok (.ireturn, 1) := by decide +kernel
theorem dX10_begin_89 : decode cX10_begin 89 = .ok (.aload_n 0, 1) := by decide +kernel
theorem dX10_begin_90 : decode cX10_begin 90 = .ok (.iconst 1, 1) := by decide +kernel
theorem dX10_begin_91 : decode cX10_begin 91 = .ok (.aload_n 0, 1) := by decide +kernel
theorem dX10_begin_92 : decode cX10_begin 92 = .ok (.getfield 13, 3) := by decide +kernel
theorem dX10_begin_95 : decode cX10_begin 95 = .ok (.iload_n 1, 1) := by decide +kernel
theorem dX10_begin_96 : decode cX10_begin 96 = .ok (.iaload, 1) := by decide +kernel
theorem dX10_begin_97 : decode cX10_begin 97 = .ok (.invokevirtual 174, 3) := by decide +kernel
theorem dX10_begin_100 : decode cX10_begin 100 = .ok (.iconst (-1), 1) := by decide +kernel
theorem dX10_begin_101 : decode cX10_begin 101 = .ok (.ireturn, 1) := by decide +kernel
theorem dX10_begin_102 : decode cX10_begin 102 = .ok (.iload_n 2, 1) := by decide +kernel
theorem dX10_begin_103 : decode cX10_begin 103 = .ok (.istore 4, 2) := by decide +kernel
theorem dX10_begin_105 : decode cX10_begin 105 = .ok (.iconst 0, 1) := by decide +kernel
theorem dX10_begin_106 : decode cX10_begin 106 = .ok (.istore 5, 2) := by decide +kernel
theorem dX10_begin_108 : decode cX10_begin 108 = .ok (.iload 5, 2) := by decide +kernel
theorem dX10_begin_110 : decode cX10_begin 110 = .ok (.aload_n 0, 1) := by decide +kernel
theorem dX10_begin_111 : decode cX10_begin 111 = .ok (.getfield 13, 3) := by decide +kernel
theorem dX10_begin_114 : decode cX10_begin 114 = .ok (.iload_n 1, 1) := by decide +kernel
theorem dX10_begin_115 : decode cX10_begin 115 = .ok (.iaload, 1) := by decide +kernel
theorem dX10_begin_116 : decode cX10_begin 116 = .ok (.if_icmp .ge 18, 3) := by decide +kernel
theorem dX10_begin_119 : decode cX10_begin 119 = .ok (.aload_n 0, 1) := by decide +kernel
theorem dX10_begin_120 : decode cX10_begin 120 = .ok (.getfield 37, 3) := by decide +kernel
theorem dX10_begin_123 : decode cX10_begin 123 = .ok (.iload 4, 2) := by decide +kernel
theorem dX10_begin_125 : decode cX10_begin 125 = .ok (.iaload, 1) := by decide +kernel
theorem dX10_begin_126 : decode cX10_begin 126 = .ok (.istore 4, 2) := by decide +kernel
theorem dX10_begin_128 : decode cX10_begin 128 = .ok (.iinc 5 1, 3) := by decide +kernel
theorem dX10_begin_131 : decode cX10_begin 131 = .ok (.goto (-23), 3) := by decide +kernel
theorem dX10_begin_134 : decode cX10_begin 134 = .ok (.aload_n 0, 1) := by decide +kernel
theorem dX10_begin_135 : decode cX10_begin 135 = .ok (.aload_n 0, 1) := by decide +kernel
theorem dX10_begin_136 : decode cX10_begin 136 = .ok (.getfield 31, 3) := by decide +kernel
theorem dX10_begin_139 : decode cX10_begin 139 = .ok (.iload 4, 2) := by decide +kernel
theorem dX10_begin_141 : decode cX10_begin 141 = .ok (.iaload, 1) := by decide +kernel
theorem dX10_begin_142 : decode cX10_begin 142 = .ok (.aload_n 0, 1) := by decide +kernel
theorem dX10_begin_143 : decode cX10_begin 143 = .ok (.getfield 34, 3) := by decide +kernel
theorem dX10_begin_146 : decode cX10_begin 146 = .ok (.iload 4, 2) := by decide +kernel
theorem dX10_begin_148 : decode cX10_begin 148 = .ok (.iaload, 1) := by decide +kernel
theorem dX10_begin_149 : decode cX10_begin 149 = .ok (.invokevirtual 174, 3) := by decide +kernel
theorem dX10_begin_152 : decode cX10_begin 152 = .ok (.iconst (-1), 1) := by decide +kernel
theorem dX10_begin_153 : decode cX10_begin 153 = .ok (.ireturn, 1) := by decide +kernel
theorem dX10_begin_154 : decode cX10_begin 154 = .ok (.aload_n 0, 1) := by decide +kernel
theorem dX10_begin_155 : decode cX10_begin 155 = .ok (.iconst 2, 1) := by decide +kernel
theorem dX10_begin_156 : decode cX10_begin 156 = .ok (.aload_n 0, 1) := by decide +kernel
theorem dX10_begin_157 : decode cX10_begin 157 = .ok (.iload_n 1, 1) := by decide +kernel
theorem dX10_begin_158 : decode cX10_begin 158 = .ok (.iload_n 2, 1) := by decide +kernel
theorem dX10_begin_159 : decode cX10_begin 159 = .ok (.invokevirtual 178, 3) := by decide +kernel
theorem dX10_begin_162 : decode cX10_begin 162 = .ok (.invokevirtual 174, 3) := by decide +kernel
theorem dX10_begin_165 : decode cX10_begin 165 = .ok (.iconst (-1), 1) := by decide +kernel
theorem dX10_begin_166 : decode cX10_begin 166 = .ok (.ireturn, 1) := by decide +kernel
theorem dX10_begin_167 : decode cX10_begin 167 = .ok (.aload_n 0, 1) := by decide +kernel
theorem dX10_begin_168 : decode cX10_begin 168 = .ok (.getfield 64, 3) := by decide +kernel
theorem dX10_begin_171 : decode cX10_begin 171 = .ok (.aload_n 0, 1) := by decide +kernel
theorem dX10_begin_172 : decode cX10_begin 172 = .ok (.getfield 181, 3) := by decide +kernel
theorem dX10_begin_175 : decode cX10_begin 175 = .ok (.aload_n 0, 1) := by decide +kernel
theorem dX10_begin_176 : decode cX10_begin 176 = .ok (.getfield 159, 3) := by decide +kernel
theorem dX10_begin_179 : decode cX10_begin 179 = .ok (.iastore, 1) := by decide +kernel
theorem dX10_begin_180 : decode cX10_begin 180 = .ok (.aload_n 0, 1) := by decide +kernel
theorem dX10_begin_181 : decode cX10_begin 181 = .ok (.dup, 1) := by decide +kernel
theorem dX10_begin_182 : decode cX10_begin 182 = .ok (.getfield 181, 3) := by decide +kernel
theorem dX10_begin_185 : decode cX10_begin 185 = .ok (.iconst 1, 1) := by decide +kernel
theorem dX10_begin_186 : decode cX10_begin 186 = .ok (.iadd, 1) := by decide +kernel
theorem dX10_begin_187 : decode cX10_begin 187 = .ok (.putfield 181, 3) := by decide +kernel
theorem dX10_begin_190 : decode cX10_begin 190 = .ok (.aload_n 0, 1) := by decide +kernel
theorem dX10_begin_191 : decode cX10_begin 191 = .ok (.iconst 0, 1) := by decide +kernel
theorem dX10_begin_192 : decode cX10_begin 192 = .ok (.putfield 159, 3) := by decide +kernel
theorem dX10_begin_195 : decode cX10_begin 195 = .ok (.aload_n 0, 1) := by decide +kernel
theorem dX10_begin_196 : decode cX10_begin 196 = .ok (.getfield 13, 3) := by decide +kernel
theorem dX10_begin_199 : decode cX10_begin 199 = .ok (.iload_n 1, 1) := by decide +kernel
theorem dX10_begin_200 : decode cX10_begin 200 = .ok (.iaload, 1) := by decide +kernel
theorem dX10_begin_201 : decode cX10_begin 201 = .ok (.ireturn, 1) := by decide +kernel
theorem dX10_begin_202 : decode cX10_begin 202 = .ok (.aload_n 0, 1) := by decide +kernel
theorem dX10_begin_203 : decode cX10_begin 203 = .ok (.aload_n 0, 1) := by decide +kernel
theorem dX10_begin_204 : decode cX10_begin 204 = .ok (.iconst 3, 1) := by decide +kernel
theorem dX10_begin_205 : decode cX10_begin 205 = .ok (.aload_n 0, 1) := by decide +kernel
theorem dX10_begin_206 : decode cX10_begin 206 = .ok (.getfield 159, 3) := by decide +kernel
theorem dX10_begin_209 : decode cX10_begin 209 = .ok (.iload_n 2, 1) := by decide +kernel
theorem dX10_begin_210 : decode cX10_begin 210 = .ok (.invokevirtual 184, 3) := by decide +kernel
theorem dX10_begin_213 : decode cX10_begin 213 = .ok (.putfield 171, 3) := by decide +kernel
theorem dX10_begin_216 : decode cX10_begin 216 = .ok (.aload_n 0, 1) := by decide +kernel
theorem dX10_begin_217 : decode cX10_begin 217 = .ok (.iconst 0, 1) := by decide +kernel
theorem dX10_begin_218 : decode cX10_begin 218 = .ok (.putfield 159, 3) := by decide +kernel
theorem dX10_begin_221 : decode cX10_begin 221 = .ok (.aload_n 0, 1) := by decide +kernel
theorem dX10_begin_222 : decode cX10_begin 222 = .ok (.getfield 13, 3) := by decide +kernel
theorem dX10_begin_225 : decode cX10_begin 225 = .ok (.iload_n 1, 1) := by decide +kernel
theorem dX10_begin_226 : decode cX10_begin 226 = .ok (.iaload, 1) := by decide +kernel
theorem dX10_begin_227 : decode cX10_begin 227 = .ok (.ireturn, 1) := by decide +kernel
theorem dX10_begin_228 : decode cX10_begin 228 = .ok (.aload_n 0, 1) := by decide +kernel
theorem dX10_begin_229 : decode cX10_begin 229 = .ok (.iload_n 3, 1) := by decide +kernel
theorem dX10_begin_230 : decode cX10_begin 230 = .ok (.iload_n 1, 1) := by decide +kernel
theorem dX10_begin_231 : decode cX10_begin 231 = .ok (.iload_n 2, 1) := by decide +kernel
theorem dX10_begin_232 : decode cX10_begin 232 = .ok (.iconst (-1), 1) := by decide +kernel
theorem dX10_begin_233 : decode cX10_begin 233 = .ok (.iconst 0, 1) := by decide +kernel
theorem dX10_begin_234 : decode cX10_begin 234 = .ok (.invokevirtual 188, 3) := by decide +kernel
theorem dX10_begin_237 : decode cX10_begin 237 = .ok (.aload_n 0, 1) := by decide +kernel
theorem dX10_begin_238 : decode cX10_begin 238 = .ok (.getfield 13, 3) := by decide +kernel
theorem dX10_begin_241 : decode cX10_begin 241 = .ok (.iload_n 1, 1) := by decide +kernel
theorem dX10_begin_242 : decode cX10_begin 242 = .ok (.iaload, 1) := by decide +kernel
theorem dX10_begin_243 : decode cX10_begin 243 = .ok (.ireturn, 1) := by decide +kernel
theorem dX10_call_0 : decode cX10_call 0 = .ok (.iload_n 1, 1) := by decide +kernel
theorem dX10_call_1 : decode cX10_call 1 = .ok (.iconst 3, 1) := by decide +kernel
theorem dX10_call_2 : decode cX10_call 2 = .ok (.if_icmp .ne 33, 3) := by decide +kernel
theorem dX10_call_5 : decode cX10_call 5 = .ok (.aload_n 0, 1) := by decide +kernel
theorem dX10_call_6 : decode cX10_call 6 = .ok (.getfield 64, 3) := by decide +kernel
theorem dX10_call_9 : decode cX10_call 9 = .ok (.aload_n 0, 1) := by decide +kernel
theorem dX10_call_10 : decode cX10_call 10 = .ok (.getfield 181, 3) := by decide +kernel
theorem dX10_call_13 : decode cX10_call 13 = .ok (.aload_n 0, 1) := by decide +kernel
theorem dX10_call_14 : decode cX10_call 14 = .ok (.getfield 159, 3) := by decide +kernel
theorem dX10_call_17 : decode cX10_call 17 = .ok (.iastore, 1) := by decide +kernel
theorem dX10_call_18 : decode cX10_call 18 = .ok (.aload_n 0, 1) := by decide +kernel
theorem dX10_call_19 : decode cX10_call 19 = .ok (.dup, 1) := by decide +kernel
theorem dX10_call_20 : decode cX10_call 20 = .ok (.getfield 181, 3) := by decide +kernel
theorem dX10_call_23 : decode cX10_call 23 = .ok (.iconst 1, 1) := by decide +kernel
theorem dX10_call_24 : decode cX10_call 24 = .ok (.iadd, 1) := by decide +kernel
theorem dX10_call_25 : decode cX10_call 25 = .ok (.putfield 181, 3) := by decide +kernel
theorem dX10_call_28 : decode cX10_call 28 = .ok (.aload_n 0, 1) := by decide +kernel
theorem dX10_call_29 : decode cX10_call 29 = .ok (.iload_n 2, 1) := by decide +kernel
theorem dX10_call_30 : decode cX10_call 30 = .ok (.putfield 159, 3) := by decide +kernel
theorem dX10_call_33 : decode cX10_call 33 = .ok (.iconst (-1), 1) := by decide +kernel
theorem dX10_call_34 : decode cX10_call 34 = .ok (.ireturn, 1) := by decide +kernel
theorem dX10_call_35 : decode cX10_call 35 = .ok (.iload_n 1, 1) := by decide +kernel
theorem dX10_call_36 : decode cX10_call 36 = .ok (.iconst 2, 1) := by decide +kernel
theorem dX10_call_37 : decode cX10_call 37 = .ok (.if_icmp .eq 10, 3) := by decide +kernel
theorem dX10_call_40 : decode cX10_call 40 = .ok (.aload_n 0, 1) := by decide +kernel
theorem dX10_call_41 : decode cX10_call 41 = .ok (.iconst 1, 1) := by decide +kernel
theorem dX10_call_42 : decode cX10_call 42 = .ok (.putfield 192, 3) := by decide +kernel
theorem dX10_call_45 : decode cX10_call 45 = .ok (.iconst (-1), 1) := by decide +kernel
theorem dX10_call_46 : decode cX10_call 46 = .ok (.ireturn, 1) := by decide +kernel
theorem dX10_call_47 : decode cX10_call 47 = .ok (.aload_n 0, 1) := by decide +kernel
theorem dX10_call_48 : decode cX10_call 48 = .ok (.getfield 40, 3) := by decide +kernel
theorem dX10_call_51 : decode cX10_call 51 = .ok (.iload_n 2, 1) := by decide +kernel
theorem dX10_call_52 : decode cX10_call 52 = .ok (.iaload, 1) := by decide +kernel
theorem dX10_call_53 : decode cX10_call 53 = .ok (.istore_n 3, 1) := by decide +kernel
theorem dX10_call_54 : decode cX10_call 54 = .ok (.aload_n 0, 1) := by decide +kernel
theorem dX10_call_55 : decode cX10_call 55 = .ok (.getfield 7, 3) := by decide +kernel
theorem dX10_call_58 : decode cX10_call 58 = .ok (.iload_n 3, 1) := by decide +kernel
theorem dX10_call_59 : decode cX10_call 59 = .ok (.iaload, 1) := by decide +kernel
theorem dX10_call_60 : decode cX10_call 60 = .ok (.bipush 11, 2) := by decide +kernel
theorem dX10_call_62 : decode cX10_call 62 = .ok (.if_icmp .ne 18, 3) := by decide +kernel
theorem dX10_call_65 : decode cX10_call 65 = .ok (.aload_n 0, 1) := by decide +kernel
theorem dX10_call_66 : decode cX10_call 66 = .ok (.iconst 2, 1) := by decide +kernel
theorem dX10_call_67 : decode cX10_call 67 = .ok (.iload_n 2, 1) := by decide +kernel
theorem dX10_call_68 : decode cX10_call 68 = .ok (.aload_n 0, 1) := by decide +kernel
theorem dX10_call_69 : decode cX10_call 69 = .ok (.getfield 43, 3) := by decide +kernel
theorem dX10_call_72 : decode cX10_call 72 = .ok (.iload_n 2, 1) := by decide +kernel
theorem dX10_call_73 : decode cX10_call 73 = .ok (.iaload, 1) := by decide +kernel
theorem dX10_call_74 : decode cX10_call 74 = .ok (.invokevirtual 184, 3) := by decide +kernel
theorem dX10_call_77 : decode cX10_call 77 = .ok (.goto 9, 3) := by decide +kernel
theorem dX10_call_80 : decode cX10_call 80 = .ok (.aload_n 0, 1) := by decide +kernel
theorem dX10_call_81 : decode cX10_call 81 = .ok (.getfield 43, 3) := by decide +kernel
theorem dX10_call_84 : decode cX10_call 84 = .ok (.iload_n 2, 1) := by decide +kernel
theorem dX10_call_85 : decode cX10_call 85 = .ok (.iaload, 1) := by decide +kernel
theorem dX10_call_86 : decode cX10_call 86 = .ok (.istore 4, 2) := by decide +kernel
theorem dX10_call_88 : decode cX10_call 88 = .ok (.aload_n 0, 1) := by decide +kernel
theorem dX10_call_89 : decode cX10_call 89 = .ok (.aload_n 0, 1) := by decide +kernel
theorem dX10_call_90 : decode cX10_call 90 = .ok (.aload_n 0, 1) := by decide +kernel
theorem dX10_call_91 : decode cX10_call 91 = .ok (.getfield 162, 3) := by decide +kernel
theorem dX10_call_94 : decode cX10_call 94 = .ok (.aload_n 0, 1) := by decide +kernel
theorem dX10_call_95 : decode cX10_call 95 = .ok (.getfield 165, 3) := by decide +kernel
theorem dX10_call_98 : decode cX10_call 98 = .ok (.iload 4, 2) := by decide +kernel
theorem dX10_call_100 : decode cX10_call 100 = .ok (.invokevirtual 184, 3) := by decide +kernel
theorem dX10_call_103 : decode cX10_call 103 = .ok (.putfield 171, 3) := by decide +kernel
theorem dX10_call_106 : decode cX10_call 106 = .ok (.aload_n 0, 1) := by decide +kernel
theorem dX10_call_107 : decode cX10_call 107 = .ok (.getfield 13, 3) := by decide +kernel
theorem dX10_call_110 : decode cX10_call 110 = .ok (.iload_n 3, 1) := by decide +kernel
theorem dX10_call_111 : decode cX10_call 111 = .ok (.iaload, 1) := by decide +kernel
theorem dX10_call_112 : decode cX10_call 112 = .ok (.ireturn, 1) := by decide +kernel
theorem dX10_goOn_0 : decode cX10_goOn 0 = .ok (.aload_n 0, 1) := by decide +kernel
theorem dX10_goOn_1 : decode cX10_goOn 1 = .ok (.getfield 159, 3) := by decide +kernel
theorem dX10_goOn_4 : decode cX10_goOn 4 = .ok (.istore_n 1, 1) := by decide +kernel
theorem dX10_goOn_5 : decode cX10_goOn 5 = .ok (.aload_n 0, 1) := by decide +kernel
theorem dX10_goOn_6 : decode cX10_goOn 6 = .ok (.getfield 49, 3) := by decide +kernel
theorem dX10_goOn_9 : decode cX10_goOn 9 = .ok (.iload_n 1, 1) := by decide +kernel
theorem dX10_goOn_10 : decode cX10_goOn 10 = .ok (.iaload, 1) := by decide +kernel
theorem dX10_goOn_11 : decode cX10_goOn 11 = .ok (.istore_n 2, 1) := by decide +kernel
theorem dX10_goOn_12 : decode cX10_goOn 12 = .ok (.aload_n 0, 1) := by decide +kernel
theorem dX10_goOn_13 : decode cX10_goOn 13 = .ok (.getfield 46, 3) := by decide +kernel
theorem dX10_goOn_16 : decode cX10_goOn 16 = .ok (.iload_n 1, 1) := by decide +kernel
theorem dX10_goOn_17 : decode cX10_goOn 17 = .ok (.iaload, 1) := by decide +kernel
theorem dX10_goOn_18 : decode cX10_goOn 18 = .ok (.istore_n 3, 1) := by decide +kernel
theorem dX10_goOn_19 : decode cX10_goOn 19 = .ok (.aload_n 0, 1) := by decide +kernel
theorem dX10_goOn_20 : decode cX10_goOn 20 = .ok (.getfield 55, 3) := by decide +kernel
theorem dX10_goOn_23 : decode cX10_goOn 23 = .ok (.iload_n 1, 1) := by decide +kernel
theorem dX10_goOn_24 : decode cX10_goOn 24 = .ok (.iaload, 1) := by decide +kernel
theorem dX10_goOn_25 : decode cX10_goOn 25 = .ok (.iconst (-1), 1) := by decide +kernel
theorem dX10_goOn_26 : decode cX10_goOn 26 = .ok (.if_icmp .ne 7, 3) := by decide +kernel
theorem dX10_goOn_29 : decode cX10_goOn 29 = .ok (.iconst 1, 1) := by decide +kernel
theorem dX10_goOn_30 : decode cX10_goOn 30 = .ok (.goto 4, 3) := by decide +kernel
theorem dX10_goOn_33 : decode cX10_goOn 33 = .ok (.iconst 0, 1) := by decide +kernel
theorem dX10_goOn_34 : decode cX10_goOn 34 = .ok (.istore 4, 2) := by decide +kernel
theorem dX10_goOn_36 : decode cX10_goOn 36 = .ok (.aload_n 0, 1) := by decide +kernel
theorem dX10_goOn_37 : decode cX10_goOn 37 = .ok (.aload_n 0, 1) := by decide +kernel
theorem dX10_goOn_38 : decode cX10_goOn 38 = .ok (.getfield 61, 3) := by decide +kernel
theorem dX10_goOn_41 : decode cX10_goOn 41 = .ok (.iload_n 1, 1) := by decide +kernel
theorem dX10_goOn_42 : decode cX10_goOn 42 = .ok (.iaload, 1) := by decide +kernel
theorem dX10_goOn_43 : decode cX10_goOn 43 = .ok (.putfield 159, 3) := by decide +kernel
theorem dX10_goOn_46 : decode cX10_goOn 46 = .ok (.aload_n 0, 1) := by decide +kernel
theorem dX10_goOn_47 : decode cX10_goOn 47 = .ok (.aload_n 0, 1) := by decide +kernel
theorem dX10_goOn_48 : decode cX10_goOn 48 = .ok (.getfield 52, 3) := by decide +kernel
theorem dX10_goOn_51 : decode cX10_goOn 51 = .ok (.iload_n 1, 1) := by decide +kernel
theorem dX10_goOn_52 : decode cX10_goOn 52 = .ok (.iaload, 1) := by decide +kernel
theorem dX10_goOn_53 : decode cX10_goOn 53 = .ok (.putfield 171, 3) := by decide +kernel
theorem dX10_goOn_56 : decode cX10_goOn 56 = .ok (.iload_n 3, 1) := by decide +kernel
theorem dX10_goOn_57 : decode cX10_goOn 57 = .ok (.bipush 7, 2) := by decide +kernel
theorem dX10_goOn_59 : decode cX10_goOn 59 = .ok (.if_icmp .ne 44, 3) := by decide +kernel
theorem dX10_goOn_62 : decode cX10_goOn 62 = .ok (.aload_n 0, 1) := by decide +kernel
theorem dX10_goOn_63 : decode cX10_goOn 63 = .ok (.aload_n 0, 1) := by decide +kernel
theorem dX10_goOn_64 : decode cX10_goOn 64 = .ok (.getfield 162, 3) := by decide +kernel
theorem dX10_goOn_67 : decode cX10_goOn 67 = .ok (.iconst 1, 1) := by decide +kernel
theorem dX10_goOn_68 : decode cX10_goOn 68 = .ok (.if_icmp .eq 7, 3) := by decide +kernel
theorem dX10_goOn_71 : decode cX10_goOn 71 = .ok (.iconst 1, 1) := by decide +kernel
theorem dX10_goOn_72 : decode cX10_goOn 72 = .ok (.goto 4, 3) := by decide +kernel
theorem dX10_goOn_75 : decode cX10_goOn 75 = .ok (.iconst 0, 1) := by decide +kernel
theorem dX10_goOn_76 : decode cX10_goOn 76 = .ok (.putfield 192, 3) := by decide +kernel
theorem dX10_goOn_79 : decode cX10_goOn 79 = .ok (.aload_n 0, 1) := by decide +kernel
theorem dX10_goOn_80 : decode cX10_goOn 80 = .ok (.getfield 165, 3) := by decide +kernel
theorem dX10_goOn_83 : decode cX10_goOn 83 = .ok (.iconst 1, 1) := by decide +kernel
theorem dX10_goOn_84 : decode cX10_goOn 84 = .ok (.if_icmp .ne 12, 3) := by decide +kernel
theorem dX10_goOn_87 : decode cX10_goOn 87 = .ok (.aload_n 0, 1) := by decide +kernel
theorem dX10_goOn_88 : decode cX10_goOn 88 = .ok (.getfield 16, 3) := by decide +kernel
theorem dX10_goOn_91 : decode cX10_goOn 91 = .ok (.iload_n 2, 1) := by decide +kernel
theorem dX10_goOn_92 : decode cX10_goOn 92 = .ok (.iaload, 1) := by decide +kernel
theorem dX10_goOn_93 : decode cX10_goOn 93 = .ok (.goto 9, 3) := by decide +kernel
theorem dX10_goOn_96 : decode cX10_goOn 96 = .ok (.aload_n 0, 1) := by decide +kernel
theorem dX10_goOn_97 : decode cX10_goOn 97 = .ok (.getfield 19, 3) := by decide +kernel
theorem dX10_goOn_100 : decode cX10_goOn 100 = .ok (.iload_n 2, 1) := by decide +kernel
theorem dX10_goOn_101 : decode cX10_goOn 101 = .ok (.iaload, 1) := by decide +kernel
theorem dX10_goOn_102 : decode cX10_goOn 102 = .ok (.ireturn, 1) := by decide +kernel
theorem dX10_goOn_103 : decode cX10_goOn 103 = .ok (.iload_n 3, 1) := by decide +kernel
theorem dX10_goOn_104 : decode cX10_goOn 104 = .ok (.bipush 8, 2) := by decide +kernel
theorem dX10_goOn_106 : decode cX10_goOn 106 = .ok (.if_icmp .ne 32, 3) := by decide +kernel
theorem dX10_goOn_109 : decode cX10_goOn 109 = .ok (.aload_n 0, 1) := by decide +kernel
theorem dX10_goOn_110 : decode cX10_goOn 110 = .ok (.aload_n 0, 1) := by decide +kernel
theorem dX10_goOn_111 : decode cX10_goOn 111 = .ok (.aload_n 0, 1) := by decide +kernel
theorem dX10_goOn_112 : decode cX10_goOn 112 = .ok (.getfield 162, 3) := by decide +kernel
theorem dX10_goOn_115 : decode cX10_goOn 115 = .ok (.aload_n 0, 1) := by decide +kernel
theorem dX10_goOn_116 : decode cX10_goOn 116 = .ok (.getfield 165, 3) := by decide +kernel
theorem dX10_goOn_119 : decode cX10_goOn 119 = .ok (.aload_n 0, 1) := by decide +kernel
theorem dX10_goOn_120 : decode cX10_goOn 120 = .ok (.getfield 52, 3) := by decide +kernel
theorem dX10_goOn_123 : decode cX10_goOn 123 = .ok (.iload_n 1, 1) := by decide +kernel
theorem dX10_goOn_124 : decode cX10_goOn 124 = .ok (.iaload, 1) := by decide +kernel
theorem dX10_goOn_125 : decode cX10_goOn 125 = .ok (.invokevirtual 184, 3) := by decide +kernel
theorem dX10_goOn_128 : decode cX10_goOn 128 = .ok (.putfield 171, 3) := by decide +kernel
theorem dX10_goOn_131 : decode cX10_goOn 131 = .ok (.aload_n 0, 1) := by decide +kernel
theorem dX10_goOn_132 : decode cX10_goOn 132 = .ok (.getfield 16, 3) := by decide +kernel
theorem dX10_goOn_135 : decode cX10_goOn 135 = .ok (.iload_n 2, 1) := by decide +kernel
theorem dX10_goOn_136 : decode cX10_goOn 136 = .ok (.iaload, 1) := by decide +kernel
theorem dX10_goOn_137 : decode cX10_goOn 137 = .ok (.ireturn, 1) := by decide +kernel
theorem dX10_goOn_138 : decode cX10_goOn 138 = .ok (.iload 4, 2) := by decide +kernel
theorem dX10_goOn_140 : decode cX10_goOn 140 = .ok (.ifCond .eq 30, 3) := by decide +kernel
theorem dX10_goOn_143 : decode cX10_goOn 143 = .ok (.aload_n 0, 1) := by decide +kernel
theorem dX10_goOn_144 : decode cX10_goOn 144 = .ok (.iload_n 3, 1) := by decide +kernel
theorem dX10_goOn_145 : decode cX10_goOn 145 = .ok (.iload_n 2, 1) := by decide +kernel
theorem dX10_goOn_146 : decode cX10_goOn 146 = .ok (.aload_n 0, 1) := by decide +kernel
theorem dX10_goOn_147 : decode cX10_goOn 147 = .ok (.getfield 52, 3) := by decide +kernel
theorem dX10_goOn_150 : decode cX10_goOn 150 = .ok (.iload_n 1, 1) := by decide +kernel
theorem dX10_goOn_151 : decode cX10_goOn 151 = .ok (.iaload, 1) := by decide +kernel
theorem dX10_goOn_152 : decode cX10_goOn 152 = .ok (.aload_n 0, 1) := by decide +kernel
theorem dX10_goOn_153 : decode cX10_goOn 153 = .ok (.getfield 162, 3) := by decide +kernel
theorem dX10_goOn_156 : decode cX10_goOn 156 = .ok (.aload_n 0, 1) := by decide +kernel
theorem dX10_goOn_157 : decode cX10_goOn 157 = .ok (.getfield 165, 3) := by decide +kernel
theorem dX10_goOn_160 : decode cX10_goOn 160 = .ok (.invokevirtual 188, 3) := by decide +kernel
theorem dX10_goOn_163 : decode cX10_goOn 163 = .ok (.aload_n 0, 1) := by decide +kernel
theorem dX10_goOn_164 : decode cX10_goOn 164 = .ok (.getfield 16, 3) := by decide +kernel
theorem dX10_goOn_167 : decode cX10_goOn 167 = .ok (.iload_n 2, 1) := by decide +kernel
theorem dX10_goOn_168 : decode cX10_goOn 168 = .ok (.iaload, 1) := by decide +kernel
theorem dX10_goOn_169 : decode cX10_goOn 169 = .ok (.ireturn, 1) := by decide +kernel
theorem dX10_goOn_170 : decode cX10_goOn 170 = .ok (.iload_n 3, 1) := by decide +kernel
theorem dX10_goOn_171 : decode cX10_goOn 171 = .ok (.iconst 4, 1) := by decide +kernel
theorem dX10_goOn_172 : decode cX10_goOn 172 = .ok (.if_icmp .ne 20, 3) := by decide +kernel
theorem dX10_goOn_175 : decode cX10_goOn 175 = .ok (.aload_n 0, 1) := by decide +kernel
theorem dX10_goOn_176 : decode cX10_goOn 176 = .ok (.aload_n 0, 1) := by decide +kernel
theorem dX10_goOn_177 : decode cX10_goOn 177 = .ok (.getfield 55, 3) := by decide +kernel
theorem dX10_goOn_180 : decode cX10_goOn 180 = .ok (.iload_n 1, 1) := by decide +kernel
theorem dX10_goOn_181 : decode cX10_goOn 181 = .ok (.iaload, 1) := by decide +kernel
theorem dX10_goOn_182 : decode cX10_goOn 182 = .ok (.aload_n 0, 1) := by decide +kernel
theorem dX10_goOn_183 : decode cX10_goOn 183 = .ok (.getfield 58, 3) := by decide +kernel
theorem dX10_goOn_186 : decode cX10_goOn 186 = .ok (.iload_n 1, 1) := by decide +kernel
theorem dX10_goOn_187 : decode cX10_goOn 187 = .ok (.iaload, 1) := by decide +kernel
theorem dX10_goOn_188 : decode cX10_goOn 188 = .ok (.invokevirtual 196, 3) := by decide +kernel
theorem dX10_goOn_191 : decode cX10_goOn 191 = .ok (.ireturn, 1) := by decide +kernel
theorem dX10_goOn_192 : decode cX10_goOn 192 = .ok (.aload_n 0, 1) := by decide +kernel
theorem dX10_goOn_193 : decode cX10_goOn 193 = .ok (.aload_n 0, 1) := by decide +kernel
theorem dX10_goOn_194 : decode cX10_goOn 194 = .ok (.getfield 55, 3) := by decide +kernel
theorem dX10_goOn_197 : decode cX10_goOn 197 = .ok (.iload_n 1, 1) := by decide +kernel
theorem dX10_goOn_198 : decode cX10_goOn 198 = .ok (.iaload, 1) := by decide +kernel
theorem dX10_goOn_199 : decode cX10_goOn 199 = .ok (.ifCond .ne 10, 3) := by decide +kernel
theorem dX10_goOn_202 : decode cX10_goOn 202 = .ok (.aload_n 0, 1) := by decide +kernel
theorem dX10_goOn_203 : decode cX10_goOn 203 = .ok (.getfield 162, 3) := by decide +kernel
theorem dX10_goOn_206 : decode cX10_goOn 206 = .ok (.ifCond .eq 7, 3) := by decide +kernel
theorem dX10_goOn_209 : decode cX10_goOn 209 = .ok (.iconst 1, 1) := by decide +kernel
theorem dX10_goOn_210 : decode cX10_goOn 210 = .ok (.goto 4, 3) := by decide +kernel
theorem dX10_goOn_213 : decode cX10_goOn 213 = .ok (.iconst 0, 1) := by decide +kernel
theorem dX10_goOn_214 : decode cX10_goOn 214 = .ok (.putfield 192, 3) := by decide +kernel
theorem dX10_goOn_217 : decode cX10_goOn 217 = .ok (.iload_n 3, 1) := by decide +kernel
theorem dX10_goOn_218 : decode cX10_goOn 218 = .ok (.iconst 5, 1) := by decide +kernel
theorem dX10_goOn_219 : decode cX10_goOn 219 = .ok (.if_icmp .ne 22, 3) := by decide +kernel
theorem dX10_goOn_222 : decode cX10_goOn 222 = .ok (.aload_n 0, 1) := by decide +kernel
theorem dX10_goOn_223 : decode cX10_goOn 223 = .ok (.iconst 0, 1) := by decide +kernel
theorem dX10_goOn_224 : decode cX10_goOn 224 = .ok (.aload_n 0, 1) := by decide +kernel
theorem dX10_goOn_225 : decode cX10_goOn 225 = .ok (.getfield 58, 3) := by decide +kernel
theorem dX10_goOn_228 : decode cX10_goOn 228 = .ok (.iload_n 1, 1) := by decide +kernel
theorem dX10_goOn_229 : decode cX10_goOn 229 = .ok (.iaload, 1) := by decide +kernel
theorem dX10_goOn_230 : decode cX10_goOn 230 = .ok (.aload_n 0, 1) := by decide +kernel
theorem dX10_goOn_231 : decode cX10_goOn 231 = .ok (.getfield 165, 3) := by decide +kernel
theorem dX10_goOn_234 : decode cX10_goOn 234 = .ok (.iadd, 1) := by decide +kernel
theorem dX10_goOn_235 : decode cX10_goOn 235 = .ok (.invokevirtual 174, 3) := by decide +kernel
theorem dX10_goOn_238 : decode cX10_goOn 238 = .ok (.goto 26, 3) := by decide +kernel
theorem dX10_goOn_241 : decode cX10_goOn 241 = .ok (.aload_n 0, 1) := by decide +kernel
theorem dX10_goOn_242 : decode cX10_goOn 242 = .ok (.iconst 1, 1) := by decide +kernel
theorem dX10_goOn_243 : decode cX10_goOn 243 = .ok (.aload_n 0, 1) := by decide +kernel
theorem dX10_goOn_244 : decode cX10_goOn 244 = .ok (.getfield 58, 3) := by decide +kernel
theorem dX10_goOn_247 : decode cX10_goOn 247 = .ok (.iload_n 1, 1) := by decide +kernel
theorem dX10_goOn_248 : decode cX10_goOn 248 = .ok (.iaload, 1) := by decide +kernel
theorem dX10_goOn_249 : decode cX10_goOn 249 = .ok (.aload_n 0, 1) := by decide +kernel
theorem dX10_goOn_250 : decode cX10_goOn 250 = .ok (.getfield 165, 3) := by decide +kernel
theorem dX10_goOn_253 : decode cX10_goOn 253 = .ok (.if_icmp .ge 7, 3) := by decide +kernel
theorem dX10_goOn_256 : decode cX10_goOn 256 = .ok (.iconst 1, 1) := by decide +kernel
theorem dX10_goOn_257 : decode cX10_goOn 257 = .ok (.goto 4, 3) := by decide +kernel
theorem dX10_goOn_260 : decode cX10_goOn 260 = .ok (.iconst 0, 1) := by decide +kernel
theorem dX10_goOn_261 : decode cX10_goOn 261 = .ok (.invokevirtual 174, 3) := by decide +kernel
theorem dX10_goOn_264 : decode cX10_goOn 264 = .ok (.iconst (-1), 1) := by decide +kernel
theorem dX10_goOn_265 : decode cX10_goOn 265 = .ok (.ireturn, 1) := by decide +kernel
theorem dX10_run_0 : decode cX10_run 0 = .ok (.aload_n 0, 1) := by decide +kernel
theorem dX10_run_1 : decode cX10_run 1 = .ok (.iconst 0, 1) := by decide +kernel
theorem dX10_run_2 : decode cX10_run 2 = .ok (.putfield 153, 3) := by decide +kernel
theorem dX10_run_5 : decode cX10_run 5 = .ok (.aload_n 0, 1) := by decide +kernel
theorem dX10_run_6 : decode cX10_run 6 = .ok (.iconst 0, 1) := by decide +kernel
theorem dX10_run_7 : decode cX10_run 7 = .ok (.putfield 168, 3) := by decide +kernel
theorem dX10_run_10 : decode cX10_run 10 = .ok (.aload_n 0, 1) := by decide +kernel
theorem dX10_run_11 : decode cX10_run 11 = .ok (.iconst 0, 1) := by decide +kernel
theorem dX10_run_12 : decode cX10_run 12 = .ok (.putfield 156, 3) := by decide +kernel
theorem dX10_run_15 : decode cX10_run 15 = .ok (.aload_n 0, 1) := by decide +kernel
theorem dX10_run_16 : decode cX10_run 16 = .ok (.iconst 0, 1) := by decide +kernel
theorem dX10_run_17 : decode cX10_run 17 = .ok (.putfield 181, 3) := by decide +kernel
theorem dX10_run_20 : decode cX10_run 20 = .ok (.aload_n 0, 1) := by decide +kernel
theorem dX10_run_21 : decode cX10_run 21 = .ok (.iconst 0, 1) := by decide +kernel
theorem dX10_run_22 : decode cX10_run 22 = .ok (.putfield 159, 3) := by decide +kernel
theorem dX10_run_25 : decode cX10_run 25 = .ok (.aload_n 0, 1) := by decide +kernel
theorem dX10_run_26 : decode cX10_run 26 = .ok (.iconst 0, 1) := by decide +kernel
theorem dX10_run_27 : decode cX10_run 27 = .ok (.putfield 192, 3) := by decide +kernel
theorem dX10_run_30 : decode cX10_run 30 = .ok (.aload_n 0, 1) := by decide +kernel
theorem dX10_run_31 : decode cX10_run 31 = .ok (.iconst 0, 1) := by decide +kernel
theorem dX10_run_32 : decode cX10_run 32 = .ok (.putfield 171, 3) := by decide +kernel
theorem dX10_run_35 : decode cX10_run 35 = .ok (.iconst 0, 1) := by decide +kernel
theorem dX10_run_36 : decode cX10_run 36 = .ok (.istore_n 3, 1) := by decide +kernel
theorem dX10_run_37 : decode cX10_run 37 = .ok (.iload_n 1, 1) := by decide +kernel
theorem dX10_run_38 : decode cX10_run 38 = .ok (.istore 4, 2) := by decide +kernel
theorem dX10_run_40 : decode cX10_run 40 = .ok (.iconst 1, 1) := by decide +kernel
theorem dX10_run_41 : decode cX10_run 41 = .ok (.istore 5, 2) := by decide +kernel
theorem dX10_run_43 : decode cX10_run 43 = .ok (.iload 5, 2) := by decide +kernel
theorem dX10_run_45 : decode cX10_run 45 = .ok (.ifCond .eq 106, 3) := by decide +kernel
theorem dX10_run_48 : decode cX10_run 48 = .ok (.iload 4, 2) := by decide +kernel
theorem dX10_run_50 : decode cX10_run 50 = .ok (.ifCond .lt 29, 3) := by decide +kernel
theorem dX10_run_53 : decode cX10_run 53 = .ok (.iload_n 3, 1) := by decide +kernel
theorem dX10_run_54 : decode cX10_run 54 = .ok (.iload_n 2, 1) := by decide +kernel
theorem dX10_run_55 : decode cX10_run 55 = .ok (.if_icmp .ne 6, 3) := by decide +kernel
theorem dX10_run_58 : decode cX10_run 58 = .ok (.bipush (-2), 2) := by decide +kernel
theorem dX10_run_60 : decode cX10_run 60 = .ok (.ireturn, 1) := by decide +kernel
theorem dX10_run_61 : decode cX10_run 61 = .ok (.iinc 3 1, 3) := by decide +kernel
theorem dX10_run_64 : decode cX10_run 64 = .ok (.aload_n 0, 1) := by decide +kernel
theorem dX10_run_65 : decode cX10_run 65 = .ok (.iload 4, 2) := by decide +kernel
theorem dX10_run_67 : decode cX10_run 67 = .ok (.aload_n 0, 1) := by decide +kernel
theorem dX10_run_68 : decode cX10_run 68 = .ok (.getfield 171, 3) := by decide +kernel
theorem dX10_run_71 : decode cX10_run 71 = .ok (.invokevirtual 199, 3) := by decide +kernel
theorem dX10_run_74 : decode cX10_run 74 = .ok (.istore 4, 2) := by decide +kernel
theorem dX10_run_76 : decode cX10_run 76 = .ok (.goto (-33), 3) := by decide +kernel
theorem dX10_run_79 : decode cX10_run 79 = .ok (.aload_n 0, 1) := by decide +kernel
theorem dX10_run_80 : decode cX10_run 80 = .ok (.getfield 159, 3) := by decide +kernel
theorem dX10_run_83 : decode cX10_run 83 = .ok (.ifCond .le 29, 3) := by decide +kernel
theorem dX10_run_86 : decode cX10_run 86 = .ok (.iload_n 3, 1) := by decide +kernel
theorem dX10_run_87 : decode cX10_run 87 = .ok (.iload_n 2, 1) := by decide +kernel
theorem dX10_run_88 : decode cX10_run 88 = .ok (.if_icmp .ne 6, 3) := by decide +kernel
theorem dX10_run_91 : decode cX10_run 91 = .ok (.bipush (-2), 2) := by decide +kernel
theorem dX10_run_93 : decode cX10_run 93 = .ok (.ireturn, 1) := by decide +kernel
theorem dX10_run_94 : decode cX10_run 94 = .ok (.iinc 3 1, 3) := by decide +kernel
theorem dX10_run_97 : decode cX10_run 97 = .ok (.aload_n 0, 1) := by decide +kernel
theorem dX10_run_98 : decode cX10_run 98 = .ok (.invokevirtual 202, 3) := by decide +kernel
theorem dX10_run_101 : decode cX10_run 101 = .ok (.istore 4, 2) := by decide +kernel
theorem dX10_run_103 : decode cX10_run 103 = .ok (.aload_n 0, 1) := by decide +kernel
theorem dX10_run_104 : decode cX10_run 104 = .ok (.getfield 192, 3) := by decide +kernel
theorem dX10_run_107 : decode cX10_run 107 = .ok (.ifCond .eq (-64), 3) := by decide +kernel
theorem dX10_run_110 : decode cX10_run 110 = .ok (.iconst (-1), 1) := by decide +kernel
theorem dX10_run_111 : decode cX10_run 111 = .ok (.ireturn, 1) := by decide +kernel
theorem dX10_run_112 : decode cX10_run 112 = .ok (.aload_n 0, 1) := by decide +kernel
theorem dX10_run_113 : decode cX10_run 113 = .ok (.getfield 181, 3) := by decide +kernel
theorem dX10_run_116 : decode cX10_run 116 = .ok (.ifCond .le 29, 3) := by decide +kernel
theorem dX10_run_119 : decode cX10_run 119 = .ok (.aload_n 0, 1) := by decide +kernel
theorem dX10_run_120 : decode cX10_run 120 = .ok (.dup, 1) := by decide +kernel
theorem dX10_run_121 : decode cX10_run 121 = .ok (.getfield 181, 3) := by decide +kernel
theorem dX10_run_124 : decode cX10_run 124 = .ok (.iconst 1, 1) := by decide +kernel
theorem dX10_run_125 : decode cX10_run 125 = .ok (.isub, 1) := by decide +kernel
theorem dX10_run_126 : decode cX10_run 126 = .ok (.putfield 181, 3) := by decide +kernel
theorem dX10_run_129 : decode cX10_run 129 = .ok (.aload_n 0, 1) := by decide +kernel
theorem dX10_run_130 : decode cX10_run 130 = .ok (.aload_n 0, 1) := by decide +kernel
theorem dX10_run_131 : decode cX10_run 131 = .ok (.getfield 64, 3) := by decide +kernel
theorem dX10_run_134 : decode cX10_run 134 = .ok (.aload_n 0, 1) := by decide +kernel
theorem dX10_run_135 : decode cX10_run 135 = .ok (.getfield 181, 3) := by decide +kernel
theorem dX10_run_138 : decode cX10_run 138 = .ok (.iaload, 1) := by decide +kernel
theorem dX10_run_139 : decode cX10_run 139 = .ok (.putfield 159, 3) := by decide +kernel
theorem dX10_run_142 : decode cX10_run 142 = .ok (.goto (-99), 3) := by decide +kernel
theorem dX10_run_145 : decode cX10_run 145 = .ok (.iconst 0, 1) := by decide +kernel
theorem dX10_run_146 : decode cX10_run 146 = .ok (.istore 5, 2) := by decide +kernel
theorem dX10_run_148 : decode cX10_run 148 = .ok (.goto (-105), 3) := by decide +kernel
theorem dX10_run_151 : decode cX10_run 151 = .ok (.iload_n 3, 1) := by decide +kernel
theorem dX10_run_152 : decode cX10_run 152 = .ok (.ireturn, 1) := by decide +kernel
theorem dX10_work_0 : decode cX10_work 0 = .ok (.aload_n 0, 1) := by decide +kernel
theorem dX10_work_1 : decode cX10_work 1 = .ok (.iconst 0, 1) := by decide +kernel
theorem dX10_work_2 : decode cX10_work 2 = .ok (.putfield 117, 3) := by decide +kernel
theorem dX10_work_5 : decode cX10_work 5 = .ok (.aload_n 0, 1) := by decide +kernel
theorem dX10_work_6 : decode cX10_work 6 = .ok (.iload_n 1, 1) := by decide +kernel
theorem dX10_work_7 : decode cX10_work 7 = .ok (.invokevirtual 127, 3) := by decide +kernel
theorem dX10_work_10 : decode cX10_work 10 = .ok (.ifCond .eq 12, 3) := by decide +kernel
theorem dX10_work_13 : decode cX10_work 13 = .ok (.aload_n 0, 1) := by decide +kernel
theorem dX10_work_14 : decode cX10_work 14 = .ok (.getfield 28, 3) := by decide +kernel
theorem dX10_work_17 : decode cX10_work 17 = .ok (.iload_n 1, 1) := by decide +kernel
theorem dX10_work_18 : decode cX10_work 18 = .ok (.iaload, 1) := by decide +kernel
theorem dX10_work_19 : decode cX10_work 19 = .ok (.ifCond .le 9, 3) := by decide +kernel
theorem dX10_work_22 : decode cX10_work 22 = .ok (.aload_n 0, 1) := by decide +kernel
theorem dX10_work_23 : decode cX10_work 23 = .ok (.iconst 1, 1) := by decide +kernel
theorem dX10_work_24 : decode cX10_work 24 = .ok (.invokevirtual 138, 3) := by decide +kernel
theorem dX10_work_27 : decode cX10_work 27 = .ok (.ireturn, 1) := by decide +kernel
theorem dX10_work_28 : decode cX10_work 28 = .ok (.iload_n 2, 1) := by decide +kernel
theorem dX10_work_29 : decode cX10_work 29 = .ok (.iconst 1, 1) := by decide +kernel
theorem dX10_work_30 : decode cX10_work 30 = .ok (.sipush 200, 3) := by decide +kernel
theorem dX10_work_33 : decode cX10_work 33 = .ok (.invokestatic 123, 3) := by decide +kernel
theorem dX10_work_36 : decode cX10_work 36 = .ok (.ifCond .ne 9, 3) := by decide +kernel
theorem dX10_work_39 : decode cX10_work 39 = .ok (.aload_n 0, 1) := by decide +kernel
theorem dX10_work_40 : decode cX10_work 40 = .ok (.iconst 2, 1) := by decide +kernel
theorem dX10_work_41 : decode cX10_work 41 = .ok (.invokevirtual 138, 3) := by decide +kernel
theorem dX10_work_44 : decode cX10_work 44 = .ok (.ireturn, 1) := by decide +kernel
theorem dX10_work_45 : decode cX10_work 45 = .ok (.aload_n 0, 1) := by decide +kernel
theorem dX10_work_46 : decode cX10_work 46 = .ok (.iload_n 1, 1) := by decide +kernel
theorem dX10_work_47 : decode cX10_work 47 = .ok (.iload_n 2, 1) := by decide +kernel
theorem dX10_work_48 : decode cX10_work 48 = .ok (.invokevirtual 206, 3) := by decide +kernel
theorem dX10_work_51 : decode cX10_work 51 = .ok (.istore_n 3, 1) := by decide +kernel
theorem dX10_work_52 : decode cX10_work 52 = .ok (.iload_n 3, 1) := by decide +kernel
theorem dX10_work_53 : decode cX10_work 53 = .ok (.iconst (-1), 1) := by decide +kernel
theorem dX10_work_54 : decode cX10_work 54 = .ok (.if_icmp .ne 19, 3) := by decide +kernel
theorem dX10_work_57 : decode cX10_work 57 = .ok (.aload_n 0, 1) := by decide +kernel
theorem dX10_work_58 : decode cX10_work 58 = .ok (.dup, 1) := by decide +kernel
theorem dX10_work_59 : decode cX10_work 59 = .ok (.getfield 209, 3) := by decide +kernel
theorem dX10_work_62 : decode cX10_work 62 = .ok (.iconst 1, 1) := by decide +kernel
theorem dX10_work_63 : decode cX10_work 63 = .ok (.iadd, 1) := by decide +kernel
theorem dX10_work_64 : decode cX10_work 64 = .ok (.putfield 209, 3) := by decide +kernel
theorem dX10_work_67 : decode cX10_work 67 = .ok (.aload_n 0, 1) := by decide +kernel
theorem dX10_work_68 : decode cX10_work 68 = .ok (.iconst 3, 1) := by decide +kernel
theorem dX10_work_69 : decode cX10_work 69 = .ok (.invokevirtual 138, 3) := by decide +kernel
theorem dX10_work_72 : decode cX10_work 72 = .ok (.ireturn, 1) := by decide +kernel
theorem dX10_work_73 : decode cX10_work 73 = .ok (.iload_n 3, 1) := by decide +kernel
theorem dX10_work_74 : decode cX10_work 74 = .ok (.bipush (-2), 2) := by decide +kernel
theorem dX10_work_76 : decode cX10_work 76 = .ok (.if_icmp .ne 19, 3) := by decide +kernel
theorem dX10_work_79 : decode cX10_work 79 = .ok (.aload_n 0, 1) := by decide +kernel
theorem dX10_work_80 : decode cX10_work 80 = .ok (.dup, 1) := by decide +kernel
theorem dX10_work_81 : decode cX10_work 81 = .ok (.getfield 212, 3) := by decide +kernel
theorem dX10_work_84 : decode cX10_work 84 = .ok (.iconst 1, 1) := by decide +kernel
theorem dX10_work_85 : decode cX10_work 85 = .ok (.iadd, 1) := by decide +kernel
theorem dX10_work_86 : decode cX10_work 86 = .ok (.putfield 212, 3) := by decide +kernel
theorem dX10_work_89 : decode cX10_work 89 = .ok (.aload_n 0, 1) := by decide +kernel
theorem dX10_work_90 : decode cX10_work 90 = .ok (.iconst 4, 1) := by decide +kernel
theorem dX10_work_91 : decode cX10_work 91 = .ok (.invokevirtual 138, 3) := by decide +kernel
theorem dX10_work_94 : decode cX10_work 94 = .ok (.ireturn, 1) := by decide +kernel
theorem dX10_work_95 : decode cX10_work 95 = .ok (.aload_n 0, 1) := by decide +kernel
theorem dX10_work_96 : decode cX10_work 96 = .ok (.aload_n 0, 1) := by decide +kernel
theorem dX10_work_97 : decode cX10_work 97 = .ok (.getfield 162, 3) := by decide +kernel
theorem dX10_work_100 : decode cX10_work 100 = .ok (.iconst 2, 1) := by decide +kernel
theorem dX10_work_101 : decode cX10_work 101 = .ok (.if_icmp .le 7, 3) := by decide +kernel
theorem dX10_work_104 : decode cX10_work 104 = .ok (.iconst 2, 1) := by decide +kernel
theorem dX10_work_105 : decode cX10_work 105 = .ok (.goto 7, 3) := by decide +kernel
theorem dX10_work_108 : decode cX10_work 108 = .ok (.aload_n 0, 1) := by decide +kernel
theorem dX10_work_109 : decode cX10_work 109 = .ok (.getfield 162, 3) := by decide +kernel
theorem dX10_work_112 : decode cX10_work 112 = .ok (.putfield 215, 3) := by decide +kernel
theorem dX10_work_115 : decode cX10_work 115 = .ok (.aload_n 0, 1) := by decide +kernel
theorem dX10_work_116 : decode cX10_work 116 = .ok (.aload_n 0, 1) := by decide +kernel
theorem dX10_work_117 : decode cX10_work 117 = .ok (.getfield 165, 3) := by decide +kernel
theorem dX10_work_120 : decode cX10_work 120 = .ok (.putfield 218, 3) := by decide +kernel
theorem dX10_work_123 : decode cX10_work 123 = .ok (.aload_n 0, 1) := by decide +kernel
theorem dX10_work_124 : decode cX10_work 124 = .ok (.iload_n 3, 1) := by decide +kernel
theorem dX10_work_125 : decode cX10_work 125 = .ok (.putfield 221, 3) := by decide +kernel
theorem dX10_work_128 : decode cX10_work 128 = .ok (.aload_n 0, 1) := by decide +kernel
theorem dX10_work_129 : decode cX10_work 129 = .ok (.dup, 1) := by decide +kernel
theorem dX10_work_130 : decode cX10_work 130 = .ok (.getfield 224, 3) := by decide +kernel
theorem dX10_work_133 : decode cX10_work 133 = .ok (.iconst 1, 1) := by decide +kernel
theorem dX10_work_134 : decode cX10_work 134 = .ok (.iadd, 1) := by decide +kernel
theorem dX10_work_135 : decode cX10_work 135 = .ok (.putfield 224, 3) := by decide +kernel
theorem dX10_work_138 : decode cX10_work 138 = .ok (.aload_n 0, 1) := by decide +kernel
theorem dX10_work_139 : decode cX10_work 139 = .ok (.dup, 1) := by decide +kernel
theorem dX10_work_140 : decode cX10_work 140 = .ok (.getfield 227, 3) := by decide +kernel
theorem dX10_work_143 : decode cX10_work 143 = .ok (.iload_n 3, 1) := by decide +kernel
theorem dX10_work_144 : decode cX10_work 144 = .ok (.iadd, 1) := by decide +kernel
theorem dX10_work_145 : decode cX10_work 145 = .ok (.putfield 227, 3) := by decide +kernel
theorem dX10_work_148 : decode cX10_work 148 = .ok (.aload_n 0, 1) := by decide +kernel
theorem dX10_work_149 : decode cX10_work 149 = .ok (.getfield 215, 3) := by decide +kernel
theorem dX10_work_152 : decode cX10_work 152 = .ok (.ireturn, 1) := by decide +kernel
theorem dX10_value_0 : decode cX10_value 0 = .ok (.aload_n 0, 1) := by decide +kernel
theorem dX10_value_1 : decode cX10_value 1 = .ok (.iconst 0, 1) := by decide +kernel
theorem dX10_value_2 : decode cX10_value 2 = .ok (.putfield 117, 3) := by decide +kernel
theorem dX10_value_5 : decode cX10_value 5 = .ok (.aload_n 0, 1) := by decide +kernel
theorem dX10_value_6 : decode cX10_value 6 = .ok (.getfield 224, 3) := by decide +kernel
theorem dX10_value_9 : decode cX10_value 9 = .ok (.ifCond .le 18, 3) := by decide +kernel
theorem dX10_value_12 : decode cX10_value 12 = .ok (.aload_n 0, 1) := by decide +kernel
theorem dX10_value_13 : decode cX10_value 13 = .ok (.getfield 215, 3) := by decide +kernel
theorem dX10_value_16 : decode cX10_value 16 = .ok (.iconst 2, 1) := by decide +kernel
theorem dX10_value_17 : decode cX10_value 17 = .ok (.if_icmp .ge 10, 3) := by decide +kernel
theorem dX10_value_20 : decode cX10_value 20 = .ok (.aload_n 0, 1) := by decide +kernel
theorem dX10_value_21 : decode cX10_value 21 = .ok (.getfield 218, 3) := by decide +kernel
theorem dX10_value_24 : decode cX10_value 24 = .ok (.goto 4, 3) := by decide +kernel
theorem dX10_value_27 : decode cX10_value 27 = .ok (.iconst 0, 1) := by decide +kernel
theorem dX10_value_28 : decode cX10_value 28 = .ok (.ireturn, 1) := by decide +kernel
theorem dX10_steps_0 : decode cX10_steps 0 = .ok (.aload_n 0, 1) := by decide +kernel
theorem dX10_steps_1 : decode cX10_steps 1 = .ok (.iconst 0, 1) := by decide +kernel
theorem dX10_steps_2 : decode cX10_steps 2 = .ok (.putfield 117, 3) := by decide +kernel
theorem dX10_steps_5 : decode cX10_steps 5 = .ok (.aload_n 0, 1) := by decide +kernel
theorem dX10_steps_6 : decode cX10_steps 6 = .ok (.getfield 221, 3) := by decide +kernel
theorem dX10_steps_9 : decode cX10_steps 9 = .ok (.ireturn, 1) := by decide +kernel
theorem dX10_cell_0 : decode cX10_cell 0 = .ok (.sipush 640, 3) := by decide +kernel
theorem dX10_cell_3 : decode cX10_cell 3 = .ok (.iconst 1, 1) := by decide +kernel
theorem dX10_cell_4 : decode cX10_cell 4 = .ok (.aload_n 0, 1) := by decide +kernel
theorem dX10_cell_5 : decode cX10_cell 5 = .ok (.getfield 230, 3) := by decide +kernel
theorem dX10_cell_8 : decode cX10_cell 8 = .ok (.isub, 1) := by decide +kernel
theorem dX10_cell_9 : decode cX10_cell 9 = .ok (.imul, 1) := by decide +kernel
theorem dX10_cell_10 : decode cX10_cell 10 = .ok (.aload_n 0, 1) := by decide +kernel
theorem dX10_cell_11 : decode cX10_cell 11 = .ok (.getfield 233, 3) := by decide +kernel
theorem dX10_cell_14 : decode cX10_cell 14 = .ok (.iadd, 1) := by decide +kernel
theorem dX10_cell_15 : decode cX10_cell 15 = .ok (.istore_n 2, 1) := by decide +kernel
theorem dX10_cell_16 : decode cX10_cell 16 = .ok (.aload_n 0, 1) := by decide +kernel
theorem dX10_cell_17 : decode cX10_cell 17 = .ok (.getfield 67, 3) := by decide +kernel
theorem dX10_cell_20 : decode cX10_cell 20 = .ok (.iload_n 2, 1) := by decide +kernel
theorem dX10_cell_21 : decode cX10_cell 21 = .ok (.iload_n 1, 1) := by decide +kernel
theorem dX10_cell_22 : decode cX10_cell 22 = .ok (.iastore, 1) := by decide +kernel
theorem dX10_cell_23 : decode cX10_cell 23 = .ok (.aload_n 0, 1) := by decide +kernel
theorem dX10_cell_24 : decode cX10_cell 24 = .ok (.getfield 70, 3) := by decide +kernel
theorem dX10_cell_27 : decode cX10_cell 27 = .ok (.iload_n 2, 1) := by decide +kernel
theorem dX10_cell_28 : decode cX10_cell 28 = .ok (.iconst (-1), 1) := by decide +kernel
theorem dX10_cell_29 : decode cX10_cell 29 = .ok (.iastore, 1) := by decide +kernel
theorem dX10_cell_30 : decode cX10_cell 30 = .ok (.aload_n 0, 1) := by decide +kernel
theorem dX10_cell_31 : decode cX10_cell 31 = .ok (.dup, 1) := by decide +kernel
theorem dX10_cell_32 : decode cX10_cell 32 = .ok (.getfield 233, 3) := by decide +kernel
theorem dX10_cell_35 : decode cX10_cell 35 = .ok (.iconst 1, 1) := by decide +kernel
theorem dX10_cell_36 : decode cX10_cell 36 = .ok (.iadd, 1) := by decide +kernel
theorem dX10_cell_37 : decode cX10_cell 37 = .ok (.putfield 233, 3) := by decide +kernel
theorem dX10_cell_40 : decode cX10_cell 40 = .ok (.iload_n 2, 1) := by decide +kernel
theorem dX10_cell_41 : decode cX10_cell 41 = .ok (.ireturn, 1) := by decide +kernel
theorem dX10_letterCell_0 : decode cX10_letterCell 0 = .ok (.aload_n 0, 1) := by decide +kernel
theorem dX10_letterCell_1 : decode cX10_letterCell 1 = .ok (.iconst 3, 1) := by decide +kernel
theorem dX10_letterCell_2 : decode cX10_letterCell 2 = .ok (.invokevirtual 236, 3) := by decide +kernel
theorem dX10_letterCell_5 : decode cX10_letterCell 5 = .ok (.ireturn, 1) := by decide +kernel
theorem dX10_functionCell_0 : decode cX10_functionCell 0 = .ok (.aload_n 0, 1) := by decide +kernel
theorem dX10_functionCell_1 : decode cX10_functionCell 1 = .ok (.iconst 2, 1) := by decide +kernel
theorem dX10_functionCell_2 : decode cX10_functionCell 2 = .ok (.invokevirtual 236, 3) := by decide +kernel
theorem dX10_functionCell_5 : decode cX10_functionCell 5 = .ok (.istore 5, 2) := by decide +kernel
theorem dX10_functionCell_7 : decode cX10_functionCell 7 = .ok (.aload_n 0, 1) := by decide +kernel
theorem dX10_functionCell_8 : decode cX10_functionCell 8 = .ok (.getfield 73, 3) := by decide +kernel
theorem dX10_functionCell_11 : decode cX10_functionCell 11 = .ok (.iconst 4, 1) := by decide +kernel
theorem dX10_functionCell_12 : decode cX10_functionCell 12 = .ok (.iload 5, 2) := by decide +kernel
theorem dX10_functionCell_14 : decode cX10_functionCell 14 = .ok (.imul, 1) := by decide +kernel
theorem dX10_functionCell_15 : decode cX10_functionCell 15 = .ok (.iload_n 1, 1) := by decide +kernel
theorem dX10_functionCell_16 : decode cX10_functionCell 16 = .ok (.iastore, 1) := by decide +kernel
theorem dX10_functionCell_17 : decode cX10_functionCell 17 = .ok (.aload_n 0, 1) := by decide +kernel
theorem dX10_functionCell_18 : decode cX10_functionCell 18 = .ok (.getfield 73, 3) := by decide +kernel
theorem dX10_functionCell_21 : decode cX10_functionCell 21 = .ok (.iconst 4, 1) := by decide +kernel
theorem dX10_functionCell_22 : decode cX10_functionCell 22 = .ok (.iload 5, 2) := by decide +kernel
theorem dX10_functionCell_24 : decode cX10_functionCell 24 = .ok (.imul, 1) := by decide +kernel
theorem dX10_functionCell_25 : decode cX10_functionCell 25 = .ok (.iconst 1, 1) := by decide +kernel
theorem dX10_functionCell_26 : decode cX10_functionCell 26 = .ok (.iadd, 1) := by decide +kernel
theorem dX10_functionCell_27 : decode cX10_functionCell 27 = .ok (.iload_n 2, 1) := by decide +kernel
theorem dX10_functionCell_28 : decode cX10_functionCell 28 = .ok (.iastore, 1) := by decide +kernel
theorem dX10_functionCell_29 : decode cX10_functionCell 29 = .ok (.aload_n 0, 1) := by decide +kernel
theorem dX10_functionCell_30 : decode cX10_functionCell 30 = .ok (.getfield 73, 3) := by decide +kernel
theorem dX10_functionCell_33 : decode cX10_functionCell 33 = .ok (.iconst 4, 1) := by decide +kernel
end
section
theorem dX10_functionCell_34 : decode cX10_functionCell 34 = .ok (.iload 5, 2) := by decide +kernel
theorem dX10_functionCell_36 : decode cX10_functionCell 36 = .ok (.imul, 1) := by decide +kernel
theorem dX10_functionCell_37 : decode cX10_functionCell 37 = .ok (.iconst 2, 1) := by decide +kernel
theorem dX10_functionCell_38 : decode cX10_functionCell 38 = .ok (.iadd, 1) := by decide +kernel
theorem dX10_functionCell_39 : decode cX10_functionCell 39 = .ok (.iload_n 3, 1) := by decide +kernel
theorem dX10_functionCell_40 : decode cX10_functionCell 40 = .ok (.iastore, 1) := by decide +kernel
theorem dX10_functionCell_41 : decode cX10_functionCell 41 = .ok (.aload_n 0, 1) := by decide +kernel
theorem dX10_functionCell_42 : decode cX10_functionCell 42 = .ok (.getfield 73, 3) := by decide +kernel
theorem dX10_functionCell_45 : decode cX10_functionCell 45 = .ok (.iconst 4, 1) := by decide +kernel
theorem dX10_functionCell_46 : decode cX10_functionCell 46 = .ok (.iload 5, 2) := by decide +kernel
theorem dX10_functionCell_48 : decode cX10_functionCell 48 = .ok (.imul, 1) := by decide +kernel
theorem dX10_functionCell_49 : decode cX10_functionCell 49 = .ok (.iconst 3, 1) := by decide +kernel
theorem dX10_functionCell_50 : decode cX10_functionCell 50 = .ok (.iadd, 1) := by decide +kernel
theorem dX10_functionCell_51 : decode cX10_functionCell 51 = .ok (.iload 4, 2) := by decide +kernel
theorem dX10_functionCell_53 : decode cX10_functionCell 53 = .ok (.iastore, 1) := by decide +kernel
theorem dX10_functionCell_54 : decode cX10_functionCell 54 = .ok (.iload 5, 2) := by decide +kernel
theorem dX10_functionCell_56 : decode cX10_functionCell 56 = .ok (.ireturn, 1) := by decide +kernel
theorem dX10_end_0 : decode cX10_end 0 = .ok (.iload_n 1, 1) := by decide +kernel
theorem dX10_end_1 : decode cX10_end 1 = .ok (.istore_n 2, 1) := by decide +kernel
theorem dX10_end_2 : decode cX10_end 2 = .ok (.aload_n 0, 1) := by decide +kernel
theorem dX10_end_3 : decode cX10_end 3 = .ok (.getfield 70, 3) := by decide +kernel
theorem dX10_end_6 : decode cX10_end 6 = .ok (.iload_n 2, 1) := by decide +kernel
theorem dX10_end_7 : decode cX10_end 7 = .ok (.iaload, 1) := by decide +kernel
theorem dX10_end_8 : decode cX10_end 8 = .ok (.ifCond .lt 13, 3) := by decide +kernel
theorem dX10_end_11 : decode cX10_end 11 = .ok (.aload_n 0, 1) := by decide +kernel
theorem dX10_end_12 : decode cX10_end 12 = .ok (.getfield 70, 3) := by decide +kernel
theorem dX10_end_15 : decode cX10_end 15 = .ok (.iload_n 2, 1) := by decide +kernel
theorem dX10_end_16 : decode cX10_end 16 = .ok (.iaload, 1) := by decide +kernel
theorem dX10_end_17 : decode cX10_end 17 = .ok (.istore_n 2, 1) := by decide +kernel
theorem dX10_end_18 : decode cX10_end 18 = .ok (.goto (-16), 3) := by decide +kernel
theorem dX10_end_21 : decode cX10_end 21 = .ok (.iload_n 2, 1) := by decide +kernel
theorem dX10_end_22 : decode cX10_end 22 = .ok (.ireturn, 1) := by decide +kernel
theorem dX10_contains_0 : decode cX10_contains 0 = .ok (.iconst 0, 1) := by decide +kernel
theorem dX10_contains_1 : decode cX10_contains 1 = .ok (.istore_n 3, 1) := by decide +kernel
theorem dX10_contains_2 : decode cX10_contains 2 = .ok (.sipush 640, 3) := by decide +kernel
theorem dX10_contains_5 : decode cX10_contains 5 = .ok (.iconst 1, 1) := by decide +kernel
theorem dX10_contains_6 : decode cX10_contains 6 = .ok (.aload_n 0, 1) := by decide +kernel
theorem dX10_contains_7 : decode cX10_contains 7 = .ok (.getfield 230, 3) := by decide +kernel
theorem dX10_contains_10 : decode cX10_contains 10 = .ok (.isub, 1) := by decide +kernel
theorem dX10_contains_11 : decode cX10_contains 11 = .ok (.imul, 1) := by decide +kernel
theorem dX10_contains_12 : decode cX10_contains 12 = .ok (.istore 4, 2) := by decide +kernel
theorem dX10_contains_14 : decode cX10_contains 14 = .ok (.iload 4, 2) := by decide +kernel
theorem dX10_contains_16 : decode cX10_contains 16 = .ok (.istore 5, 2) := by decide +kernel
theorem dX10_contains_18 : decode cX10_contains 18 = .ok (.iload 5, 2) := by decide +kernel
theorem dX10_contains_20 : decode cX10_contains 20 = .ok (.iload 4, 2) := by decide +kernel
theorem dX10_contains_22 : decode cX10_contains 22 = .ok (.aload_n 0, 1) := by decide +kernel
theorem dX10_contains_23 : decode cX10_contains 23 = .ok (.getfield 233, 3) := by decide +kernel
theorem dX10_contains_26 : decode cX10_contains 26 = .ok (.iadd, 1) := by decide +kernel
theorem dX10_contains_27 : decode cX10_contains 27 = .ok (.if_icmp .ge 17, 3) := by decide +kernel
theorem dX10_contains_30 : decode cX10_contains 30 = .ok (.aload_n 0, 1) := by decide +kernel
theorem dX10_contains_31 : decode cX10_contains 31 = .ok (.getfield 89, 3) := by decide +kernel
theorem dX10_contains_34 : decode cX10_contains 34 = .ok (.iload 5, 2) := by decide +kernel
theorem dX10_contains_36 : decode cX10_contains 36 = .ok (.iconst 0, 1) := by decide +kernel
theorem dX10_contains_37 : decode cX10_contains 37 = .ok (.bastore, 1) := by decide +kernel
theorem dX10_contains_38 : decode cX10_contains 38 = .ok (.iinc 5 1, 3) := by decide +kernel
theorem dX10_contains_41 : decode cX10_contains 41 = .ok (.goto (-23), 3) := by decide +kernel
theorem dX10_contains_44 : decode cX10_contains 44 = .ok (.aload_n 0, 1) := by decide +kernel
theorem dX10_contains_45 : decode cX10_contains 45 = .ok (.getfield 83, 3) := by decide +kernel
theorem dX10_contains_48 : decode cX10_contains 48 = .ok (.iload_n 3, 1) := by decide +kernel
theorem dX10_contains_49 : decode cX10_contains 49 = .ok (.iload_n 1, 1) := by decide +kernel
theorem dX10_contains_50 : decode cX10_contains 50 = .ok (.iastore, 1) := by decide +kernel
theorem dX10_contains_51 : decode cX10_contains 51 = .ok (.iinc 3 1, 3) := by decide +kernel
theorem dX10_contains_54 : decode cX10_contains 54 = .ok (.iload_n 3, 1) := by decide +kernel
theorem dX10_contains_55 : decode cX10_contains 55 = .ok (.ifCond .le 94, 3) := by decide +kernel
theorem dX10_contains_58 : decode cX10_contains 58 = .ok (.iinc 3 (-1), 3) := by decide +kernel
theorem dX10_contains_61 : decode cX10_contains 61 = .ok (.aload_n 0, 1) := by decide +kernel
theorem dX10_contains_62 : decode cX10_contains 62 = .ok (.aload_n 0, 1) := by decide +kernel
theorem dX10_contains_63 : decode cX10_contains 63 = .ok (.getfield 83, 3) := by decide +kernel
theorem dX10_contains_66 : decode cX10_contains 66 = .ok (.iload_n 3, 1) := by decide +kernel
theorem dX10_contains_67 : decode cX10_contains 67 = .ok (.iaload, 1) := by decide +kernel
theorem dX10_contains_68 : decode cX10_contains 68 = .ok (.invokevirtual 239, 3) := by decide +kernel
theorem dX10_contains_71 : decode cX10_contains 71 = .ok (.istore 5, 2) := by decide +kernel
theorem dX10_contains_73 : decode cX10_contains 73 = .ok (.iload 5, 2) := by decide +kernel
theorem dX10_contains_75 : decode cX10_contains 75 = .ok (.iload_n 2, 1) := by decide +kernel
theorem dX10_contains_76 : decode cX10_contains 76 = .ok (.if_icmp .ne 5, 3) := by decide +kernel
theorem dX10_contains_79 : decode cX10_contains 79 = .ok (.iconst 1, 1) := by decide +kernel
theorem dX10_contains_80 : decode cX10_contains 80 = .ok (.ireturn, 1) := by decide +kernel
theorem dX10_contains_81 : decode cX10_contains 81 = .ok (.aload_n 0, 1) := by decide +kernel
theorem dX10_contains_82 : decode cX10_contains 82 = .ok (.getfield 67, 3) := by decide +kernel
theorem dX10_contains_85 : decode cX10_contains 85 = .ok (.iload 5, 2) := by decide +kernel
theorem dX10_contains_87 : decode cX10_contains 87 = .ok (.iaload, 1) := by decide +kernel
theorem dX10_contains_88 : decode cX10_contains 88 = .ok (.iconst 2, 1) := by decide +kernel
theorem dX10_contains_89 : decode cX10_contains 89 = .ok (.if_icmp .ne 57, 3) := by decide +kernel
theorem dX10_contains_92 : decode cX10_contains 92 = .ok (.aload_n 0, 1) := by decide +kernel
theorem dX10_contains_93 : decode cX10_contains 93 = .ok (.getfield 89, 3) := by decide +kernel
theorem dX10_contains_96 : decode cX10_contains 96 = .ok (.iload 5, 2) := by decide +kernel
theorem dX10_contains_98 : decode cX10_contains 98 = .ok (.baload, 1) := by decide +kernel
theorem dX10_contains_99 : decode cX10_contains 99 = .ok (.ifCond .ne 47, 3) := by decide +kernel
theorem dX10_contains_102 : decode cX10_contains 102 = .ok (.aload_n 0, 1) := by decide +kernel
theorem dX10_contains_103 : decode cX10_contains 103 = .ok (.getfield 89, 3) := by decide +kernel
theorem dX10_contains_106 : decode cX10_contains 106 = .ok (.iload 5, 2) := by decide +kernel
theorem dX10_contains_108 : decode cX10_contains 108 = .ok (.iconst 1, 1) := by decide +kernel
theorem dX10_contains_109 : decode cX10_contains 109 = .ok (.bastore, 1) := by decide +kernel
theorem dX10_contains_110 : decode cX10_contains 110 = .ok (.iconst 0, 1) := by decide +kernel
theorem dX10_contains_111 : decode cX10_contains 111 = .ok (.istore 6, 2) := by decide +kernel
theorem dX10_contains_113 : decode cX10_contains 113 = .ok (.iload 6, 2) := by decide +kernel
theorem dX10_contains_115 : decode cX10_contains 115 = .ok (.iconst 4, 1) := by decide +kernel
theorem dX10_contains_116 : decode cX10_contains 116 = .ok (.if_icmp .ge 30, 3) := by decide +kernel
theorem dX10_contains_119 : decode cX10_contains 119 = .ok (.aload_n 0, 1) := by decide +kernel
theorem dX10_contains_120 : decode cX10_contains 120 = .ok (.getfield 83, 3) := by decide +kernel
theorem dX10_contains_123 : decode cX10_contains 123 = .ok (.iload_n 3, 1) := by decide +kernel
theorem dX10_contains_124 : decode cX10_contains 124 = .ok (.aload_n 0, 1) := by decide +kernel
theorem dX10_contains_125 : decode cX10_contains 125 = .ok (.getfield 73, 3) := by decide +kernel
theorem dX10_contains_128 : decode cX10_contains 128 = .ok (.iconst 4, 1) := by decide +kernel
theorem dX10_contains_129 : decode cX10_contains 129 = .ok (.iload 5, 2) := by decide +kernel
theorem dX10_contains_131 : decode cX10_contains 131 = .ok (.imul, 1) := by decide +kernel
theorem dX10_contains_132 : decode cX10_contains 132 = .ok (.iload 6, 2) := by decide +kernel
theorem dX10_contains_134 : decode cX10_contains 134 = .ok (.iadd, 1) := by decide +kernel
theorem dX10_contains_135 : decode cX10_contains 135 = .ok (.iaload, 1) := by decide +kernel
theorem dX10_contains_136 : decode cX10_contains 136 = .ok (.iastore, 1) := by decide +kernel
theorem dX10_contains_137 : decode cX10_contains 137 = .ok (.iinc 3 1, 3) := by decide +kernel
theorem dX10_contains_140 : decode cX10_contains 140 = .ok (.iinc 6 1, 3) := by decide +kernel
theorem dX10_contains_143 : decode cX10_contains 143 = .ok (.goto (-30), 3) := by decide +kernel
theorem dX10_contains_146 : decode cX10_contains 146 = .ok (.goto (-92), 3) := by decide +kernel
theorem dX10_contains_149 : decode cX10_contains 149 = .ok (.iconst 0, 1) := by decide +kernel
theorem dX10_contains_150 : decode cX10_contains 150 = .ok (.ireturn, 1) := by decide +kernel
theorem dX10_equal_0 : decode cX10_equal 0 = .ok (.aload_n 0, 1) := by decide +kernel
theorem dX10_equal_1 : decode cX10_equal 1 = .ok (.getfield 86, 3) := by decide +kernel
theorem dX10_equal_4 : decode cX10_equal 4 = .ok (.iconst 0, 1) := by decide +kernel
theorem dX10_equal_5 : decode cX10_equal 5 = .ok (.iload_n 1, 1) := by decide +kernel
theorem dX10_equal_6 : decode cX10_equal 6 = .ok (.iastore, 1) := by decide +kernel
theorem dX10_equal_7 : decode cX10_equal 7 = .ok (.aload_n 0, 1) := by decide +kernel
theorem dX10_equal_8 : decode cX10_equal 8 = .ok (.getfield 86, 3) := by decide +kernel
theorem dX10_equal_11 : decode cX10_equal 11 = .ok (.iconst 1, 1) := by decide +kernel
theorem dX10_equal_12 : decode cX10_equal 12 = .ok (.iload_n 2, 1) := by decide +kernel
theorem dX10_equal_13 : decode cX10_equal 13 = .ok (.iastore, 1) := by decide +kernel
theorem dX10_equal_14 : decode cX10_equal 14 = .ok (.iconst 2, 1) := by decide +kernel
theorem dX10_equal_15 : decode cX10_equal 15 = .ok (.istore_n 3, 1) := by decide +kernel
theorem dX10_equal_16 : decode cX10_equal 16 = .ok (.iload_n 3, 1) := by decide +kernel
theorem dX10_equal_17 : decode cX10_equal 17 = .ok (.ifCond .le 239, 3) := by decide +kernel
theorem dX10_equal_20 : decode cX10_equal 20 = .ok (.aload_n 0, 1) := by decide +kernel
theorem dX10_equal_21 : decode cX10_equal 21 = .ok (.getfield 242, 3) := by decide +kernel
theorem dX10_equal_24 : decode cX10_equal 24 = .ok (.ifCond .ne 232, 3) := by decide +kernel
theorem dX10_equal_27 : decode cX10_equal 27 = .ok (.iinc 3 (-2), 3) := by decide +kernel
theorem dX10_equal_30 : decode cX10_equal 30 = .ok (.aload_n 0, 1) := by decide +kernel
theorem dX10_equal_31 : decode cX10_equal 31 = .ok (.aload_n 0, 1) := by decide +kernel
theorem dX10_equal_32 : decode cX10_equal 32 = .ok (.getfield 86, 3) := by decide +kernel
theorem dX10_equal_35 : decode cX10_equal 35 = .ok (.iload_n 3, 1) := by decide +kernel
theorem dX10_equal_36 : decode cX10_equal 36 = .ok (.iaload, 1) := by decide +kernel
theorem dX10_equal_37 : decode cX10_equal 37 = .ok (.invokevirtual 239, 3) := by decide +kernel
theorem dX10_equal_40 : decode cX10_equal 40 = .ok (.istore 4, 2) := by decide +kernel
theorem dX10_equal_42 : decode cX10_equal 42 = .ok (.aload_n 0, 1) := by decide +kernel
theorem dX10_equal_43 : decode cX10_equal 43 = .ok (.aload_n 0, 1) := by decide +kernel
theorem dX10_equal_44 : decode cX10_equal 44 = .ok (.getfield 86, 3) := by decide +kernel
theorem dX10_equal_47 : decode cX10_equal 47 = .ok (.iload_n 3, 1) := by decide +kernel
theorem dX10_equal_48 : decode cX10_equal 48 = .ok (.iconst 1, 1) := by decide +kernel
theorem dX10_equal_49 : decode cX10_equal 49 = .ok (.iadd, 1) := by decide +kernel
theorem dX10_equal_50 : decode cX10_equal 50 = .ok (.iaload, 1) := by decide +kernel
theorem dX10_equal_51 : decode cX10_equal 51 = .ok (.invokevirtual 239, 3) := by decide +kernel
theorem dX10_equal_54 : decode cX10_equal 54 = .ok (.istore 5, 2) := by decide +kernel
theorem dX10_equal_56 : decode cX10_equal 56 = .ok (.iload 4, 2) := by decide +kernel
theorem dX10_equal_58 : decode cX10_equal 58 = .ok (.iload 5, 2) := by decide +kernel
theorem dX10_equal_60 : decode cX10_equal 60 = .ok (.if_icmp .ne 6, 3) := by decide +kernel
theorem dX10_equal_63 : decode cX10_equal 63 = .ok (.goto (-47), 3) := by decide +kernel
theorem dX10_equal_66 : decode cX10_equal 66 = .ok (.aload_n 0, 1) := by decide +kernel
theorem dX10_equal_67 : decode cX10_equal 67 = .ok (.getfield 67, 3) := by decide +kernel
theorem dX10_equal_70 : decode cX10_equal 70 = .ok (.iload 4, 2) := by decide +kernel
theorem dX10_equal_72 : decode cX10_equal 72 = .ok (.iaload, 1) := by decide +kernel
theorem dX10_equal_73 : decode cX10_equal 73 = .ok (.iconst 3, 1) := by decide +kernel
theorem dX10_equal_74 : decode cX10_equal 74 = .ok (.if_icmp .eq 14, 3) := by decide +kernel
theorem dX10_equal_77 : decode cX10_equal 77 = .ok (.aload_n 0, 1) := by decide +kernel
theorem dX10_equal_78 : decode cX10_equal 78 = .ok (.getfield 67, 3) := by decide +kernel
theorem dX10_equal_81 : decode cX10_equal 81 = .ok (.iload 5, 2) := by decide +kernel
theorem dX10_equal_83 : decode cX10_equal 83 = .ok (.iaload, 1) := by decide +kernel
theorem dX10_equal_84 : decode cX10_equal 84 = .ok (.iconst 3, 1) := by decide +kernel
theorem dX10_equal_85 : decode cX10_equal 85 = .ok (.if_icmp .ne 67, 3) := by decide +kernel
theorem dX10_equal_88 : decode cX10_equal 88 = .ok (.aload_n 0, 1) := by decide +kernel
theorem dX10_equal_89 : decode cX10_equal 89 = .ok (.getfield 67, 3) := by decide +kernel
theorem dX10_equal_92 : decode cX10_equal 92 = .ok (.iload 4, 2) := by decide +kernel
theorem dX10_equal_94 : decode cX10_equal 94 = .ok (.iaload, 1) := by decide +kernel
theorem dX10_equal_95 : decode cX10_equal 95 = .ok (.iconst 3, 1) := by decide +kernel
theorem dX10_equal_96 : decode cX10_equal 96 = .ok (.if_icmp .ne 8, 3) := by decide +kernel
theorem dX10_equal_99 : decode cX10_equal 99 = .ok (.iload 4, 2) := by decide +kernel
theorem dX10_equal_101 : decode cX10_equal 101 = .ok (.goto 5, 3) := by decide +kernel
theorem dX10_equal_104 : decode cX10_equal 104 = .ok (.iload 5, 2) := by decide +kernel
theorem dX10_equal_106 : decode cX10_equal 106 = .ok (.istore 6, 2) := by decide +kernel
theorem dX10_equal_108 : decode cX10_equal 108 = .ok (.aload_n 0, 1) := by decide +kernel
theorem dX10_equal_109 : decode cX10_equal 109 = .ok (.getfield 67, 3) := by decide +kernel
theorem dX10_equal_112 : decode cX10_equal 112 = .ok (.iload 4, 2) := by decide +kernel
theorem dX10_equal_114 : decode cX10_equal 114 = .ok (.iaload, 1) := by decide +kernel
theorem dX10_equal_115 : decode cX10_equal 115 = .ok (.iconst 3, 1) := by decide +kernel
theorem dX10_equal_116 : decode cX10_equal 116 = .ok (.if_icmp .ne 8, 3) := by decide +kernel
theorem dX10_equal_119 : decode cX10_equal 119 = .ok (.iload 5, 2) := by decide +kernel
theorem dX10_equal_121 : decode cX10_equal 121 = .ok (.goto 5, 3) := by decide +kernel
theorem dX10_equal_124 : decode cX10_equal 124 = .ok (.iload 4, 2) := by decide +kernel
theorem dX10_equal_126 : decode cX10_equal 126 = .ok (.istore 7, 2) := by decide +kernel
theorem dX10_equal_128 : decode cX10_equal 128 = .ok (.aload_n 0, 1) := by decide +kernel
theorem dX10_equal_129 : decode cX10_equal 129 = .ok (.aload_n 0, 1) := by decide +kernel
theorem dX10_equal_130 : decode cX10_equal 130 = .ok (.iload 7, 2) := by decide +kernel
theorem dX10_equal_132 : decode cX10_equal 132 = .ok (.iload 6, 2) := by decide +kernel
theorem dX10_equal_134 : decode cX10_equal 134 = .ok (.invokevirtual 245, 3) := by decide +kernel
theorem dX10_equal_137 : decode cX10_equal 137 = .ok (.putfield 242, 3) := by decide +kernel
theorem dX10_equal_140 : decode cX10_equal 140 = .ok (.aload_n 0, 1) := by decide +kernel
theorem dX10_equal_141 : decode cX10_equal 141 = .ok (.getfield 70, 3) := by decide +kernel
theorem dX10_equal_144 : decode cX10_equal 144 = .ok (.iload 6, 2) := by decide +kernel
theorem dX10_equal_146 : decode cX10_equal 146 = .ok (.iload 7, 2) := by decide +kernel
theorem dX10_equal_148 : decode cX10_equal 148 = .ok (.iastore, 1) := by decide +kernel
theorem dX10_equal_149 : decode cX10_equal 149 = .ok (.goto 104, 3) := by decide +kernel
theorem dX10_equal_152 : decode cX10_equal 152 = .ok (.aload_n 0, 1) := by decide +kernel
theorem dX10_equal_153 : decode cX10_equal 153 = .ok (.getfield 67, 3) := by decide +kernel
theorem dX10_equal_156 : decode cX10_equal 156 = .ok (.iload 4, 2) := by decide +kernel
theorem dX10_equal_158 : decode cX10_equal 158 = .ok (.iaload, 1) := by decide +kernel
theorem dX10_equal_159 : decode cX10_equal 159 = .ok (.aload_n 0, 1) := by decide +kernel
theorem dX10_equal_160 : decode cX10_equal 160 = .ok (.getfield 67, 3) := by decide +kernel
theorem dX10_equal_163 : decode cX10_equal 163 = .ok (.iload 5, 2) := by decide +kernel
theorem dX10_equal_165 : decode cX10_equal 165 = .ok (.iaload, 1) := by decide +kernel
theorem dX10_equal_166 : decode cX10_equal 166 = .ok (.if_icmp .eq 11, 3) := by decide +kernel
theorem dX10_equal_169 : decode cX10_equal 169 = .ok (.aload_n 0, 1) := by decide +kernel
theorem dX10_equal_170 : decode cX10_equal 170 = .ok (.iconst 1, 1) := by decide +kernel
theorem dX10_equal_171 : decode cX10_equal 171 = .ok (.putfield 242, 3) := by decide +kernel
theorem dX10_equal_174 : decode cX10_equal 174 = .ok (.goto 79, 3) := by decide +kernel
theorem dX10_equal_177 : decode cX10_equal 177 = .ok (.aload_n 0, 1) := by decide +kernel
theorem dX10_equal_178 : decode cX10_equal 178 = .ok (.getfield 67, 3) := by decide +kernel
theorem dX10_equal_181 : decode cX10_equal 181 = .ok (.iload 4, 2) := by decide +kernel
theorem dX10_equal_183 : decode cX10_equal 183 = .ok (.iaload, 1) := by decide +kernel
theorem dX10_equal_184 : decode cX10_equal 184 = .ok (.iconst 2, 1) := by decide +kernel
theorem dX10_equal_185 : decode cX10_equal 185 = .ok (.if_icmp .ne 68, 3) := by decide +kernel
theorem dX10_equal_188 : decode cX10_equal 188 = .ok (.aload_n 0, 1) := by decide +kernel
theorem dX10_equal_189 : decode cX10_equal 189 = .ok (.getfield 70, 3) := by decide +kernel
theorem dX10_equal_192 : decode cX10_equal 192 = .ok (.iload 4, 2) := by decide +kernel
theorem dX10_equal_194 : decode cX10_equal 194 = .ok (.iload 5, 2) := by decide +kernel
theorem dX10_equal_196 : decode cX10_equal 196 = .ok (.iastore, 1) := by decide +kernel
theorem dX10_equal_197 : decode cX10_equal 197 = .ok (.iconst 0, 1) := by decide +kernel
theorem dX10_equal_198 : decode cX10_equal 198 = .ok (.istore 6, 2) := by decide +kernel
theorem dX10_equal_200 : decode cX10_equal 200 = .ok (.iload 6, 2) := by decide +kernel
theorem dX10_equal_202 : decode cX10_equal 202 = .ok (.iconst 4, 1) := by decide +kernel
theorem dX10_equal_203 : decode cX10_equal 203 = .ok (.if_icmp .ge 50, 3) := by decide +kernel
theorem dX10_equal_206 : decode cX10_equal 206 = .ok (.aload_n 0, 1) := by decide +kernel
theorem dX10_equal_207 : decode cX10_equal 207 = .ok (.getfield 86, 3) := by decide +kernel
theorem dX10_equal_210 : decode cX10_equal 210 = .ok (.iload_n 3, 1) := by decide +kernel
theorem dX10_equal_211 : decode cX10_equal 211 = .ok (.aload_n 0, 1) := by decide +kernel
theorem dX10_equal_212 : decode cX10_equal 212 = .ok (.getfield 73, 3) := by decide +kernel
theorem dX10_equal_215 : decode cX10_equal 215 = .ok (.iconst 4, 1) := by decide +kernel
theorem dX10_equal_216 : decode cX10_equal 216 = .ok (.iload 4, 2) := by decide +kernel
theorem dX10_equal_218 : decode cX10_equal 218 = .ok (.imul, 1) := by decide +kernel
theorem dX10_equal_219 : decode cX10_equal 219 = .ok (.iload 6, 2) := by decide +kernel
theorem dX10_equal_221 : decode cX10_equal 221 = .ok (.iadd, 1) := by decide +kernel
theorem dX10_equal_222 : decode cX10_equal 222 = .ok (.iaload, 1) := by decide +kernel
theorem dX10_equal_223 : decode cX10_equal 223 = .ok (.iastore, 1) := by decide +kernel
theorem dX10_equal_224 : decode cX10_equal 224 = .ok (.aload_n 0, 1) := by decide +kernel
theorem dX10_equal_225 : decode cX10_equal 225 = .ok (.getfield 86, 3) := by decide +kernel
theorem dX10_equal_228 : decode cX10_equal 228 = .ok (.iload_n 3, 1) := by decide +kernel
theorem dX10_equal_229 : decode cX10_equal 229 = .ok (.iconst 1, 1) := by decide +kernel
theorem dX10_equal_230 : decode cX10_equal 230 = .ok (.iadd, 1) := by decide +kernel
theorem dX10_equal_231 : decode cX10_equal 231 = .ok (.aload_n 0, 1) := by decide +kernel
theorem dX10_equal_232 : decode cX10_equal 232 = .ok (.getfield 73, 3) := by decide +kernel
theorem dX10_equal_235 : decode cX10_equal 235 = .ok (.iconst 4, 1) := by decide +kernel
theorem dX10_equal_236 : decode cX10_equal 236 = .ok (.iload 5, 2) := by decide +kernel
theorem dX10_equal_238 : decode cX10_equal 238 = .ok (.imul, 1) := by decide +kernel
theorem dX10_equal_239 : decode cX10_equal 239 = .ok (.iload 6, 2) := by decide +kernel
theorem dX10_equal_241 : decode cX10_equal 241 = .ok (.iadd, 1) := by decide +kernel
theorem dX10_equal_242 : decode cX10_equal 242 = .ok (.iaload, 1) := by decide +kernel
theorem dX10_equal_243 : decode cX10_equal 243 = .ok (.iastore, 1) := by decide +kernel
theorem dX10_equal_244 : decode cX10_equal 244 = .ok (.iinc 3 2, 3) := by decide +kernel
theorem dX10_equal_247 : decode cX10_equal 247 = .ok (.iinc 6 1, 3) := by decide +kernel
theorem dX10_equal_250 : decode cX10_equal 250 = .ok (.goto (-50), 3) := by decide +kernel
theorem dX10_equal_253 : decode cX10_equal 253 = .ok (.goto (-237), 3) := by decide +kernel
theorem dX10_equal_256 : decode cX10_equal 256 = .ok (.return_, 1) := by decide +kernel
theorem dX10_endless_0 : decode cX10_endless 0 = .ok (.sipush 640, 3) := by decide +kernel
theorem dX10_endless_3 : decode cX10_endless 3 = .ok (.iconst 1, 1) := by decide +kernel
theorem dX10_endless_4 : decode cX10_endless 4 = .ok (.aload_n 0, 1) := by decide +kernel
theorem dX10_endless_5 : decode cX10_endless 5 = .ok (.getfield 230, 3) := by decide +kernel
theorem dX10_endless_8 : decode cX10_endless 8 = .ok (.isub, 1) := by decide +kernel
theorem dX10_endless_9 : decode cX10_endless 9 = .ok (.imul, 1) := by decide +kernel
theorem dX10_endless_10 : decode cX10_endless 10 = .ok (.istore_n 1, 1) := by decide +kernel
theorem dX10_endless_11 : decode cX10_endless 11 = .ok (.iload_n 1, 1) := by decide +kernel
theorem dX10_endless_12 : decode cX10_endless 12 = .ok (.istore_n 2, 1) := by decide +kernel
theorem dX10_endless_13 : decode cX10_endless 13 = .ok (.iload_n 2, 1) := by decide +kernel
theorem dX10_endless_14 : decode cX10_endless 14 = .ok (.iload_n 1, 1) := by decide +kernel
theorem dX10_endless_15 : decode cX10_endless 15 = .ok (.aload_n 0, 1) := by decide +kernel
theorem dX10_endless_16 : decode cX10_endless 16 = .ok (.getfield 233, 3) := by decide +kernel
theorem dX10_endless_19 : decode cX10_endless 19 = .ok (.iadd, 1) := by decide +kernel
theorem dX10_endless_20 : decode cX10_endless 20 = .ok (.if_icmp .ge 30, 3) := by decide +kernel
theorem dX10_endless_23 : decode cX10_endless 23 = .ok (.aload_n 0, 1) := by decide +kernel
theorem dX10_endless_24 : decode cX10_endless 24 = .ok (.getfield 89, 3) := by decide +kernel
theorem dX10_endless_27 : decode cX10_endless 27 = .ok (.iload_n 2, 1) := by decide +kernel
theorem dX10_endless_28 : decode cX10_endless 28 = .ok (.aload_n 0, 1) := by decide +kernel
theorem dX10_endless_29 : decode cX10_endless 29 = .ok (.getfield 67, 3) := by decide +kernel
theorem dX10_endless_32 : decode cX10_endless 32 = .ok (.iload_n 2, 1) := by decide +kernel
theorem dX10_endless_33 : decode cX10_endless 33 = .ok (.iaload, 1) := by decide +kernel
theorem dX10_endless_34 : decode cX10_endless 34 = .ok (.iconst 2, 1) := by decide +kernel
theorem dX10_endless_35 : decode cX10_endless 35 = .ok (.if_icmp .eq 7, 3) := by decide +kernel
theorem dX10_endless_38 : decode cX10_endless 38 = .ok (.iconst 1, 1) := by decide +kernel
theorem dX10_endless_39 : decode cX10_endless 39 = .ok (.goto 4, 3) := by decide +kernel
theorem dX10_endless_42 : decode cX10_endless 42 = .ok (.iconst 0, 1) := by decide +kernel
theorem dX10_endless_43 : decode cX10_endless 43 = .ok (.bastore, 1) := by decide +kernel
theorem dX10_endless_44 : decode cX10_endless 44 = .ok (.iinc 2 1, 3) := by decide +kernel
theorem dX10_endless_47 : decode cX10_endless 47 = .ok (.goto (-34), 3) := by decide +kernel
theorem dX10_endless_50 : decode cX10_endless 50 = .ok (.iconst 1, 1) := by decide +kernel
theorem dX10_endless_51 : decode cX10_endless 51 = .ok (.istore_n 2, 1) := by decide +kernel
theorem dX10_endless_52 : decode cX10_endless 52 = .ok (.iload_n 2, 1) := by decide +kernel
theorem dX10_endless_53 : decode cX10_endless 53 = .ok (.ifCond .eq 107, 3) := by decide +kernel
theorem dX10_endless_56 : decode cX10_endless 56 = .ok (.iconst 0, 1) := by decide +kernel
theorem dX10_endless_57 : decode cX10_endless 57 = .ok (.istore_n 2, 1) := by decide +kernel
theorem dX10_endless_58 : decode cX10_endless 58 = .ok (.iload_n 1, 1) := by decide +kernel
theorem dX10_endless_59 : decode cX10_endless 59 = .ok (.istore_n 3, 1) := by decide +kernel
theorem dX10_endless_60 : decode cX10_endless 60 = .ok (.iload_n 3, 1) := by decide +kernel
theorem dX10_endless_61 : decode cX10_endless 61 = .ok (.iload_n 1, 1) := by decide +kernel
theorem dX10_endless_62 : decode cX10_endless 62 = .ok (.aload_n 0, 1) := by decide +kernel
theorem dX10_endless_63 : decode cX10_endless 63 = .ok (.getfield 233, 3) := by decide +kernel
theorem dX10_endless_66 : decode cX10_endless 66 = .ok (.iadd, 1) := by decide +kernel
theorem dX10_endless_67 : decode cX10_endless 67 = .ok (.if_icmp .ge 90, 3) := by decide +kernel
theorem dX10_endless_70 : decode cX10_endless 70 = .ok (.aload_n 0, 1) := by decide +kernel
theorem dX10_endless_71 : decode cX10_endless 71 = .ok (.getfield 89, 3) := by decide +kernel
theorem dX10_endless_74 : decode cX10_endless 74 = .ok (.iload_n 3, 1) := by decide +kernel
theorem dX10_endless_75 : decode cX10_endless 75 = .ok (.baload, 1) := by decide +kernel
theorem dX10_endless_76 : decode cX10_endless 76 = .ok (.ifCond .ne 16, 3) := by decide +kernel
theorem dX10_endless_79 : decode cX10_endless 79 = .ok (.aload_n 0, 1) := by decide +kernel
theorem dX10_endless_80 : decode cX10_endless 80 = .ok (.getfield 70, 3) := by decide +kernel
theorem dX10_endless_83 : decode cX10_endless 83 = .ok (.iload_n 3, 1) := by decide +kernel
theorem dX10_endless_84 : decode cX10_endless 84 = .ok (.iaload, 1) := by decide +kernel
theorem dX10_endless_85 : decode cX10_endless 85 = .ok (.ifCond .ge 7, 3) := by decide +kernel
theorem dX10_endless_88 : decode cX10_endless 88 = .ok (.iconst 1, 1) := by decide +kernel
theorem dX10_endless_89 : decode cX10_endless 89 = .ok (.goto 4, 3) := by decide +kernel
theorem dX10_endless_92 : decode cX10_endless 92 = .ok (.iconst 0, 1) := by decide +kernel
theorem dX10_endless_93 : decode cX10_endless 93 = .ok (.istore 4, 2) := by decide +kernel
theorem dX10_endless_95 : decode cX10_endless 95 = .ok (.iconst 0, 1) := by decide +kernel
theorem dX10_endless_96 : decode cX10_endless 96 = .ok (.istore 5, 2) := by decide +kernel
theorem dX10_endless_98 : decode cX10_endless 98 = .ok (.iload 5, 2) := by decide +kernel
theorem dX10_endless_100 : decode cX10_endless 100 = .ok (.iconst 4, 1) := by decide +kernel
theorem dX10_endless_101 : decode cX10_endless 101 = .ok (.if_icmp .ge 36, 3) := by decide +kernel
theorem dX10_endless_104 : decode cX10_endless 104 = .ok (.iload 4, 2) := by decide +kernel
theorem dX10_endless_106 : decode cX10_endless 106 = .ok (.ifCond .eq 31, 3) := by decide +kernel
theorem dX10_endless_109 : decode cX10_endless 109 = .ok (.aload_n 0, 1) := by decide +kernel
theorem dX10_endless_110 : decode cX10_endless 110 = .ok (.getfield 89, 3) := by decide +kernel
theorem dX10_endless_113 : decode cX10_endless 113 = .ok (.aload_n 0, 1) := by decide +kernel
theorem dX10_endless_114 : decode cX10_endless 114 = .ok (.aload_n 0, 1) := by decide +kernel
theorem dX10_endless_115 : decode cX10_endless 115 = .ok (.getfield 73, 3) := by decide +kernel
theorem dX10_endless_118 : decode cX10_endless 118 = .ok (.iconst 4, 1) := by decide +kernel
theorem dX10_endless_119 : decode cX10_endless 119 = .ok (.iload_n 3, 1) := by decide +kernel
theorem dX10_endless_120 : decode cX10_endless 120 = .ok (.imul, 1) := by decide +kernel
theorem dX10_endless_121 : decode cX10_endless 121 = .ok (.iload 5, 2) := by decide +kernel
theorem dX10_endless_123 : decode cX10_endless 123 = .ok (.iadd, 1) := by decide +kernel
theorem dX10_endless_124 : decode cX10_endless 124 = .ok (.iaload, 1) := by decide +kernel
theorem dX10_endless_125 : decode cX10_endless 125 = .ok (.invokevirtual 239, 3) := by decide +kernel
theorem dX10_endless_128 : decode cX10_endless 128 = .ok (.baload, 1) := by decide +kernel
theorem dX10_endless_129 : decode cX10_endless 129 = .ok (.istore 4, 2) := by decide +kernel
theorem dX10_endless_131 : decode cX10_endless 131 = .ok (.iinc 5 1, 3) := by decide +kernel
theorem dX10_endless_134 : decode cX10_endless 134 = .ok (.goto (-36), 3) := by decide +kernel
theorem dX10_endless_137 : decode cX10_endless 137 = .ok (.iload 4, 2) := by decide +kernel
theorem dX10_endless_139 : decode cX10_endless 139 = .ok (.ifCond .eq 12, 3) := by decide +kernel
theorem dX10_endless_142 : decode cX10_endless 142 = .ok (.aload_n 0, 1) := by decide +kernel
theorem dX10_endless_143 : decode cX10_endless 143 = .ok (.getfield 89, 3) := by decide +kernel
theorem dX10_endless_146 : decode cX10_endless 146 = .ok (.iload_n 3, 1) := by decide +kernel
theorem dX10_endless_147 : decode cX10_endless 147 = .ok (.iconst 1, 1) := by decide +kernel
theorem dX10_endless_148 : decode cX10_endless 148 = .ok (.bastore, 1) := by decide +kernel
theorem dX10_endless_149 : decode cX10_endless 149 = .ok (.iconst 1, 1) := by decide +kernel
theorem dX10_endless_150 : decode cX10_endless 150 = .ok (.istore_n 2, 1) := by decide +kernel
theorem dX10_endless_151 : decode cX10_endless 151 = .ok (.iinc 3 1, 3) := by decide +kernel
theorem dX10_endless_154 : decode cX10_endless 154 = .ok (.goto (-94), 3) := by decide +kernel
theorem dX10_endless_157 : decode cX10_endless 157 = .ok (.goto (-105), 3) := by decide +kernel
theorem dX10_endless_160 : decode cX10_endless 160 = .ok (.iconst 0, 1) := by decide +kernel
theorem dX10_endless_161 : decode cX10_endless 161 = .ok (.istore_n 3, 1) := by decide +kernel
theorem dX10_endless_162 : decode cX10_endless 162 = .ok (.iload_n 1, 1) := by decide +kernel
theorem dX10_endless_163 : decode cX10_endless 163 = .ok (.istore 4, 2) := by decide +kernel
theorem dX10_endless_165 : decode cX10_endless 165 = .ok (.iload 4, 2) := by decide +kernel
theorem dX10_endless_167 : decode cX10_endless 167 = .ok (.iload_n 1, 1) := by decide +kernel
theorem dX10_endless_168 : decode cX10_endless 168 = .ok (.aload_n 0, 1) := by decide +kernel
theorem dX10_endless_169 : decode cX10_endless 169 = .ok (.getfield 233, 3) := by decide +kernel
theorem dX10_endless_172 : decode cX10_endless 172 = .ok (.iadd, 1) := by decide +kernel
theorem dX10_endless_173 : decode cX10_endless 173 = .ok (.if_icmp .ge 39, 3) := by decide +kernel
theorem dX10_endless_176 : decode cX10_endless 176 = .ok (.iload_n 3, 1) := by decide +kernel
theorem dX10_endless_177 : decode cX10_endless 177 = .ok (.ifCond .ne 23, 3) := by decide +kernel
theorem dX10_endless_180 : decode cX10_endless 180 = .ok (.aload_n 0, 1) := by decide +kernel
theorem dX10_endless_181 : decode cX10_endless 181 = .ok (.getfield 89, 3) := by decide +kernel
theorem dX10_endless_184 : decode cX10_endless 184 = .ok (.iload 4, 2) := by decide +kernel
theorem dX10_endless_186 : decode cX10_endless 186 = .ok (.baload, 1) := by decide +kernel
theorem dX10_endless_187 : decode cX10_endless 187 = .ok (.ifCond .ne 17, 3) := by decide +kernel
theorem dX10_endless_190 : decode cX10_endless 190 = .ok (.aload_n 0, 1) := by decide +kernel
theorem dX10_endless_191 : decode cX10_endless 191 = .ok (.getfield 70, 3) := by decide +kernel
theorem dX10_endless_194 : decode cX10_endless 194 = .ok (.iload 4, 2) := by decide +kernel
theorem dX10_endless_196 : decode cX10_endless 196 = .ok (.iaload, 1) := by decide +kernel
theorem dX10_endless_197 : decode cX10_endless 197 = .ok (.ifCond .ge 7, 3) := by decide +kernel
theorem dX10_endless_200 : decode cX10_endless 200 = .ok (.iconst 1, 1) := by decide +kernel
theorem dX10_endless_201 : decode cX10_endless 201 = .ok (.goto 4, 3) := by decide +kernel
theorem dX10_endless_204 : decode cX10_endless 204 = .ok (.iconst 0, 1) := by decide +kernel
theorem dX10_endless_205 : decode cX10_endless 205 = .ok (.istore_n 3, 1) := by decide +kernel
theorem dX10_endless_206 : decode cX10_endless 206 = .ok (.iinc 4 1, 3) := by decide +kernel
theorem dX10_endless_209 : decode cX10_endless 209 = .ok (.goto (-44), 3) := by decide +kernel
theorem dX10_endless_212 : decode cX10_endless 212 = .ok (.iload_n 3, 1) := by decide +kernel
theorem dX10_endless_213 : decode cX10_endless 213 = .ok (.ireturn, 1) := by decide +kernel
theorem dX10_goal_0 : decode cX10_goal 0 = .ok (.aload_n 0, 1) := by decide +kernel
theorem dX10_goal_1 : decode cX10_goal 1 = .ok (.getfield 93, 3) := by decide +kernel
theorem dX10_goal_4 : decode cX10_goal 4 = .ok (.aload_n 0, 1) := by decide +kernel
theorem dX10_goal_5 : decode cX10_goal 5 = .ok (.getfield 249, 3) := by decide +kernel
theorem dX10_goal_8 : decode cX10_goal 8 = .ok (.iload_n 1, 1) := by decide +kernel
theorem dX10_goal_9 : decode cX10_goal 9 = .ok (.iastore, 1) := by decide +kernel
theorem dX10_goal_10 : decode cX10_goal 10 = .ok (.aload_n 0, 1) := by decide +kernel
theorem dX10_goal_11 : decode cX10_goal 11 = .ok (.getfield 96, 3) := by decide +kernel
theorem dX10_goal_14 : decode cX10_goal 14 = .ok (.aload_n 0, 1) := by decide +kernel
theorem dX10_goal_15 : decode cX10_goal 15 = .ok (.getfield 249, 3) := by decide +kernel
theorem dX10_goal_18 : decode cX10_goal 18 = .ok (.iload_n 2, 1) := by decide +kernel
theorem dX10_goal_19 : decode cX10_goal 19 = .ok (.iastore, 1) := by decide +kernel
theorem dX10_goal_20 : decode cX10_goal 20 = .ok (.aload_n 0, 1) := by decide +kernel
theorem dX10_goal_21 : decode cX10_goal 21 = .ok (.getfield 99, 3) := by decide +kernel
theorem dX10_goal_24 : decode cX10_goal 24 = .ok (.aload_n 0, 1) := by decide +kernel
theorem dX10_goal_25 : decode cX10_goal 25 = .ok (.getfield 249, 3) := by decide +kernel
theorem dX10_goal_28 : decode cX10_goal 28 = .ok (.iload_n 3, 1) := by decide +kernel
theorem dX10_goal_29 : decode cX10_goal 29 = .ok (.iastore, 1) := by decide +kernel
theorem dX10_goal_30 : decode cX10_goal 30 = .ok (.aload_n 0, 1) := by decide +kernel
theorem dX10_goal_31 : decode cX10_goal 31 = .ok (.getfield 102, 3) := by decide +kernel
theorem dX10_goal_34 : decode cX10_goal 34 = .ok (.aload_n 0, 1) := by decide +kernel
theorem dX10_goal_35 : decode cX10_goal 35 = .ok (.getfield 249, 3) := by decide +kernel
theorem dX10_goal_38 : decode cX10_goal 38 = .ok (.iload 4, 2) := by decide +kernel
theorem dX10_goal_40 : decode cX10_goal 40 = .ok (.iastore, 1) := by decide +kernel
theorem dX10_goal_41 : decode cX10_goal 41 = .ok (.aload_n 0, 1) := by decide +kernel
theorem dX10_goal_42 : decode cX10_goal 42 = .ok (.getfield 105, 3) := by decide +kernel
theorem dX10_goal_45 : decode cX10_goal 45 = .ok (.aload_n 0, 1) := by decide +kernel
theorem dX10_goal_46 : decode cX10_goal 46 = .ok (.getfield 249, 3) := by decide +kernel
theorem dX10_goal_49 : decode cX10_goal 49 = .ok (.iload 5, 2) := by decide +kernel
theorem dX10_goal_51 : decode cX10_goal 51 = .ok (.iastore, 1) := by decide +kernel
theorem dX10_goal_52 : decode cX10_goal 52 = .ok (.aload_n 0, 1) := by decide +kernel
theorem dX10_goal_53 : decode cX10_goal 53 = .ok (.dup, 1) := by decide +kernel
theorem dX10_goal_54 : decode cX10_goal 54 = .ok (.getfield 249, 3) := by decide +kernel
theorem dX10_goal_57 : decode cX10_goal 57 = .ok (.iconst 1, 1) := by decide +kernel
theorem dX10_goal_58 : decode cX10_goal 58 = .ok (.iadd, 1) := by decide +kernel
theorem dX10_goal_59 : decode cX10_goal 59 = .ok (.putfield 249, 3) := by decide +kernel
theorem dX10_goal_62 : decode cX10_goal 62 = .ok (.return_, 1) := by decide +kernel
theorem dX10_place_0 : decode cX10_place 0 = .ok (.aload_n 0, 1) := by decide +kernel
theorem dX10_place_1 : decode cX10_place 1 = .ok (.dup, 1) := by decide +kernel
theorem dX10_place_2 : decode cX10_place 2 = .ok (.getfield 252, 3) := by decide +kernel
theorem dX10_place_5 : decode cX10_place 5 = .ok (.iconst 1, 1) := by decide +kernel
theorem dX10_place_6 : decode cX10_place 6 = .ok (.iadd, 1) := by decide +kernel
theorem dX10_place_7 : decode cX10_place 7 = .ok (.putfield 252, 3) := by decide +kernel
theorem dX10_place_10 : decode cX10_place 10 = .ok (.aload_n 0, 1) := by decide +kernel
theorem dX10_place_11 : decode cX10_place 11 = .ok (.getfield 108, 3) := by decide +kernel
theorem dX10_place_14 : decode cX10_place 14 = .ok (.aload_n 0, 1) := by decide +kernel
theorem dX10_place_15 : decode cX10_place 15 = .ok (.getfield 252, 3) := by decide +kernel
theorem dX10_place_18 : decode cX10_place 18 = .ok (.iload_n 1, 1) := by decide +kernel
theorem dX10_place_19 : decode cX10_place 19 = .ok (.iastore, 1) := by decide +kernel
theorem dX10_place_20 : decode cX10_place 20 = .ok (.aload_n 0, 1) := by decide +kernel
theorem dX10_place_21 : decode cX10_place 21 = .ok (.getfield 111, 3) := by decide +kernel
theorem dX10_place_24 : decode cX10_place 24 = .ok (.aload_n 0, 1) := by decide +kernel
theorem dX10_place_25 : decode cX10_place 25 = .ok (.getfield 252, 3) := by decide +kernel
theorem dX10_place_28 : decode cX10_place 28 = .ok (.iload_n 2, 1) := by decide +kernel
theorem dX10_place_29 : decode cX10_place 29 = .ok (.iastore, 1) := by decide +kernel
theorem dX10_place_30 : decode cX10_place 30 = .ok (.aload_n 0, 1) := by decide +kernel
theorem dX10_place_31 : decode cX10_place 31 = .ok (.getfield 114, 3) := by decide +kernel
theorem dX10_place_34 : decode cX10_place 34 = .ok (.aload_n 0, 1) := by decide +kernel
theorem dX10_place_35 : decode cX10_place 35 = .ok (.getfield 252, 3) := by decide +kernel
theorem dX10_place_38 : decode cX10_place 38 = .ok (.iload_n 3, 1) := by decide +kernel
theorem dX10_place_39 : decode cX10_place 39 = .ok (.iastore, 1) := by decide +kernel
theorem dX10_place_40 : decode cX10_place 40 = .ok (.aload_n 0, 1) := by decide +kernel
theorem dX10_place_41 : decode cX10_place 41 = .ok (.getfield 252, 3) := by decide +kernel
theorem dX10_place_44 : decode cX10_place 44 = .ok (.ireturn, 1) := by decide +kernel
theorem dX10_variable_0 : decode cX10_variable 0 = .ok (.iload_n 2, 1) := by decide +kernel
theorem dX10_variable_1 : decode cX10_variable 1 = .ok (.istore 4, 2) := by decide +kernel
theorem dX10_variable_3 : decode cX10_variable 3 = .ok (.iconst 0, 1) := by decide +kernel
theorem dX10_variable_4 : decode cX10_variable 4 = .ok (.istore 5, 2) := by decide +kernel
theorem dX10_variable_6 : decode cX10_variable 6 = .ok (.iload 5, 2) := by decide +kernel
theorem dX10_variable_8 : decode cX10_variable 8 = .ok (.iload_n 1, 1) := by decide +kernel
theorem dX10_variable_9 : decode cX10_variable 9 = .ok (.if_icmp .ge 18, 3) := by decide +kernel
theorem dX10_variable_12 : decode cX10_variable 12 = .ok (.aload_n 0, 1) := by decide +kernel
theorem dX10_variable_13 : decode cX10_variable 13 = .ok (.getfield 114, 3) := by decide +kernel
theorem dX10_variable_16 : decode cX10_variable 16 = .ok (.iload 4, 2) := by decide +kernel
theorem dX10_variable_18 : decode cX10_variable 18 = .ok (.iaload, 1) := by decide +kernel
theorem dX10_variable_19 : decode cX10_variable 19 = .ok (.istore 4, 2) := by decide +kernel
theorem dX10_variable_21 : decode cX10_variable 21 = .ok (.iinc 5 1, 3) := by decide +kernel
theorem dX10_variable_24 : decode cX10_variable 24 = .ok (.goto (-18), 3) := by decide +kernel
theorem dX10_variable_27 : decode cX10_variable 27 = .ok (.aload_n 0, 1) := by decide +kernel
theorem dX10_variable_28 : decode cX10_variable 28 = .ok (.getfield 111, 3) := by decide +kernel
theorem dX10_variable_31 : decode cX10_variable 31 = .ok (.iload 4, 2) := by decide +kernel
theorem dX10_variable_33 : decode cX10_variable 33 = .ok (.iaload, 1) := by decide +kernel
theorem dX10_variable_34 : decode cX10_variable 34 = .ok (.iconst (-1), 1) := by decide +kernel
theorem dX10_variable_35 : decode cX10_variable 35 = .ok (.if_icmp .ne 18, 3) := by decide +kernel
theorem dX10_variable_38 : decode cX10_variable 38 = .ok (.aload_n 0, 1) := by decide +kernel
theorem dX10_variable_39 : decode cX10_variable 39 = .ok (.iload_n 3, 1) := by decide +kernel
theorem dX10_variable_40 : decode cX10_variable 40 = .ok (.aload_n 0, 1) := by decide +kernel
theorem dX10_variable_41 : decode cX10_variable 41 = .ok (.getfield 108, 3) := by decide +kernel
theorem dX10_variable_44 : decode cX10_variable 44 = .ok (.iload 4, 2) := by decide +kernel
theorem dX10_variable_46 : decode cX10_variable 46 = .ok (.iaload, 1) := by decide +kernel
theorem dX10_variable_47 : decode cX10_variable 47 = .ok (.invokevirtual 255, 3) := by decide +kernel
theorem dX10_variable_50 : decode cX10_variable 50 = .ok (.goto 36, 3) := by decide +kernel
theorem dX10_variable_53 : decode cX10_variable 53 = .ok (.aload_n 0, 1) := by decide +kernel
theorem dX10_variable_54 : decode cX10_variable 54 = .ok (.invokevirtual 258, 3) := by decide +kernel
theorem dX10_variable_57 : decode cX10_variable 57 = .ok (.istore 5, 2) := by decide +kernel
theorem dX10_variable_59 : decode cX10_variable 59 = .ok (.aload_n 0, 1) := by decide +kernel
theorem dX10_variable_60 : decode cX10_variable 60 = .ok (.iload_n 3, 1) := by decide +kernel
theorem dX10_variable_61 : decode cX10_variable 61 = .ok (.aload_n 0, 1) := by decide +kernel
theorem dX10_variable_62 : decode cX10_variable 62 = .ok (.aload_n 0, 1) := by decide +kernel
theorem dX10_variable_63 : decode cX10_variable 63 = .ok (.getfield 108, 3) := by decide +kernel
theorem dX10_variable_66 : decode cX10_variable 66 = .ok (.iload 4, 2) := by decide +kernel
theorem dX10_variable_68 : decode cX10_variable 68 = .ok (.iaload, 1) := by decide +kernel
theorem dX10_variable_69 : decode cX10_variable 69 = .ok (.iload 5, 2) := by decide +kernel
theorem dX10_variable_71 : decode cX10_variable 71 = .ok (.aload_n 0, 1) := by decide +kernel
theorem dX10_variable_72 : decode cX10_variable 72 = .ok (.getfield 111, 3) := by decide +kernel
theorem dX10_variable_75 : decode cX10_variable 75 = .ok (.iload 4, 2) := by decide +kernel
theorem dX10_variable_77 : decode cX10_variable 77 = .ok (.iaload, 1) := by decide +kernel
theorem dX10_variable_78 : decode cX10_variable 78 = .ok (.iload 5, 2) := by decide +kernel
theorem dX10_variable_80 : decode cX10_variable 80 = .ok (.invokevirtual 261, 3) := by decide +kernel
theorem dX10_variable_83 : decode cX10_variable 83 = .ok (.invokevirtual 255, 3) := by decide +kernel
theorem dX10_variable_86 : decode cX10_variable 86 = .ok (.return_, 1) := by decide +kernel
theorem dX10_function_0 : decode cX10_function 0 = .ok (.aload_n 0, 1) := by decide +kernel
theorem dX10_function_1 : decode cX10_function 1 = .ok (.invokevirtual 258, 3) := by decide +kernel
theorem dX10_function_4 : decode cX10_function 4 = .ok (.istore 5, 2) := by decide +kernel
theorem dX10_function_6 : decode cX10_function 6 = .ok (.aload_n 0, 1) := by decide +kernel
theorem dX10_function_7 : decode cX10_function 7 = .ok (.invokevirtual 258, 3) := by decide +kernel
theorem dX10_function_10 : decode cX10_function 10 = .ok (.istore 6, 2) := by decide +kernel
theorem dX10_function_12 : decode cX10_function 12 = .ok (.aload_n 0, 1) := by decide +kernel
theorem dX10_function_13 : decode cX10_function 13 = .ok (.invokevirtual 258, 3) := by decide +kernel
theorem dX10_function_16 : decode cX10_function 16 = .ok (.istore 7, 2) := by decide +kernel
theorem dX10_function_18 : decode cX10_function 18 = .ok (.aload_n 0, 1) := by decide +kernel
theorem dX10_function_19 : decode cX10_function 19 = .ok (.invokevirtual 258, 3) := by decide +kernel
theorem dX10_function_22 : decode cX10_function 22 = .ok (.istore 8, 2) := by decide +kernel
theorem dX10_function_24 : decode cX10_function 24 = .ok (.aload_n 0, 1) := by decide +kernel
theorem dX10_function_25 : decode cX10_function 25 = .ok (.iload 5, 2) := by decide +kernel
theorem dX10_function_27 : decode cX10_function 27 = .ok (.iload 6, 2) := by decide +kernel
theorem dX10_function_29 : decode cX10_function 29 = .ok (.iload 7, 2) := by decide +kernel
theorem dX10_function_31 : decode cX10_function 31 = .ok (.iload 8, 2) := by decide +kernel
theorem dX10_function_33 : decode cX10_function 33 = .ok (.invokevirtual 261, 3) := by decide +kernel
theorem dX10_function_36 : decode cX10_function 36 = .ok (.istore 9, 2) := by decide +kernel
theorem dX10_function_38 : decode cX10_function 38 = .ok (.aload_n 0, 1) := by decide +kernel
theorem dX10_function_39 : decode cX10_function 39 = .ok (.iload 4, 2) := by decide +kernel
theorem dX10_function_41 : decode cX10_function 41 = .ok (.iload 9, 2) := by decide +kernel
theorem dX10_function_43 : decode cX10_function 43 = .ok (.invokevirtual 255, 3) := by decide +kernel
theorem dX10_function_46 : decode cX10_function 46 = .ok (.iload_n 1, 1) := by decide +kernel
theorem dX10_function_47 : decode cX10_function 47 = .ok (.bipush 11, 2) := by decide +kernel
theorem dX10_function_49 : decode cX10_function 49 = .ok (.if_icmp .ne 14, 3) := by decide +kernel
theorem dX10_function_52 : decode cX10_function 52 = .ok (.aload_n 0, 1) := by decide +kernel
theorem dX10_function_53 : decode cX10_function 53 = .ok (.iload 9, 2) := by decide +kernel
theorem dX10_function_55 : decode cX10_function 55 = .ok (.iconst (-1), 1) := by decide +kernel
theorem dX10_function_56 : decode cX10_function 56 = .ok (.iload_n 3, 1) := by decide +kernel
theorem dX10_function_57 : decode cX10_function 57 = .ok (.invokevirtual 264, 3) := by decide +kernel
theorem dX10_function_60 : decode cX10_function 60 = .ok (.goto 4, 3) := by decide +kernel
theorem dX10_function_63 : decode cX10_function 63 = .ok (.iload_n 3, 1) := by decide +kernel
theorem dX10_function_64 : decode cX10_function 64 = .ok (.istore 10, 2) := by decide +kernel
theorem dX10_function_66 : decode cX10_function 66 = .ok (.aload_n 0, 1) := by decide +kernel
theorem dX10_function_67 : decode cX10_function 67 = .ok (.aload_n 0, 1) := by decide +kernel
theorem dX10_function_68 : decode cX10_function 68 = .ok (.getfield 13, 3) := by decide +kernel
theorem dX10_function_71 : decode cX10_function 71 = .ok (.iload_n 2, 1) := by decide +kernel
theorem dX10_function_72 : decode cX10_function 72 = .ok (.iaload, 1) := by decide +kernel
theorem dX10_function_73 : decode cX10_function 73 = .ok (.aload_n 0, 1) := by decide +kernel
theorem dX10_function_74 : decode cX10_function 74 = .ok (.iload 5, 2) := by decide +kernel
theorem dX10_function_76 : decode cX10_function 76 = .ok (.iconst (-1), 1) := by decide +kernel
theorem dX10_function_77 : decode cX10_function 77 = .ok (.iload 10, 2) := by decide +kernel
theorem dX10_function_79 : decode cX10_function 79 = .ok (.invokevirtual 264, 3) := by decide +kernel
theorem dX10_function_82 : decode cX10_function 82 = .ok (.iload 7, 2) := by decide +kernel
theorem dX10_function_84 : decode cX10_function 84 = .ok (.iload 6, 2) := by decide +kernel
theorem dX10_function_86 : decode cX10_function 86 = .ok (.iload 8, 2) := by decide +kernel
theorem dX10_function_88 : decode cX10_function 88 = .ok (.invokevirtual 267, 3) := by decide +kernel
theorem dX10_function_91 : decode cX10_function 91 = .ok (.return_, 1) := by decide +kernel
theorem dX10_solve_0 : decode cX10_solve 0 = .ok (.aload_n 0, 1) := by decide +kernel
theorem dX10_solve_1 : decode cX10_solve 1 = .ok (.dup, 1) := by decide +kernel
theorem dX10_solve_2 : decode cX10_solve 2 = .ok (.getfield 249, 3) := by decide +kernel
theorem dX10_solve_5 : decode cX10_solve 5 = .ok (.iconst 1, 1) := by decide +kernel
theorem dX10_solve_6 : decode cX10_solve 6 = .ok (.isub, 1) := by decide +kernel
theorem dX10_solve_7 : decode cX10_solve 7 = .ok (.putfield 249, 3) := by decide +kernel
theorem dX10_solve_10 : decode cX10_solve 10 = .ok (.aload_n 0, 1) := by decide +kernel
theorem dX10_solve_11 : decode cX10_solve 11 = .ok (.getfield 93, 3) := by decide +kernel
theorem dX10_solve_14 : decode cX10_solve 14 = .ok (.aload_n 0, 1) := by decide +kernel
theorem dX10_solve_15 : decode cX10_solve 15 = .ok (.getfield 249, 3) := by decide +kernel
theorem dX10_solve_18 : decode cX10_solve 18 = .ok (.iaload, 1) := by decide +kernel
theorem dX10_solve_19 : decode cX10_solve 19 = .ok (.istore_n 1, 1) := by decide +kernel
theorem dX10_solve_20 : decode cX10_solve 20 = .ok (.aload_n 0, 1) := by decide +kernel
theorem dX10_solve_21 : decode cX10_solve 21 = .ok (.getfield 96, 3) := by decide +kernel
theorem dX10_solve_24 : decode cX10_solve 24 = .ok (.aload_n 0, 1) := by decide +kernel
theorem dX10_solve_25 : decode cX10_solve 25 = .ok (.getfield 249, 3) := by decide +kernel
theorem dX10_solve_28 : decode cX10_solve 28 = .ok (.iaload, 1) := by decide +kernel
theorem dX10_solve_29 : decode cX10_solve 29 = .ok (.istore_n 2, 1) := by decide +kernel
theorem dX10_solve_30 : decode cX10_solve 30 = .ok (.aload_n 0, 1) := by decide +kernel
theorem dX10_solve_31 : decode cX10_solve 31 = .ok (.getfield 99, 3) := by decide +kernel
theorem dX10_solve_34 : decode cX10_solve 34 = .ok (.aload_n 0, 1) := by decide +kernel
theorem dX10_solve_35 : decode cX10_solve 35 = .ok (.getfield 249, 3) := by decide +kernel
theorem dX10_solve_38 : decode cX10_solve 38 = .ok (.iaload, 1) := by decide +kernel
theorem dX10_solve_39 : decode cX10_solve 39 = .ok (.istore_n 3, 1) := by decide +kernel
theorem dX10_solve_40 : decode cX10_solve 40 = .ok (.aload_n 0, 1) := by decide +kernel
theorem dX10_solve_41 : decode cX10_solve 41 = .ok (.getfield 102, 3) := by decide +kernel
theorem dX10_solve_44 : decode cX10_solve 44 = .ok (.aload_n 0, 1) := by decide +kernel
theorem dX10_solve_45 : decode cX10_solve 45 = .ok (.getfield 249, 3) := by decide +kernel
theorem dX10_solve_48 : decode cX10_solve 48 = .ok (.iaload, 1) := by decide +kernel
theorem dX10_solve_49 : decode cX10_solve 49 = .ok (.istore 4, 2) := by decide +kernel
theorem dX10_solve_51 : decode cX10_solve 51 = .ok (.aload_n 0, 1) := by decide +kernel
theorem dX10_solve_52 : decode cX10_solve 52 = .ok (.getfield 105, 3) := by decide +kernel
theorem dX10_solve_55 : decode cX10_solve 55 = .ok (.aload_n 0, 1) := by decide +kernel
theorem dX10_solve_56 : decode cX10_solve 56 = .ok (.getfield 249, 3) := by decide +kernel
theorem dX10_solve_59 : decode cX10_solve 59 = .ok (.iaload, 1) := by decide +kernel
theorem dX10_solve_60 : decode cX10_solve 60 = .ok (.istore 5, 2) := by decide +kernel
theorem dX10_solve_62 : decode cX10_solve 62 = .ok (.aload_n 0, 1) := by decide +kernel
theorem dX10_solve_63 : decode cX10_solve 63 = .ok (.getfield 7, 3) := by decide +kernel
theorem dX10_solve_66 : decode cX10_solve 66 = .ok (.iload_n 1, 1) := by decide +kernel
theorem dX10_solve_67 : decode cX10_solve 67 = .ok (.iaload, 1) := by decide +kernel
theorem dX10_solve_68 : decode cX10_solve 68 = .ok (.istore 6, 2) := by decide +kernel
theorem dX10_solve_70 : decode cX10_solve 70 = .ok (.iload 6, 2) := by decide +kernel
theorem dX10_solve_72 : decode cX10_solve 72 = .ok (.iconst 0, 1) := by decide +kernel
theorem dX10_solve_73 : decode cX10_solve 73 = .ok (.iconst 3, 1) := by decide +kernel
theorem dX10_solve_74 : decode cX10_solve 74 = .ok (.invokestatic 123, 3) := by decide +kernel
theorem dX10_solve_77 : decode cX10_solve 77 = .ok (.ifCond .ne 17, 3) := by decide +kernel
theorem dX10_solve_80 : decode cX10_solve 80 = .ok (.iload 6, 2) := by decide +kernel
theorem dX10_solve_82 : decode cX10_solve 82 = .ok (.bipush 11, 2) := by decide +kernel
theorem dX10_solve_84 : decode cX10_solve 84 = .ok (.if_icmp .eq 10, 3) := by decide +kernel
theorem dX10_solve_87 : decode cX10_solve 87 = .ok (.iload 6, 2) := by decide +kernel
theorem dX10_solve_89 : decode cX10_solve 89 = .ok (.bipush 9, 2) := by decide +kernel
theorem dX10_solve_91 : decode cX10_solve 91 = .ok (.if_icmp .ne 11, 3) := by decide +kernel
theorem dX10_solve_94 : decode cX10_solve 94 = .ok (.aload_n 0, 1) := by decide +kernel
theorem dX10_solve_95 : decode cX10_solve 95 = .ok (.iload 4, 2) := by decide +kernel
theorem dX10_solve_97 : decode cX10_solve 97 = .ok (.iload 5, 2) := by decide +kernel
theorem dX10_solve_99 : decode cX10_solve 99 = .ok (.invokevirtual 255, 3) := by decide +kernel
theorem dX10_solve_102 : decode cX10_solve 102 = .ok (.iload 6, 2) := by decide +kernel
theorem dX10_solve_104 : decode cX10_solve 104 = .ok (.tableswitch 171 0 11 #[64, 64, 86, 101, 171, 171, 171, 171, 171, 113, 138, 101], 64) := by decide +kernel
theorem dX10_solve_168 : decode cX10_solve 168 = .ok (.aload_n 0, 1) := by decide +kernel
theorem dX10_solve_169 : decode cX10_solve 169 = .ok (.iload_n 3, 1) := by decide +kernel
theorem dX10_solve_170 : decode cX10_solve 170 = .ok (.aload_n 0, 1) := by decide +kernel
theorem dX10_solve_171 : decode cX10_solve 171 = .ok (.iload 6, 2) := by decide +kernel
theorem dX10_solve_173 : decode cX10_solve 173 = .ok (.ifCond .ne 7, 3) := by decide +kernel
theorem dX10_solve_176 : decode cX10_solve 176 = .ok (.iconst 0, 1) := by decide +kernel
theorem dX10_solve_177 : decode cX10_solve 177 = .ok (.goto 4, 3) := by decide +kernel
theorem dX10_solve_180 : decode cX10_solve 180 = .ok (.iconst 1, 1) := by decide +kernel
theorem dX10_solve_181 : decode cX10_solve 181 = .ok (.invokevirtual 236, 3) := by decide +kernel
theorem dX10_solve_184 : decode cX10_solve 184 = .ok (.invokevirtual 255, 3) := by decide +kernel
theorem dX10_solve_187 : decode cX10_solve 187 = .ok (.goto 96, 3) := by decide +kernel
theorem dX10_solve_190 : decode cX10_solve 190 = .ok (.aload_n 0, 1) := by decide +kernel
theorem dX10_solve_191 : decode cX10_solve 191 = .ok (.aload_n 0, 1) := by decide +kernel
theorem dX10_solve_192 : decode cX10_solve 192 = .ok (.getfield 13, 3) := by decide +kernel
theorem dX10_solve_195 : decode cX10_solve 195 = .ok (.iload_n 1, 1) := by decide +kernel
theorem dX10_solve_196 : decode cX10_solve 196 = .ok (.iaload, 1) := by decide +kernel
theorem dX10_solve_197 : decode cX10_solve 197 = .ok (.iload_n 2, 1) := by decide +kernel
theorem dX10_solve_198 : decode cX10_solve 198 = .ok (.iload_n 3, 1) := by decide +kernel
theorem dX10_solve_199 : decode cX10_solve 199 = .ok (.invokevirtual 270, 3) := by decide +kernel
theorem dX10_solve_202 : decode cX10_solve 202 = .ok (.goto 81, 3) := by decide +kernel
theorem dX10_solve_205 : decode cX10_solve 205 = .ok (.aload_n 0, 1) := by decide +kernel
theorem dX10_solve_206 : decode cX10_solve 206 = .ok (.iload 6, 2) := by decide +kernel
theorem dX10_solve_208 : decode cX10_solve 208 = .ok (.iload_n 1, 1) := by decide +kernel
theorem dX10_solve_209 : decode cX10_solve 209 = .ok (.iload_n 2, 1) := by decide +kernel
theorem dX10_solve_210 : decode cX10_solve 210 = .ok (.iload_n 3, 1) := by decide +kernel
theorem dX10_solve_211 : decode cX10_solve 211 = .ok (.invokevirtual 274, 3) := by decide +kernel
theorem dX10_solve_214 : decode cX10_solve 214 = .ok (.goto 69, 3) := by decide +kernel
theorem dX10_solve_217 : decode cX10_solve 217 = .ok (.aload_n 0, 1) := by decide +kernel
theorem dX10_solve_218 : decode cX10_solve 218 = .ok (.invokevirtual 258, 3) := by decide +kernel
theorem dX10_solve_221 : decode cX10_solve 221 = .ok (.istore 7, 2) := by decide +kernel
theorem dX10_solve_223 : decode cX10_solve 223 = .ok (.aload_n 0, 1) := by decide +kernel
theorem dX10_solve_224 : decode cX10_solve 224 = .ok (.aload_n 0, 1) := by decide +kernel
theorem dX10_solve_225 : decode cX10_solve 225 = .ok (.getfield 13, 3) := by decide +kernel
theorem dX10_solve_228 : decode cX10_solve 228 = .ok (.iload_n 1, 1) := by decide +kernel
theorem dX10_solve_229 : decode cX10_solve 229 = .ok (.iaload, 1) := by decide +kernel
theorem dX10_solve_230 : decode cX10_solve 230 = .ok (.iload_n 2, 1) := by decide +kernel
theorem dX10_solve_231 : decode cX10_solve 231 = .ok (.iload 7, 2) := by decide +kernel
theorem dX10_solve_233 : decode cX10_solve 233 = .ok (.iload 7, 2) := by decide +kernel
theorem dX10_solve_235 : decode cX10_solve 235 = .ok (.iload_n 3, 1) := by decide +kernel
theorem dX10_solve_236 : decode cX10_solve 236 = .ok (.invokevirtual 267, 3) := by decide +kernel
theorem dX10_solve_239 : decode cX10_solve 239 = .ok (.goto 44, 3) := by decide +kernel
theorem dX10_solve_242 : decode cX10_solve 242 = .ok (.aload_n 0, 1) := by decide +kernel
theorem dX10_solve_243 : decode cX10_solve 243 = .ok (.invokevirtual 258, 3) := by decide +kernel
theorem dX10_solve_246 : decode cX10_solve 246 = .ok (.istore 8, 2) := by decide +kernel
theorem dX10_solve_248 : decode cX10_solve 248 = .ok (.aload_n 0, 1) := by decide +kernel
theorem dX10_solve_249 : decode cX10_solve 249 = .ok (.aload_n 0, 1) := by decide +kernel
theorem dX10_solve_250 : decode cX10_solve 250 = .ok (.getfield 13, 3) := by decide +kernel
theorem dX10_solve_253 : decode cX10_solve 253 = .ok (.iload_n 1, 1) := by decide +kernel
theorem dX10_solve_254 : decode cX10_solve 254 = .ok (.iaload, 1) := by decide +kernel
theorem dX10_solve_255 : decode cX10_solve 255 = .ok (.aload_n 0, 1) := by decide +kernel
theorem dX10_solve_256 : decode cX10_solve 256 = .ok (.iload_n 3, 1) := by decide +kernel
theorem dX10_solve_257 : decode cX10_solve 257 = .ok (.iload 4, 2) := by decide +kernel
theorem dX10_solve_259 : decode cX10_solve 259 = .ok (.iload_n 2, 1) := by decide +kernel
theorem dX10_solve_260 : decode cX10_solve 260 = .ok (.invokevirtual 264, 3) := by decide +kernel
theorem dX10_solve_263 : decode cX10_solve 263 = .ok (.iload 8, 2) := by decide +kernel
theorem dX10_solve_265 : decode cX10_solve 265 = .ok (.iload 8, 2) := by decide +kernel
theorem dX10_solve_267 : decode cX10_solve 267 = .ok (.iload 5, 2) := by decide +kernel
theorem dX10_solve_269 : decode cX10_solve 269 = .ok (.invokevirtual 267, 3) := by decide +kernel
theorem dX10_solve_272 : decode cX10_solve 272 = .ok (.goto 11, 3) := by decide +kernel
theorem dX10_solve_275 : decode cX10_solve 275 = .ok (.aload_n 0, 1) := by decide +kernel
theorem dX10_solve_276 : decode cX10_solve 276 = .ok (.iload 6, 2) := by decide +kernel
theorem dX10_solve_278 : decode cX10_solve 278 = .ok (.iload_n 1, 1) := by decide +kernel
theorem dX10_solve_279 : decode cX10_solve 279 = .ok (.iload_n 2, 1) := by decide +kernel
theorem dX10_solve_280 : decode cX10_solve 280 = .ok (.invokevirtual 278, 3) := by decide +kernel
theorem dX10_solve_283 : decode cX10_solve 283 = .ok (.return_, 1) := by decide +kernel
theorem dX10_solveTwo_0 : decode cX10_solveTwo 0 = .ok (.aload_n 0, 1) := by decide +kernel
theorem dX10_solveTwo_1 : decode cX10_solveTwo 1 = .ok (.getfield 99, 3) := by decide +kernel
theorem dX10_solveTwo_4 : decode cX10_solveTwo 4 = .ok (.aload_n 0, 1) := by decide +kernel
theorem dX10_solveTwo_5 : decode cX10_solveTwo 5 = .ok (.getfield 249, 3) := by decide +kernel
theorem dX10_solveTwo_8 : decode cX10_solveTwo 8 = .ok (.iaload, 1) := by decide +kernel
theorem dX10_solveTwo_9 : decode cX10_solveTwo 9 = .ok (.istore 4, 2) := by decide +kernel
theorem dX10_solveTwo_11 : decode cX10_solveTwo 11 = .ok (.aload_n 0, 1) := by decide +kernel
theorem dX10_solveTwo_12 : decode cX10_solveTwo 12 = .ok (.getfield 102, 3) := by decide +kernel
theorem dX10_solveTwo_15 : decode cX10_solveTwo 15 = .ok (.aload_n 0, 1) := by decide +kernel
theorem dX10_solveTwo_16 : decode cX10_solveTwo 16 = .ok (.getfield 249, 3) := by decide +kernel
theorem dX10_solveTwo_19 : decode cX10_solveTwo 19 = .ok (.iaload, 1) := by decide +kernel
theorem dX10_solveTwo_20 : decode cX10_solveTwo 20 = .ok (.istore 5, 2) := by decide +kernel
theorem dX10_solveTwo_22 : decode cX10_solveTwo 22 = .ok (.aload_n 0, 1) := by decide +kernel
theorem dX10_solveTwo_23 : decode cX10_solveTwo 23 = .ok (.getfield 105, 3) := by decide +kernel
theorem dX10_solveTwo_26 : decode cX10_solveTwo 26 = .ok (.aload_n 0, 1) := by decide +kernel
theorem dX10_solveTwo_27 : decode cX10_solveTwo 27 = .ok (.getfield 249, 3) := by decide +kernel
theorem dX10_solveTwo_30 : decode cX10_solveTwo 30 = .ok (.iaload, 1) := by decide +kernel
theorem dX10_solveTwo_31 : decode cX10_solveTwo 31 = .ok (.istore 6, 2) := by decide +kernel
theorem dX10_solveTwo_33 : decode cX10_solveTwo 33 = .ok (.aload_n 0, 1) := by decide +kernel
theorem dX10_solveTwo_34 : decode cX10_solveTwo 34 = .ok (.invokevirtual 258, 3) := by decide +kernel
theorem dX10_solveTwo_37 : decode cX10_solveTwo 37 = .ok (.istore 7, 2) := by decide +kernel
theorem dX10_solveTwo_39 : decode cX10_solveTwo 39 = .ok (.iload_n 1, 1) := by decide +kernel
theorem dX10_solveTwo_40 : decode cX10_solveTwo 40 = .ok (.iconst 4, 1) := by decide +kernel
theorem dX10_solveTwo_41 : decode cX10_solveTwo 41 = .ok (.if_icmp .ne 62, 3) := by decide +kernel
theorem dX10_solveTwo_44 : decode cX10_solveTwo 44 = .ok (.aload_n 0, 1) := by decide +kernel
theorem dX10_solveTwo_45 : decode cX10_solveTwo 45 = .ok (.invokevirtual 258, 3) := by decide +kernel
theorem dX10_solveTwo_48 : decode cX10_solveTwo 48 = .ok (.istore 8, 2) := by decide +kernel
theorem dX10_solveTwo_50 : decode cX10_solveTwo 50 = .ok (.aload_n 0, 1) := by decide +kernel
theorem dX10_solveTwo_51 : decode cX10_solveTwo 51 = .ok (.invokevirtual 258, 3) := by decide +kernel
theorem dX10_solveTwo_54 : decode cX10_solveTwo 54 = .ok (.istore 9, 2) := by decide +kernel
theorem dX10_solveTwo_56 : decode cX10_solveTwo 56 = .ok (.aload_n 0, 1) := by decide +kernel
theorem dX10_solveTwo_57 : decode cX10_solveTwo 57 = .ok (.aload_n 0, 1) := by decide +kernel
theorem dX10_solveTwo_58 : decode cX10_solveTwo 58 = .ok (.getfield 13, 3) := by decide +kernel
theorem dX10_solveTwo_61 : decode cX10_solveTwo 61 = .ok (.iload_n 2, 1) := by decide +kernel
theorem dX10_solveTwo_62 : decode cX10_solveTwo 62 = .ok (.iaload, 1) := by decide +kernel
theorem dX10_solveTwo_63 : decode cX10_solveTwo 63 = .ok (.iload_n 3, 1) := by decide +kernel
theorem dX10_solveTwo_64 : decode cX10_solveTwo 64 = .ok (.aload_n 0, 1) := by decide +kernel
theorem dX10_solveTwo_65 : decode cX10_solveTwo 65 = .ok (.iload 8, 2) := by decide +kernel
theorem dX10_solveTwo_67 : decode cX10_solveTwo 67 = .ok (.iload 5, 2) := by decide +kernel
theorem dX10_solveTwo_69 : decode cX10_solveTwo 69 = .ok (.iload 4, 2) := by decide +kernel
theorem dX10_solveTwo_71 : decode cX10_solveTwo 71 = .ok (.iload 9, 2) := by decide +kernel
theorem dX10_solveTwo_73 : decode cX10_solveTwo 73 = .ok (.invokevirtual 261, 3) := by decide +kernel
theorem dX10_solveTwo_76 : decode cX10_solveTwo 76 = .ok (.iload 7, 2) := by decide +kernel
theorem dX10_solveTwo_78 : decode cX10_solveTwo 78 = .ok (.iload 6, 2) := by decide +kernel
theorem dX10_solveTwo_80 : decode cX10_solveTwo 80 = .ok (.invokevirtual 267, 3) := by decide +kernel
theorem dX10_solveTwo_83 : decode cX10_solveTwo 83 = .ok (.aload_n 0, 1) := by decide +kernel
theorem dX10_solveTwo_84 : decode cX10_solveTwo 84 = .ok (.aload_n 0, 1) := by decide +kernel
theorem dX10_solveTwo_85 : decode cX10_solveTwo 85 = .ok (.getfield 16, 3) := by decide +kernel
theorem dX10_solveTwo_88 : decode cX10_solveTwo 88 = .ok (.iload_n 2, 1) := by decide +kernel
theorem dX10_solveTwo_89 : decode cX10_solveTwo 89 = .ok (.iaload, 1) := by decide +kernel
theorem dX10_solveTwo_90 : decode cX10_solveTwo 90 = .ok (.iload_n 3, 1) := by decide +kernel
theorem dX10_solveTwo_91 : decode cX10_solveTwo 91 = .ok (.iload 8, 2) := by decide +kernel
theorem dX10_solveTwo_93 : decode cX10_solveTwo 93 = .ok (.iload 9, 2) := by decide +kernel
theorem dX10_solveTwo_95 : decode cX10_solveTwo 95 = .ok (.iload 7, 2) := by decide +kernel
theorem dX10_solveTwo_97 : decode cX10_solveTwo 97 = .ok (.invokevirtual 267, 3) := by decide +kernel
theorem dX10_solveTwo_100 : decode cX10_solveTwo 100 = .ok (.goto 182, 3) := by decide +kernel
theorem dX10_solveTwo_103 : decode cX10_solveTwo 103 = .ok (.iload_n 1, 1) := by decide +kernel
theorem dX10_solveTwo_104 : decode cX10_solveTwo 104 = .ok (.bipush 8, 2) := by decide +kernel
theorem dX10_solveTwo_106 : decode cX10_solveTwo 106 = .ok (.if_icmp .ne 53, 3) := by decide +kernel
theorem dX10_solveTwo_109 : decode cX10_solveTwo 109 = .ok (.aload_n 0, 1) := by decide +kernel
theorem dX10_solveTwo_110 : decode cX10_solveTwo 110 = .ok (.invokevirtual 258, 3) := by decide +kernel
theorem dX10_solveTwo_113 : decode cX10_solveTwo 113 = .ok (.istore 8, 2) := by decide +kernel
theorem dX10_solveTwo_115 : decode cX10_solveTwo 115 = .ok (.aload_n 0, 1) := by decide +kernel
theorem dX10_solveTwo_116 : decode cX10_solveTwo 116 = .ok (.aload_n 0, 1) := by decide +kernel
theorem dX10_solveTwo_117 : decode cX10_solveTwo 117 = .ok (.getfield 13, 3) := by decide +kernel
theorem dX10_solveTwo_120 : decode cX10_solveTwo 120 = .ok (.iload_n 2, 1) := by decide +kernel
theorem dX10_solveTwo_121 : decode cX10_solveTwo 121 = .ok (.iaload, 1) := by decide +kernel
theorem dX10_solveTwo_122 : decode cX10_solveTwo 122 = .ok (.iload_n 3, 1) := by decide +kernel
theorem dX10_solveTwo_123 : decode cX10_solveTwo 123 = .ok (.iload 8, 2) := by decide +kernel
theorem dX10_solveTwo_125 : decode cX10_solveTwo 125 = .ok (.iload 7, 2) := by decide +kernel
theorem dX10_solveTwo_127 : decode cX10_solveTwo 127 = .ok (.iload 6, 2) := by decide +kernel
theorem dX10_solveTwo_129 : decode cX10_solveTwo 129 = .ok (.invokevirtual 267, 3) := by decide +kernel
theorem dX10_solveTwo_132 : decode cX10_solveTwo 132 = .ok (.aload_n 0, 1) := by decide +kernel
theorem dX10_solveTwo_133 : decode cX10_solveTwo 133 = .ok (.aload_n 0, 1) := by decide +kernel
theorem dX10_solveTwo_134 : decode cX10_solveTwo 134 = .ok (.getfield 16, 3) := by decide +kernel
theorem dX10_solveTwo_137 : decode cX10_solveTwo 137 = .ok (.iload_n 2, 1) := by decide +kernel
theorem dX10_solveTwo_138 : decode cX10_solveTwo 138 = .ok (.iaload, 1) := by decide +kernel
theorem dX10_solveTwo_139 : decode cX10_solveTwo 139 = .ok (.aload_n 0, 1) := by decide +kernel
theorem dX10_solveTwo_140 : decode cX10_solveTwo 140 = .ok (.iload 8, 2) := by decide +kernel
theorem dX10_solveTwo_142 : decode cX10_solveTwo 142 = .ok (.iconst (-1), 1) := by decide +kernel
theorem dX10_solveTwo_143 : decode cX10_solveTwo 143 = .ok (.iload_n 3, 1) := by decide +kernel
theorem dX10_solveTwo_144 : decode cX10_solveTwo 144 = .ok (.invokevirtual 264, 3) := by decide +kernel
theorem dX10_solveTwo_147 : decode cX10_solveTwo 147 = .ok (.iload 4, 2) := by decide +kernel
theorem dX10_solveTwo_149 : decode cX10_solveTwo 149 = .ok (.iload 5, 2) := by decide +kernel
theorem dX10_solveTwo_151 : decode cX10_solveTwo 151 = .ok (.iload 7, 2) := by decide +kernel
theorem dX10_solveTwo_153 : decode cX10_solveTwo 153 = .ok (.invokevirtual 267, 3) := by decide +kernel
theorem dX10_solveTwo_156 : decode cX10_solveTwo 156 = .ok (.goto 126, 3) := by decide +kernel
theorem dX10_solveTwo_159 : decode cX10_solveTwo 159 = .ok (.iload_n 1, 1) := by decide +kernel
theorem dX10_solveTwo_160 : decode cX10_solveTwo 160 = .ok (.bipush 7, 2) := by decide +kernel
theorem dX10_solveTwo_162 : decode cX10_solveTwo 162 = .ok (.if_icmp .ne 60, 3) := by decide +kernel
theorem dX10_solveTwo_165 : decode cX10_solveTwo 165 = .ok (.aload_n 0, 1) := by decide +kernel
theorem dX10_solveTwo_166 : decode cX10_solveTwo 166 = .ok (.aload_n 0, 1) := by decide +kernel
theorem dX10_solveTwo_167 : decode cX10_solveTwo 167 = .ok (.getfield 13, 3) := by decide +kernel
theorem dX10_solveTwo_170 : decode cX10_solveTwo 170 = .ok (.iload_n 2, 1) := by decide +kernel
theorem dX10_solveTwo_171 : decode cX10_solveTwo 171 = .ok (.iaload, 1) := by decide +kernel
theorem dX10_solveTwo_172 : decode cX10_solveTwo 172 = .ok (.iload_n 3, 1) := by decide +kernel
theorem dX10_solveTwo_173 : decode cX10_solveTwo 173 = .ok (.aload_n 0, 1) := by decide +kernel
theorem dX10_solveTwo_174 : decode cX10_solveTwo 174 = .ok (.iconst 1, 1) := by decide +kernel
theorem dX10_solveTwo_175 : decode cX10_solveTwo 175 = .ok (.invokevirtual 236, 3) := by decide +kernel
theorem dX10_solveTwo_178 : decode cX10_solveTwo 178 = .ok (.iload 7, 2) := by decide +kernel
theorem dX10_solveTwo_180 : decode cX10_solveTwo 180 = .ok (.iload 6, 2) := by decide +kernel
theorem dX10_solveTwo_182 : decode cX10_solveTwo 182 = .ok (.invokevirtual 267, 3) := by decide +kernel
theorem dX10_solveTwo_185 : decode cX10_solveTwo 185 = .ok (.aload_n 0, 1) := by decide +kernel
theorem dX10_solveTwo_186 : decode cX10_solveTwo 186 = .ok (.aload_n 0, 1) := by decide +kernel
theorem dX10_solveTwo_187 : decode cX10_solveTwo 187 = .ok (.getfield 16, 3) := by decide +kernel
theorem dX10_solveTwo_190 : decode cX10_solveTwo 190 = .ok (.iload_n 2, 1) := by decide +kernel
theorem dX10_solveTwo_191 : decode cX10_solveTwo 191 = .ok (.iaload, 1) := by decide +kernel
theorem dX10_solveTwo_192 : decode cX10_solveTwo 192 = .ok (.iload_n 3, 1) := by decide +kernel
theorem dX10_solveTwo_193 : decode cX10_solveTwo 193 = .ok (.iload 4, 2) := by decide +kernel
theorem dX10_solveTwo_195 : decode cX10_solveTwo 195 = .ok (.iload 5, 2) := by decide +kernel
theorem dX10_solveTwo_197 : decode cX10_solveTwo 197 = .ok (.iload 7, 2) := by decide +kernel
theorem dX10_solveTwo_199 : decode cX10_solveTwo 199 = .ok (.invokevirtual 267, 3) := by decide +kernel
theorem dX10_solveTwo_202 : decode cX10_solveTwo 202 = .ok (.aload_n 0, 1) := by decide +kernel
theorem dX10_solveTwo_203 : decode cX10_solveTwo 203 = .ok (.aload_n 0, 1) := by decide +kernel
theorem dX10_solveTwo_204 : decode cX10_solveTwo 204 = .ok (.getfield 19, 3) := by decide +kernel
theorem dX10_solveTwo_207 : decode cX10_solveTwo 207 = .ok (.iload_n 2, 1) := by decide +kernel
theorem dX10_solveTwo_208 : decode cX10_solveTwo 208 = .ok (.iaload, 1) := by decide +kernel
theorem dX10_solveTwo_209 : decode cX10_solveTwo 209 = .ok (.iload_n 3, 1) := by decide +kernel
theorem dX10_solveTwo_210 : decode cX10_solveTwo 210 = .ok (.iload 4, 2) := by decide +kernel
theorem dX10_solveTwo_212 : decode cX10_solveTwo 212 = .ok (.iload 5, 2) := by decide +kernel
theorem dX10_solveTwo_214 : decode cX10_solveTwo 214 = .ok (.iload 7, 2) := by decide +kernel
theorem dX10_solveTwo_216 : decode cX10_solveTwo 216 = .ok (.invokevirtual 267, 3) := by decide +kernel
theorem dX10_solveTwo_219 : decode cX10_solveTwo 219 = .ok (.goto 63, 3) := by decide +kernel
theorem dX10_solveTwo_222 : decode cX10_solveTwo 222 = .ok (.aload_n 0, 1) := by decide +kernel
theorem dX10_solveTwo_223 : decode cX10_solveTwo 223 = .ok (.iload 4, 2) := by decide +kernel
theorem dX10_solveTwo_225 : decode cX10_solveTwo 225 = .ok (.aload_n 0, 1) := by decide +kernel
theorem dX10_solveTwo_226 : decode cX10_solveTwo 226 = .ok (.iload_n 1, 1) := by decide +kernel
theorem dX10_solveTwo_227 : decode cX10_solveTwo 227 = .ok (.iconst 5, 1) := by decide +kernel
theorem dX10_solveTwo_228 : decode cX10_solveTwo 228 = .ok (.if_icmp .ne 7, 3) := by decide +kernel
theorem dX10_solveTwo_231 : decode cX10_solveTwo 231 = .ok (.iconst 0, 1) := by decide +kernel
theorem dX10_solveTwo_232 : decode cX10_solveTwo 232 = .ok (.goto 4, 3) := by decide +kernel
theorem dX10_solveTwo_235 : decode cX10_solveTwo 235 = .ok (.iconst 1, 1) := by decide +kernel
theorem dX10_solveTwo_236 : decode cX10_solveTwo 236 = .ok (.invokevirtual 236, 3) := by decide +kernel
theorem dX10_solveTwo_239 : decode cX10_solveTwo 239 = .ok (.invokevirtual 255, 3) := by decide +kernel
theorem dX10_solveTwo_242 : decode cX10_solveTwo 242 = .ok (.aload_n 0, 1) := by decide +kernel
theorem dX10_solveTwo_243 : decode cX10_solveTwo 243 = .ok (.aload_n 0, 1) := by decide +kernel
theorem dX10_solveTwo_244 : decode cX10_solveTwo 244 = .ok (.getfield 13, 3) := by decide +kernel
theorem dX10_solveTwo_247 : decode cX10_solveTwo 247 = .ok (.iload_n 2, 1) := by decide +kernel
theorem dX10_solveTwo_248 : decode cX10_solveTwo 248 = .ok (.iaload, 1) := by decide +kernel
theorem dX10_solveTwo_249 : decode cX10_solveTwo 249 = .ok (.iload_n 3, 1) := by decide +kernel
theorem dX10_solveTwo_250 : decode cX10_solveTwo 250 = .ok (.aload_n 0, 1) := by decide +kernel
theorem dX10_solveTwo_251 : decode cX10_solveTwo 251 = .ok (.iconst 0, 1) := by decide +kernel
theorem dX10_solveTwo_252 : decode cX10_solveTwo 252 = .ok (.invokevirtual 236, 3) := by decide +kernel
theorem dX10_solveTwo_255 : decode cX10_solveTwo 255 = .ok (.iload 7, 2) := by decide +kernel
theorem dX10_solveTwo_257 : decode cX10_solveTwo 257 = .ok (.iload 6, 2) := by decide +kernel
theorem dX10_solveTwo_259 : decode cX10_solveTwo 259 = .ok (.invokevirtual 267, 3) := by decide +kernel
theorem dX10_solveTwo_262 : decode cX10_solveTwo 262 = .ok (.aload_n 0, 1) := by decide +kernel
theorem dX10_solveTwo_263 : decode cX10_solveTwo 263 = .ok (.aload_n 0, 1) := by decide +kernel
theorem dX10_solveTwo_264 : decode cX10_solveTwo 264 = .ok (.getfield 16, 3) := by decide +kernel
theorem dX10_solveTwo_267 : decode cX10_solveTwo 267 = .ok (.iload_n 2, 1) := by decide +kernel
theorem dX10_solveTwo_268 : decode cX10_solveTwo 268 = .ok (.iaload, 1) := by decide +kernel
theorem dX10_solveTwo_269 : decode cX10_solveTwo 269 = .ok (.iload_n 3, 1) := by decide +kernel
theorem dX10_solveTwo_270 : decode cX10_solveTwo 270 = .ok (.aload_n 0, 1) := by decide +kernel
theorem dX10_solveTwo_271 : decode cX10_solveTwo 271 = .ok (.iconst 0, 1) := by decide +kernel
theorem dX10_solveTwo_272 : decode cX10_solveTwo 272 = .ok (.invokevirtual 236, 3) := by decide +kernel
theorem dX10_solveTwo_275 : decode cX10_solveTwo 275 = .ok (.iload 5, 2) := by decide +kernel
theorem dX10_solveTwo_277 : decode cX10_solveTwo 277 = .ok (.iload 7, 2) := by decide +kernel
theorem dX10_solveTwo_279 : decode cX10_solveTwo 279 = .ok (.invokevirtual 267, 3) := by decide +kernel
theorem dX10_solveTwo_282 : decode cX10_solveTwo 282 = .ok (.return_, 1) := by decide +kernel
theorem dX10_numberLetters_0 : decode cX10_numberLetters 0 = .ok (.sipush 640, 3) := by decide +kernel
theorem dX10_numberLetters_3 : decode cX10_numberLetters 3 = .ok (.iconst 1, 1) := by decide +kernel
theorem dX10_numberLetters_4 : decode cX10_numberLetters 4 = .ok (.aload_n 0, 1) := by decide +kernel
theorem dX10_numberLetters_5 : decode cX10_numberLetters 5 = .ok (.getfield 230, 3) := by decide +kernel
theorem dX10_numberLetters_8 : decode cX10_numberLetters 8 = .ok (.isub, 1) := by decide +kernel
theorem dX10_numberLetters_9 : decode cX10_numberLetters 9 = .ok (.imul, 1) := by decide +kernel
theorem dX10_numberLetters_10 : decode cX10_numberLetters 10 = .ok (.istore_n 2, 1) := by decide +kernel
theorem dX10_numberLetters_11 : decode cX10_numberLetters 11 = .ok (.iload_n 2, 1) := by decide +kernel
theorem dX10_numberLetters_12 : decode cX10_numberLetters 12 = .ok (.istore_n 3, 1) := by decide +kernel
theorem dX10_numberLetters_13 : decode cX10_numberLetters 13 = .ok (.iload_n 3, 1) := by decide +kernel
theorem dX10_numberLetters_14 : decode cX10_numberLetters 14 = .ok (.iload_n 2, 1) := by decide +kernel
theorem dX10_numberLetters_15 : decode cX10_numberLetters 15 = .ok (.aload_n 0, 1) := by decide +kernel
theorem dX10_numberLetters_16 : decode cX10_numberLetters 16 = .ok (.getfield 233, 3) := by decide +kernel
theorem dX10_numberLetters_19 : decode cX10_numberLetters 19 = .ok (.iadd, 1) := by decide +kernel
theorem dX10_numberLetters_20 : decode cX10_numberLetters 20 = .ok (.if_icmp .ge 16, 3) := by decide +kernel
theorem dX10_numberLetters_23 : decode cX10_numberLetters 23 = .ok (.aload_n 0, 1) := by decide +kernel
theorem dX10_numberLetters_24 : decode cX10_numberLetters 24 = .ok (.getfield 89, 3) := by decide +kernel
theorem dX10_numberLetters_27 : decode cX10_numberLetters 27 = .ok (.iload_n 3, 1) := by decide +kernel
theorem dX10_numberLetters_28 : decode cX10_numberLetters 28 = .ok (.iconst 0, 1) := by decide +kernel
theorem dX10_numberLetters_29 : decode cX10_numberLetters 29 = .ok (.bastore, 1) := by decide +kernel
theorem dX10_numberLetters_30 : decode cX10_numberLetters 30 = .ok (.iinc 3 1, 3) := by decide +kernel
theorem dX10_numberLetters_33 : decode cX10_numberLetters 33 = .ok (.goto (-20), 3) := by decide +kernel
theorem dX10_numberLetters_36 : decode cX10_numberLetters 36 = .ok (.iconst 0, 1) := by decide +kernel
theorem dX10_numberLetters_37 : decode cX10_numberLetters 37 = .ok (.istore_n 3, 1) := by decide +kernel
theorem dX10_numberLetters_38 : decode cX10_numberLetters 38 = .ok (.iconst 0, 1) := by decide +kernel
theorem dX10_numberLetters_39 : decode cX10_numberLetters 39 = .ok (.istore 4, 2) := by decide +kernel
theorem dX10_numberLetters_41 : decode cX10_numberLetters 41 = .ok (.aload_n 0, 1) := by decide +kernel
theorem dX10_numberLetters_42 : decode cX10_numberLetters 42 = .ok (.getfield 83, 3) := by decide +kernel
theorem dX10_numberLetters_45 : decode cX10_numberLetters 45 = .ok (.iload_n 3, 1) := by decide +kernel
theorem dX10_numberLetters_46 : decode cX10_numberLetters 46 = .ok (.iload_n 1, 1) := by decide +kernel
theorem dX10_numberLetters_47 : decode cX10_numberLetters 47 = .ok (.iastore, 1) := by decide +kernel
theorem dX10_numberLetters_48 : decode cX10_numberLetters 48 = .ok (.iinc 3 1, 3) := by decide +kernel
theorem dX10_numberLetters_51 : decode cX10_numberLetters 51 = .ok (.iload_n 3, 1) := by decide +kernel
theorem dX10_numberLetters_52 : decode cX10_numberLetters 52 = .ok (.ifCond .le 108, 3) := by decide +kernel
theorem dX10_numberLetters_55 : decode cX10_numberLetters 55 = .ok (.iinc 3 (-1), 3) := by decide +kernel
theorem dX10_numberLetters_58 : decode cX10_numberLetters 58 = .ok (.aload_n 0, 1) := by decide +kernel
theorem dX10_numberLetters_59 : decode cX10_numberLetters 59 = .ok (.aload_n 0, 1) := by decide +kernel
theorem dX10_numberLetters_60 : decode cX10_numberLetters 60 = .ok (.getfield 83, 3) := by decide +kernel
theorem dX10_numberLetters_63 : decode cX10_numberLetters 63 = .ok (.iload_n 3, 1) := by decide +kernel
theorem dX10_numberLetters_64 : decode cX10_numberLetters 64 = .ok (.iaload, 1) := by decide +kernel
theorem dX10_numberLetters_65 : decode cX10_numberLetters 65 = .ok (.invokevirtual 239, 3) := by decide +kernel
theorem dX10_numberLetters_68 : decode cX10_numberLetters 68 = .ok (.istore 5, 2) := by decide +kernel
theorem dX10_numberLetters_70 : decode cX10_numberLetters 70 = .ok (.aload_n 0, 1) := by decide +kernel
theorem dX10_numberLetters_71 : decode cX10_numberLetters 71 = .ok (.getfield 89, 3) := by decide +kernel
theorem dX10_numberLetters_74 : decode cX10_numberLetters 74 = .ok (.iload 5, 2) := by decide +kernel
theorem dX10_numberLetters_76 : decode cX10_numberLetters 76 = .ok (.baload, 1) := by decide +kernel
theorem dX10_numberLetters_77 : decode cX10_numberLetters 77 = .ok (.ifCond .ne 80, 3) := by decide +kernel
theorem dX10_numberLetters_80 : decode cX10_numberLetters 80 = .ok (.aload_n 0, 1) := by decide +kernel
theorem dX10_numberLetters_81 : decode cX10_numberLetters 81 = .ok (.getfield 89, 3) := by decide +kernel
theorem dX10_numberLetters_84 : decode cX10_numberLetters 84 = .ok (.iload 5, 2) := by decide +kernel
theorem dX10_numberLetters_86 : decode cX10_numberLetters 86 = .ok (.iconst 1, 1) := by decide +kernel
theorem dX10_numberLetters_87 : decode cX10_numberLetters 87 = .ok (.bastore, 1) := by decide +kernel
theorem dX10_numberLetters_88 : decode cX10_numberLetters 88 = .ok (.aload_n 0, 1) := by decide +kernel
theorem dX10_numberLetters_89 : decode cX10_numberLetters 89 = .ok (.getfield 67, 3) := by decide +kernel
theorem dX10_numberLetters_92 : decode cX10_numberLetters 92 = .ok (.iload 5, 2) := by decide +kernel
theorem dX10_numberLetters_94 : decode cX10_numberLetters 94 = .ok (.iaload, 1) := by decide +kernel
theorem dX10_numberLetters_95 : decode cX10_numberLetters 95 = .ok (.iconst 3, 1) := by decide +kernel
theorem dX10_numberLetters_96 : decode cX10_numberLetters 96 = .ok (.if_icmp .ne 15, 3) := by decide +kernel
theorem dX10_numberLetters_99 : decode cX10_numberLetters 99 = .ok (.aload_n 0, 1) := by decide +kernel
theorem dX10_numberLetters_100 : decode cX10_numberLetters 100 = .ok (.getfield 76, 3) := by decide +kernel
theorem dX10_numberLetters_103 : decode cX10_numberLetters 103 = .ok (.iload 5, 2) := by decide +kernel
theorem dX10_numberLetters_105 : decode cX10_numberLetters 105 = .ok (.iload 4, 2) := by decide +kernel
theorem dX10_numberLetters_107 : decode cX10_numberLetters 107 = .ok (.iastore, 1) := by decide +kernel
theorem dX10_numberLetters_108 : decode cX10_numberLetters 108 = .ok (.iinc 4 1, 3) := by decide +kernel
theorem dX10_numberLetters_111 : decode cX10_numberLetters 111 = .ok (.iconst 3, 1) := by decide +kernel
theorem dX10_numberLetters_112 : decode cX10_numberLetters 112 = .ok (.istore 6, 2) := by decide +kernel
theorem dX10_numberLetters_114 : decode cX10_numberLetters 114 = .ok (.iload 6, 2) := by decide +kernel
theorem dX10_numberLetters_116 : decode cX10_numberLetters 116 = .ok (.ifCond .lt 41, 3) := by decide +kernel
theorem dX10_numberLetters_119 : decode cX10_numberLetters 119 = .ok (.aload_n 0, 1) := by decide +kernel
theorem dX10_numberLetters_120 : decode cX10_numberLetters 120 = .ok (.getfield 67, 3) := by decide +kernel
theorem dX10_numberLetters_123 : decode cX10_numberLetters 123 = .ok (.iload 5, 2) := by decide +kernel
theorem dX10_numberLetters_125 : decode cX10_numberLetters 125 = .ok (.iaload, 1) := by decide +kernel
theorem dX10_numberLetters_126 : decode cX10_numberLetters 126 = .ok (.iconst 2, 1) := by decide +kernel
theorem dX10_numberLetters_127 : decode cX10_numberLetters 127 = .ok (.if_icmp .ne 30, 3) := by decide +kernel
theorem dX10_numberLetters_130 : decode cX10_numberLetters 130 = .ok (.aload_n 0, 1) := by decide +kernel
theorem dX10_numberLetters_131 : decode cX10_numberLetters 131 = .ok (.getfield 83, 3) := by decide +kernel
theorem dX10_numberLetters_134 : decode cX10_numberLetters 134 = .ok (.iload_n 3, 1) := by decide +kernel
theorem dX10_numberLetters_135 : decode cX10_numberLetters 135 = .ok (.aload_n 0, 1) := by decide +kernel
theorem dX10_numberLetters_136 : decode cX10_numberLetters 136 = .ok (.getfield 73, 3) := by decide +kernel
theorem dX10_numberLetters_139 : decode cX10_numberLetters 139 = .ok (.iconst 4, 1) := by decide +kernel
theorem dX10_numberLetters_140 : decode cX10_numberLetters 140 = .ok (.iload 5, 2) := by decide +kernel
theorem dX10_numberLetters_142 : decode cX10_numberLetters 142 = .ok (.imul, 1) := by decide +kernel
theorem dX10_numberLetters_143 : decode cX10_numberLetters 143 = .ok (.iload 6, 2) := by decide +kernel
theorem dX10_numberLetters_145 : decode cX10_numberLetters 145 = .ok (.iadd, 1) := by decide +kernel
theorem dX10_numberLetters_146 : decode cX10_numberLetters 146 = .ok (.iaload, 1) := by decide +kernel
theorem dX10_numberLetters_147 : decode cX10_numberLetters 147 = .ok (.iastore, 1) := by decide +kernel
theorem dX10_numberLetters_148 : decode cX10_numberLetters 148 = .ok (.iinc 3 1, 3) := by decide +kernel
theorem dX10_numberLetters_151 : decode cX10_numberLetters 151 = .ok (.iinc 6 (-1), 3) := by decide +kernel
theorem dX10_numberLetters_154 : decode cX10_numberLetters 154 = .ok (.goto (-40), 3) := by decide +kernel
theorem dX10_numberLetters_157 : decode cX10_numberLetters 157 = .ok (.goto (-106), 3) := by decide +kernel
theorem dX10_numberLetters_160 : decode cX10_numberLetters 160 = .ok (.return_, 1) := by decide +kernel
theorem dX10_told_0 : decode cX10_told 0 = .ok (.iload_n 0, 1) := by decide +kernel
theorem dX10_told_1 : decode cX10_told 1 = .ok (.iconst 3, 1) := by decide +kernel
theorem dX10_told_2 : decode cX10_told 2 = .ok (.if_icmp .ne 9, 3) := by decide +kernel
theorem dX10_told_5 : decode cX10_told 5 = .ok (.iconst 3, 1) := by decide +kernel
theorem dX10_told_6 : decode cX10_told 6 = .ok (.iload_n 1, 1) := by decide +kernel
theorem dX10_told_7 : decode cX10_told 7 = .ok (.iadd, 1) := by decide +kernel
theorem dX10_told_8 : decode cX10_told 8 = .ok (.goto 4, 3) := by decide +kernel
theorem dX10_told_11 : decode cX10_told 11 = .ok (.iload_n 0, 1) := by decide +kernel
theorem dX10_told_12 : decode cX10_told 12 = .ok (.ireturn, 1) := by decide +kernel
theorem dX10_type_0 : decode cX10_type 0 = .ok (.aload_n 0, 1) := by decide +kernel
theorem dX10_type_1 : decode cX10_type 1 = .ok (.iconst 0, 1) := by decide +kernel
theorem dX10_type_2 : decode cX10_type 2 = .ok (.putfield 117, 3) := by decide +kernel
theorem dX10_type_5 : decode cX10_type 5 = .ok (.aload_n 0, 1) := by decide +kernel
theorem dX10_type_6 : decode cX10_type 6 = .ok (.iload_n 1, 1) := by decide +kernel
theorem dX10_type_7 : decode cX10_type 7 = .ok (.invokevirtual 127, 3) := by decide +kernel
theorem dX10_type_10 : decode cX10_type 10 = .ok (.ifCond .eq 12, 3) := by decide +kernel
theorem dX10_type_13 : decode cX10_type 13 = .ok (.aload_n 0, 1) := by decide +kernel
theorem dX10_type_14 : decode cX10_type 14 = .ok (.getfield 28, 3) := by decide +kernel
theorem dX10_type_17 : decode cX10_type 17 = .ok (.iload_n 1, 1) := by decide +kernel
theorem dX10_type_18 : decode cX10_type 18 = .ok (.iaload, 1) := by decide +kernel
theorem dX10_type_19 : decode cX10_type 19 = .ok (.ifCond .le 9, 3) := by decide +kernel
theorem dX10_type_22 : decode cX10_type 22 = .ok (.aload_n 0, 1) := by decide +kernel
theorem dX10_type_23 : decode cX10_type 23 = .ok (.iconst 1, 1) := by decide +kernel
theorem dX10_type_24 : decode cX10_type 24 = .ok (.invokevirtual 138, 3) := by decide +kernel
theorem dX10_type_27 : decode cX10_type 27 = .ok (.ireturn, 1) := by decide +kernel
theorem dX10_type_28 : decode cX10_type 28 = .ok (.aload_n 0, 1) := by decide +kernel
theorem dX10_type_29 : decode cX10_type 29 = .ok (.iconst 0, 1) := by decide +kernel
theorem dX10_type_30 : decode cX10_type 30 = .ok (.putfield 233, 3) := by decide +kernel
theorem dX10_type_33 : decode cX10_type 33 = .ok (.aload_n 0, 1) := by decide +kernel
theorem dX10_type_34 : decode cX10_type 34 = .ok (.iconst 0, 1) := by decide +kernel
theorem dX10_type_35 : decode cX10_type 35 = .ok (.putfield 249, 3) := by decide +kernel
theorem dX10_type_38 : decode cX10_type 38 = .ok (.aload_n 0, 1) := by decide +kernel
theorem dX10_type_39 : decode cX10_type 39 = .ok (.iconst 0, 1) := by decide +kernel
theorem dX10_type_40 : decode cX10_type 40 = .ok (.putfield 252, 3) := by decide +kernel
theorem dX10_type_43 : decode cX10_type 43 = .ok (.aload_n 0, 1) := by decide +kernel
theorem dX10_type_44 : decode cX10_type 44 = .ok (.iconst 0, 1) := by decide +kernel
theorem dX10_type_45 : decode cX10_type 45 = .ok (.putfield 242, 3) := by decide +kernel
theorem dX10_type_48 : decode cX10_type 48 = .ok (.aload_n 0, 1) := by decide +kernel
theorem dX10_type_49 : decode cX10_type 49 = .ok (.invokevirtual 258, 3) := by decide +kernel
theorem dX10_type_52 : decode cX10_type 52 = .ok (.istore_n 2, 1) := by decide +kernel
theorem dX10_type_53 : decode cX10_type 53 = .ok (.aload_n 0, 1) := by decide +kernel
theorem dX10_type_54 : decode cX10_type 54 = .ok (.invokevirtual 258, 3) := by decide +kernel
theorem dX10_type_57 : decode cX10_type 57 = .ok (.istore_n 3, 1) := by decide +kernel
theorem dX10_type_58 : decode cX10_type 58 = .ok (.aload_n 0, 1) := by decide +kernel
theorem dX10_type_59 : decode cX10_type 59 = .ok (.iload_n 1, 1) := by decide +kernel
theorem dX10_type_60 : decode cX10_type 60 = .ok (.iconst 0, 1) := by decide +kernel
theorem dX10_type_61 : decode cX10_type 61 = .ok (.iload_n 2, 1) := by decide +kernel
theorem dX10_type_62 : decode cX10_type 62 = .ok (.iload_n 2, 1) := by decide +kernel
theorem dX10_type_63 : decode cX10_type 63 = .ok (.iload_n 3, 1) := by decide +kernel
theorem dX10_type_64 : decode cX10_type 64 = .ok (.invokevirtual 267, 3) := by decide +kernel
theorem dX10_type_67 : decode cX10_type 67 = .ok (.aload_n 0, 1) := by decide +kernel
theorem dX10_type_68 : decode cX10_type 68 = .ok (.getfield 249, 3) := by decide +kernel
theorem dX10_type_71 : decode cX10_type 71 = .ok (.ifCond .le 17, 3) := by decide +kernel
theorem dX10_type_74 : decode cX10_type 74 = .ok (.aload_n 0, 1) := by decide +kernel
theorem dX10_type_75 : decode cX10_type 75 = .ok (.getfield 242, 3) := by decide +kernel
theorem dX10_type_78 : decode cX10_type 78 = .ok (.ifCond .ne 10, 3) := by decide +kernel
theorem dX10_type_81 : decode cX10_type 81 = .ok (.aload_n 0, 1) := by decide +kernel
theorem dX10_type_82 : decode cX10_type 82 = .ok (.invokevirtual 281, 3) := by decide +kernel
theorem dX10_type_85 : decode cX10_type 85 = .ok (.goto (-18), 3) := by decide +kernel
theorem dX10_type_88 : decode cX10_type 88 = .ok (.aload_n 0, 1) := by decide +kernel
theorem dX10_type_89 : decode cX10_type 89 = .ok (.aload_n 0, 1) := by decide +kernel
theorem dX10_type_90 : decode cX10_type 90 = .ok (.getfield 242, 3) := by decide +kernel
theorem dX10_type_93 : decode cX10_type 93 = .ok (.ifCond .ne 10, 3) := by decide +kernel
theorem dX10_type_96 : decode cX10_type 96 = .ok (.aload_n 0, 1) := by decide +kernel
theorem dX10_type_97 : decode cX10_type 97 = .ok (.invokevirtual 284, 3) := by decide +kernel
theorem dX10_type_100 : decode cX10_type 100 = .ok (.ifCond .eq 7, 3) := by decide +kernel
theorem dX10_type_103 : decode cX10_type 103 = .ok (.iconst 1, 1) := by decide +kernel
theorem dX10_type_104 : decode cX10_type 104 = .ok (.goto 4, 3) := by decide +kernel
theorem dX10_type_107 : decode cX10_type 107 = .ok (.iconst 0, 1) := by decide +kernel
theorem dX10_type_108 : decode cX10_type 108 = .ok (.putfield 242, 3) := by decide +kernel
theorem dX10_type_111 : decode cX10_type 111 = .ok (.aload_n 0, 1) := by decide +kernel
theorem dX10_type_112 : decode cX10_type 112 = .ok (.getfield 242, 3) := by decide +kernel
theorem dX10_type_115 : decode cX10_type 115 = .ok (.ifCond .eq 19, 3) := by decide +kernel
theorem dX10_type_118 : decode cX10_type 118 = .ok (.aload_n 0, 1) := by decide +kernel
theorem dX10_type_119 : decode cX10_type 119 = .ok (.dup, 1) := by decide +kernel
theorem dX10_type_120 : decode cX10_type 120 = .ok (.getfield 288, 3) := by decide +kernel
theorem dX10_type_123 : decode cX10_type 123 = .ok (.iconst 1, 1) := by decide +kernel
theorem dX10_type_124 : decode cX10_type 124 = .ok (.iadd, 1) := by decide +kernel
theorem dX10_type_125 : decode cX10_type 125 = .ok (.putfield 288, 3) := by decide +kernel
theorem dX10_type_128 : decode cX10_type 128 = .ok (.aload_n 0, 1) := by decide +kernel
theorem dX10_type_129 : decode cX10_type 129 = .ok (.iconst 2, 1) := by decide +kernel
theorem dX10_type_130 : decode cX10_type 130 = .ok (.invokevirtual 138, 3) := by decide +kernel
theorem dX10_type_133 : decode cX10_type 133 = .ok (.ireturn, 1) := by decide +kernel
theorem dX10_type_134 : decode cX10_type 134 = .ok (.aload_n 0, 1) := by decide +kernel
theorem dX10_type_135 : decode cX10_type 135 = .ok (.iload_n 3, 1) := by decide +kernel
theorem dX10_type_136 : decode cX10_type 136 = .ok (.invokevirtual 291, 3) := by decide +kernel
theorem dX10_type_139 : decode cX10_type 139 = .ok (.aload_n 0, 1) := by decide +kernel
theorem dX10_type_140 : decode cX10_type 140 = .ok (.iconst 1, 1) := by decide +kernel
theorem dX10_type_141 : decode cX10_type 141 = .ok (.aload_n 0, 1) := by decide +kernel
theorem dX10_type_142 : decode cX10_type 142 = .ok (.getfield 230, 3) := by decide +kernel
theorem dX10_type_145 : decode cX10_type 145 = .ok (.isub, 1) := by decide +kernel
theorem dX10_type_146 : decode cX10_type 146 = .ok (.putfield 230, 3) := by decide +kernel
theorem dX10_type_149 : decode cX10_type 149 = .ok (.aload_n 0, 1) := by decide +kernel
theorem dX10_type_150 : decode cX10_type 150 = .ok (.aload_n 0, 1) := by decide +kernel
theorem dX10_type_151 : decode cX10_type 151 = .ok (.iload_n 3, 1) := by decide +kernel
theorem dX10_type_152 : decode cX10_type 152 = .ok (.invokevirtual 239, 3) := by decide +kernel
theorem dX10_type_155 : decode cX10_type 155 = .ok (.putfield 79, 3) := by decide +kernel
theorem dX10_type_158 : decode cX10_type 158 = .ok (.aload_n 0, 1) := by decide +kernel
theorem dX10_type_159 : decode cX10_type 159 = .ok (.dup, 1) := by decide +kernel
theorem dX10_type_160 : decode cX10_type 160 = .ok (.getfield 295, 3) := by decide +kernel
theorem dX10_type_163 : decode cX10_type 163 = .ok (.iconst 1, 1) := by decide +kernel
theorem dX10_type_164 : decode cX10_type 164 = .ok (.iadd, 1) := by decide +kernel
theorem dX10_type_165 : decode cX10_type 165 = .ok (.putfield 295, 3) := by decide +kernel
theorem dX10_type_168 : decode cX10_type 168 = .ok (.aload_n 0, 1) := by decide +kernel
theorem dX10_type_169 : decode cX10_type 169 = .ok (.getfield 67, 3) := by decide +kernel
theorem dX10_type_172 : decode cX10_type 172 = .ok (.aload_n 0, 1) := by decide +kernel
theorem dX10_type_173 : decode cX10_type 173 = .ok (.getfield 79, 3) := by decide +kernel
theorem dX10_type_176 : decode cX10_type 176 = .ok (.iaload, 1) := by decide +kernel
theorem dX10_type_177 : decode cX10_type 177 = .ok (.ireturn, 1) := by decide +kernel
theorem dX10_part_0 : decode cX10_part 0 = .ok (.aload_n 0, 1) := by decide +kernel
theorem dX10_part_1 : decode cX10_part 1 = .ok (.iconst 0, 1) := by decide +kernel
theorem dX10_part_2 : decode cX10_part 2 = .ok (.putfield 117, 3) := by decide +kernel
theorem dX10_part_5 : decode cX10_part 5 = .ok (.aload_n 0, 1) := by decide +kernel
theorem dX10_part_6 : decode cX10_part 6 = .ok (.getfield 79, 3) := by decide +kernel
theorem dX10_part_9 : decode cX10_part 9 = .ok (.ifCond .lt 7, 3) := by decide +kernel
theorem dX10_part_12 : decode cX10_part 12 = .ok (.iload_n 1, 1) := by decide +kernel
theorem dX10_part_13 : decode cX10_part 13 = .ok (.ifCond .ge 5, 3) := by decide +kernel
theorem dX10_part_16 : decode cX10_part 16 = .ok (.iconst (-1), 1) := by decide +kernel
theorem dX10_part_17 : decode cX10_part 17 = .ok (.ireturn, 1) := by decide +kernel
theorem dX10_part_18 : decode cX10_part 18 = .ok (.aload_n 0, 1) := by decide +kernel
theorem dX10_part_19 : decode cX10_part 19 = .ok (.getfield 79, 3) := by decide +kernel
theorem dX10_part_22 : decode cX10_part 22 = .ok (.istore_n 2, 1) := by decide +kernel
theorem dX10_part_23 : decode cX10_part 23 = .ok (.iload_n 1, 1) := by decide +kernel
theorem dX10_part_24 : decode cX10_part 24 = .ok (.istore_n 3, 1) := by decide +kernel
theorem dX10_part_25 : decode cX10_part 25 = .ok (.iload_n 3, 1) := by decide +kernel
theorem dX10_part_26 : decode cX10_part 26 = .ok (.ifCond .le 57, 3) := by decide +kernel
theorem dX10_part_29 : decode cX10_part 29 = .ok (.iload_n 3, 1) := by decide +kernel
theorem dX10_part_30 : decode cX10_part 30 = .ok (.bipush 10, 2) := by decide +kernel
theorem dX10_part_32 : decode cX10_part 32 = .ok (.irem, 1) := by decide +kernel
theorem dX10_part_33 : decode cX10_part 33 = .ok (.istore 4, 2) := by decide +kernel
theorem dX10_part_35 : decode cX10_part 35 = .ok (.iload 4, 2) := by decide +kernel
theorem dX10_part_37 : decode cX10_part 37 = .ok (.iconst 1, 1) := by decide +kernel
theorem dX10_part_38 : decode cX10_part 38 = .ok (.iconst 4, 1) := by decide +kernel
theorem dX10_part_39 : decode cX10_part 39 = .ok (.invokestatic 123, 3) := by decide +kernel
theorem dX10_part_42 : decode cX10_part 42 = .ok (.ifCond .eq 13, 3) := by decide +kernel
theorem dX10_part_45 : decode cX10_part 45 = .ok (.aload_n 0, 1) := by decide +kernel
theorem dX10_part_46 : decode cX10_part 46 = .ok (.getfield 67, 3) := by decide +kernel
theorem dX10_part_49 : decode cX10_part 49 = .ok (.iload_n 2, 1) := by decide +kernel
theorem dX10_part_50 : decode cX10_part 50 = .ok (.iaload, 1) := by decide +kernel
theorem dX10_part_51 : decode cX10_part 51 = .ok (.iconst 2, 1) := by decide +kernel
theorem dX10_part_52 : decode cX10_part 52 = .ok (.if_icmp .eq 5, 3) := by decide +kernel
theorem dX10_part_55 : decode cX10_part 55 = .ok (.iconst (-1), 1) := by decide +kernel
theorem dX10_part_56 : decode cX10_part 56 = .ok (.ireturn, 1) := by decide +kernel
theorem dX10_part_57 : decode cX10_part 57 = .ok (.aload_n 0, 1) := by decide +kernel
theorem dX10_part_58 : decode cX10_part 58 = .ok (.aload_n 0, 1) := by decide +kernel
theorem dX10_part_59 : decode cX10_part 59 = .ok (.getfield 73, 3) := by decide +kernel
theorem dX10_part_62 : decode cX10_part 62 = .ok (.iconst 4, 1) := by decide +kernel
theorem dX10_part_63 : decode cX10_part 63 = .ok (.iload_n 2, 1) := by decide +kernel
theorem dX10_part_64 : decode cX10_part 64 = .ok (.imul, 1) := by decide +kernel
theorem dX10_part_65 : decode cX10_part 65 = .ok (.iload 4, 2) := by decide +kernel
theorem dX10_part_67 : decode cX10_part 67 = .ok (.iadd, 1) := by decide +kernel
theorem dX10_part_68 : decode cX10_part 68 = .ok (.iconst 1, 1) := by decide +kernel
theorem dX10_part_69 : decode cX10_part 69 = .ok (.isub, 1) := by decide +kernel
theorem dX10_part_70 : decode cX10_part 70 = .ok (.iaload, 1) := by decide +kernel
theorem dX10_part_71 : decode cX10_part 71 = .ok (.invokevirtual 239, 3) := by decide +kernel
theorem dX10_part_74 : decode cX10_part 74 = .ok (.istore_n 2, 1) := by decide +kernel
theorem dX10_part_75 : decode cX10_part 75 = .ok (.iload_n 3, 1) := by decide +kernel
theorem dX10_part_76 : decode cX10_part 76 = .ok (.bipush 10, 2) := by decide +kernel
theorem dX10_part_78 : decode cX10_part 78 = .ok (.idiv, 1) := by decide +kernel
theorem dX10_part_79 : decode cX10_part 79 = .ok (.istore_n 3, 1) := by decide +kernel
theorem dX10_part_80 : decode cX10_part 80 = .ok (.goto (-55), 3) := by decide +kernel
theorem dX10_part_83 : decode cX10_part 83 = .ok (.aload_n 0, 1) := by decide +kernel
theorem dX10_part_84 : decode cX10_part 84 = .ok (.getfield 67, 3) := by decide +kernel
theorem dX10_part_87 : decode cX10_part 87 = .ok (.iload_n 2, 1) := by decide +kernel
theorem dX10_part_88 : decode cX10_part 88 = .ok (.iaload, 1) := by decide +kernel
theorem dX10_part_89 : decode cX10_part 89 = .ok (.aload_n 0, 1) := by decide +kernel
theorem dX10_part_90 : decode cX10_part 90 = .ok (.getfield 76, 3) := by decide +kernel
theorem dX10_part_93 : decode cX10_part 93 = .ok (.iload_n 2, 1) := by decide +kernel
theorem dX10_part_94 : decode cX10_part 94 = .ok (.iaload, 1) := by decide +kernel
theorem dX10_part_95 : decode cX10_part 95 = .ok (.invokestatic 298, 3) := by decide +kernel
theorem dX10_part_98 : decode cX10_part 98 = .ok (.ireturn, 1) := by decide +kernel
theorem dX10_count_0 : decode cX10_count 0 = .ok (.aload_n 0, 1) := by decide +kernel
theorem dX10_count_1 : decode cX10_count 1 = .ok (.iconst 0, 1) := by decide +kernel
theorem dX10_count_2 : decode cX10_count 2 = .ok (.putfield 117, 3) := by decide +kernel
theorem dX10_count_5 : decode cX10_count 5 = .ok (.iload_n 1, 1) := by decide +kernel
theorem dX10_count_6 : decode cX10_count 6 = .ok (.tableswitch 68 0 5 #[38, 43, 48, 53, 58, 63], 38) := by decide +kernel
theorem dX10_count_44 : decode cX10_count 44 = .ok (.aload_n 0, 1) := by decide +kernel
theorem dX10_count_45 : decode cX10_count 45 = .ok (.getfield 120, 3) := by decide +kernel
theorem dX10_count_48 : decode cX10_count 48 = .ok (.ireturn, 1) := by decide +kernel
theorem dX10_count_49 : decode cX10_count 49 = .ok (.aload_n 0, 1) := by decide +kernel
theorem dX10_count_50 : decode cX10_count 50 = .ok (.getfield 224, 3) := by decide +kernel
theorem dX10_count_53 : decode cX10_count 53 = .ok (.ireturn, 1) := by decide +kernel
theorem dX10_count_54 : decode cX10_count 54 = .ok (.aload_n 0, 1) := by decide +kernel
theorem dX10_count_55 : decode cX10_count 55 = .ok (.getfield 209, 3) := by decide +kernel
theorem dX10_count_58 : decode cX10_count 58 = .ok (.ireturn, 1) := by decide +kernel
theorem dX10_count_59 : decode cX10_count 59 = .ok (.aload_n 0, 1) := by decide +kernel
theorem dX10_count_60 : decode cX10_count 60 = .ok (.getfield 212, 3) := by decide +kernel
theorem dX10_count_63 : decode cX10_count 63 = .ok (.ireturn, 1) := by decide +kernel
theorem dX10_count_64 : decode cX10_count 64 = .ok (.aload_n 0, 1) := by decide +kernel
theorem dX10_count_65 : decode cX10_count 65 = .ok (.getfield 295, 3) := by decide +kernel
theorem dX10_count_68 : decode cX10_count 68 = .ok (.ireturn, 1) := by decide +kernel
theorem dX10_count_69 : decode cX10_count 69 = .ok (.aload_n 0, 1) := by decide +kernel
theorem dX10_count_70 : decode cX10_count 70 = .ok (.getfield 288, 3) := by decide +kernel
theorem dX10_count_73 : decode cX10_count 73 = .ok (.ireturn, 1) := by decide +kernel
theorem dX10_count_74 : decode cX10_count 74 = .ok (.iconst (-1), 1) := by decide +kernel
theorem dX10_count_75 : decode cX10_count 75 = .ok (.ireturn, 1) := by decide +kernel
theorem dX10_mean_0 : decode cX10_mean 0 = .ok (.aload_n 0, 1) := by decide +kernel
theorem dX10_mean_1 : decode cX10_mean 1 = .ok (.iconst 0, 1) := by decide +kernel
theorem dX10_mean_2 : decode cX10_mean 2 = .ok (.putfield 117, 3) := by decide +kernel
theorem dX10_mean_5 : decode cX10_mean 5 = .ok (.aload_n 0, 1) := by decide +kernel
theorem dX10_mean_6 : decode cX10_mean 6 = .ok (.getfield 224, 3) := by decide +kernel
theorem dX10_mean_9 : decode cX10_mean 9 = .ok (.ifCond .ne 5, 3) := by decide +kernel
theorem dX10_mean_12 : decode cX10_mean 12 = .ok (.fconst 0, 1) := by decide +kernel
theorem dX10_mean_13 : decode cX10_mean 13 = .ok (.freturn, 1) := by decide +kernel
theorem dX10_mean_14 : decode cX10_mean 14 = .ok (.aload_n 0, 1) := by decide +kernel
theorem dX10_mean_15 : decode cX10_mean 15 = .ok (.getfield 227, 3) := by decide +kernel
theorem dX10_mean_18 : decode cX10_mean 18 = .ok (.i2f, 1) := by decide +kernel
theorem dX10_mean_19 : decode cX10_mean 19 = .ok (.fstore_n 1, 1) := by decide +kernel
theorem dX10_mean_20 : decode cX10_mean 20 = .ok (.aload_n 0, 1) := by decide +kernel
theorem dX10_mean_21 : decode cX10_mean 21 = .ok (.getfield 224, 3) := by decide +kernel
theorem dX10_mean_24 : decode cX10_mean 24 = .ok (.i2f, 1) := by decide +kernel
theorem dX10_mean_25 : decode cX10_mean 25 = .ok (.fstore_n 2, 1) := by decide +kernel
theorem dX10_mean_26 : decode cX10_mean 26 = .ok (.fload_n 1, 1) := by decide +kernel
theorem dX10_mean_27 : decode cX10_mean 27 = .ok (.fload_n 2, 1) := by decide +kernel
theorem dX10_mean_28 : decode cX10_mean 28 = .ok (.fdiv, 1) := by decide +kernel
theorem dX10_mean_29 : decode cX10_mean 29 = .ok (.freturn, 1) := by decide +kernel
end
section
set_option maxRecDepth 20000 in
theorem ggX10_isTerm_X10_in : GoodIn wsX10_isTerm wsX10_in := goodIn_r _ [5] (by decide +kernel) (by decide +kernel)
set_option maxRecDepth 20000 in
theorem gX10_isTerm_X10_in : GoodIn wsX10_isTerm (va_wsS RX10 123 yX10_in wsX10_in) := goodIn_app (goodIn_of _ (by decide +kernel)) ggX10_isTerm_X10_in
set_option maxRecDepth 20000 in
theorem ggX10_hasB_X10_in : GoodIn wsX10_hasB wsX10_in := goodIn_r _ [4] (by decide +kernel) (by decide +kernel)
set_option maxRecDepth 20000 in
theorem gX10_hasB_X10_in : GoodIn wsX10_hasB (va_wsS RX10 123 yX10_in wsX10_in) := goodIn_app (goodIn_of _ (by decide +kernel)) ggX10_hasB_X10_in
set_option maxRecDepth 20000 in
theorem ggX10_hasA_X10_in : GoodIn wsX10_hasA wsX10_in := goodIn_r _ [4] (by decide +kernel) (by decide +kernel)
set_option maxRecDepth 20000 in
theorem gX10_hasA_X10_in : GoodIn wsX10_hasA (va_wsS RX10 123 yX10_in wsX10_in) := goodIn_app (goodIn_of _ (by decide +kernel)) ggX10_hasA_X10_in
set_option maxRecDepth 20000 in
theorem ggX10_fits_X10_in : GoodIn wsX10_fits wsX10_in := goodIn_r _ [4] (by decide +kernel) (by decide +kernel)
set_option maxRecDepth 20000 in
theorem gX10_fits_X10_in : GoodIn wsX10_fits (va_wsS RX10 123 yX10_in wsX10_in) := goodIn_app (goodIn_of _ (by decide +kernel)) ggX10_fits_X10_in
set_option maxRecDepth 20000 in
theorem ggX10_fits_X10_isTerm : GoodIn wsX10_fits wsX10_isTerm := goodIn_r _ [8, 9, 1, 2, 3, 4, 13, 14, 15, 16, 17, 18, 19, 20, 21, 22, 23, 24, 25, 26, 27, 28, 29, 30, 31, 32, 33, 34, 35, 36, 37, 38, 39, 40, 41, 42, 43, 44, 45, 46, 47, 48, 49, 50, 51, 52, 53, 54, 55, 56, 57, 58, 59, 60, 61, 62, 63, 64, 65, 66, 67, 68, 69, 70, 71, 72] (by decide +kernel) (by decide +kernel)
set_option maxRecDepth 20000 in
theorem gX10_fits_X10_isTerm : GoodIn wsX10_fits (wsV RX10 127 RX10 yX10_isTerm wsX10_isTerm) := goodIn_app (goodIn_of _ (by decide +kernel)) ggX10_fits_X10_isTerm
set_option maxRecDepth 20000 in
theorem ggX10_fits_X10_hasB : GoodIn wsX10_fits wsX10_hasB := goodIn_r _ [12, 1, 2, 3, 4] (by decide +kernel) (by decide +kernel)
set_option maxRecDepth 20000 in
theorem gX10_fits_X10_hasB : GoodIn wsX10_fits (va_wsS RX10 131 yX10_hasB wsX10_hasB) := goodIn_app (goodIn_of _ (by decide +kernel)) ggX10_fits_X10_hasB
set_option maxRecDepth 20000 in
theorem ggX10_make_X10_in : GoodIn wsX10_make wsX10_in := goodIn_r _ [13] (by decide +kernel) (by decide +kernel)
set_option maxRecDepth 20000 in
theorem gX10_make_X10_in : GoodIn wsX10_make (va_wsS RX10 123 yX10_in wsX10_in) := goodIn_app (goodIn_of _ (by decide +kernel)) ggX10_make_X10_in
set_option maxRecDepth 20000 in
theorem ggX10_make_X10_fits : GoodIn wsX10_make wsX10_fits := goodIn_r _ [17, 10, 11, 12, 13, 18, 19, 20, 21, 4, 22, 23, 24, 39, 40, 41, 42, 43, 44, 45, 46, 47, 48, 49, 50, 51, 52, 53, 54, 55, 56, 57, 58, 59, 60, 61, 62, 63, 64, 65, 66, 67, 68, 69, 70, 71, 72, 73, 74, 75, 76, 77, 78, 79, 80, 81, 82, 83, 84, 85, 86, 87, 88, 89, 90, 91, 92, 93, 94, 95, 96, 97, 98] (by decide +kernel) (by decide +kernel)
set_option maxRecDepth 20000 in
theorem gX10_make_X10_fits : GoodIn wsX10_make (wsV RX10 134 RX10 yX10_fits wsX10_fits) := goodIn_app (goodIn_of _ (by decide +kernel)) ggX10_make_X10_fits
set_option maxRecDepth 20000 in
theorem ggX10_make_X10_fail : GoodIn wsX10_make wsX10_fail := goodIn_r _ [28, 1, 39, 40, 41, 42, 43, 44, 45, 46, 47, 48, 49, 50, 51, 52, 53, 54, 55, 56, 57, 58, 59, 60, 61, 62, 63, 64, 65, 66, 67, 68, 69, 70, 71, 72, 73, 74, 75, 76, 77, 78, 79, 80, 81, 82, 83, 84, 85, 86, 87, 88, 89, 90, 91, 92, 93, 94, 95, 96, 97, 98] (by decide +kernel) (by decide +kernel)
set_option maxRecDepth 20000 in
theorem gX10_make_X10_fail : GoodIn wsX10_make (wsV RX10 138 RX10 yX10_fail wsX10_fail) := goodIn_app (goodIn_of _ (by decide +kernel)) ggX10_make_X10_fail
set_option maxRecDepth 20000 in
theorem ggX10_make_X10_hasA : GoodIn wsX10_make wsX10_hasA := goodIn_r _ [31, 10, 11, 12, 13] (by decide +kernel) (by decide +kernel)
set_option maxRecDepth 20000 in
theorem gX10_make_X10_hasA : GoodIn wsX10_make (va_wsS RX10 142 yX10_hasA wsX10_hasA) := goodIn_app (goodIn_of _ (by decide +kernel)) ggX10_make_X10_hasA
set_option maxRecDepth 20000 in
theorem ggX10_make_X10_hasB : GoodIn wsX10_make wsX10_hasB := goodIn_r _ [24, 10, 11, 12, 13] (by decide +kernel) (by decide +kernel)
set_option maxRecDepth 20000 in
theorem gX10_make_X10_hasB : GoodIn wsX10_make (va_wsS RX10 131 yX10_hasB wsX10_hasB) := goodIn_app (goodIn_of _ (by decide +kernel)) ggX10_make_X10_hasB
set_option maxRecDepth 20000 in
theorem ggX10_make_X10_greater : GoodIn wsX10_make wsX10_greater := goodIn_r _ [34] (by decide +kernel) (by decide +kernel)
set_option maxRecDepth 20000 in
theorem gX10_make_X10_greater : GoodIn wsX10_make (va_wsS RX10 145 yX10_greater wsX10_greater) := goodIn_app (goodIn_of _ (by decide +kernel)) ggX10_make_X10_greater
set_option maxRecDepth 20000 in
theorem ggX10_make_X10_needs : GoodIn wsX10_make wsX10_needs := goodIn_r _ [38, 9, 32, 33, 12, 34, 39, 40, 41, 42, 43, 44, 45, 46, 47, 48, 49, 50, 51, 52, 53, 54, 55, 56, 57, 58, 59, 60, 61, 62, 63, 64, 65, 66, 67, 68, 69, 70, 71, 72, 73, 74, 75, 76, 77, 78, 79, 80, 81, 82, 83, 84, 85, 86, 87, 88, 89, 90, 91, 92, 93, 94, 95, 96, 97, 98] (by decide +kernel) (by decide +kernel)
set_option maxRecDepth 20000 in
theorem gX10_make_X10_needs : GoodIn wsX10_make (wsV RX10 149 RX10 yX10_needs wsX10_needs) := goodIn_app (goodIn_of _ (by decide +kernel)) ggX10_make_X10_needs
set_option maxRecDepth 20000 in
theorem ggX10_needs_X10_greater : GoodIn wsX10_needs wsX10_greater := goodIn_r _ [5] (by decide +kernel) (by decide +kernel)
set_option maxRecDepth 20000 in
theorem gX10_needs_X10_greater : GoodIn wsX10_needs (va_wsS RX10 145 yX10_greater wsX10_greater) := goodIn_app (goodIn_of _ (by decide +kernel)) ggX10_needs_X10_greater
set_option maxRecDepth 20000 in
theorem ggX10_open_X10_isTerm : GoodIn wsX10_open wsX10_isTerm := goodIn_r _ [7, 8, 9, 10, 6, 11, 12, 13, 14, 15, 16, 17, 18, 19, 20, 21, 22, 23, 24, 25, 26, 27, 28, 29, 30, 31, 32, 33, 34, 35, 36, 37, 38, 39, 40, 41, 42, 43, 44, 45, 46, 47, 48, 49, 50, 51, 52, 53, 54, 55, 56, 57, 58, 59, 60, 61, 62, 63, 64, 65, 66, 67, 68, 69, 70, 71] (by decide +kernel) (by decide +kernel)
set_option maxRecDepth 20000 in
theorem gX10_open_X10_isTerm : GoodIn wsX10_open (wsV RX10 127 RX10 yX10_isTerm wsX10_isTerm) := goodIn_app (goodIn_of _ (by decide +kernel)) ggX10_open_X10_isTerm
set_option maxRecDepth 20000 in
theorem ggX10_begin_X10_give : GoodIn wsX10_begin wsX10_give := goodIn_r _ [14, 15, 16, 40, 41, 42, 43, 44, 45, 46, 47, 48, 49, 50, 51, 52, 53, 54, 55, 56, 57, 58, 59, 60, 61, 62, 63, 64, 65, 66, 67, 68, 69, 70, 71, 72, 73, 74, 75, 76, 77, 78, 79, 80, 81, 82, 83, 84, 85, 86, 87, 88, 89, 90, 91, 92, 93, 94, 95, 96, 97, 98, 99] (by decide +kernel) (by decide +kernel)
set_option maxRecDepth 20000 in
theorem gX10_begin_X10_give : GoodIn wsX10_begin (wsV RX10 174 RX10 yX10_give wsX10_give) := goodIn_app (goodIn_of _ (by decide +kernel)) ggX10_begin_X10_give
set_option maxRecDepth 20000 in
theorem ggX10_begin_X10_closure : GoodIn wsX10_begin wsX10_closure := goodIn_r _ [20, 21, 22, 23, 40, 41, 42, 43, 44, 45, 46, 47, 48, 49, 50, 51, 52, 53, 54, 55, 56, 57, 58, 59, 60, 61, 62, 63, 64, 65, 66, 67, 68, 69, 70, 71, 72, 73, 74, 75, 76, 77, 78, 79, 80, 81, 82, 83, 84, 85, 86, 87, 88, 89, 90, 91, 92, 93, 94, 95, 96, 97, 98, 99] (by decide +kernel) (by decide +kernel)
set_option maxRecDepth 20000 in
theorem gX10_begin_X10_closure : GoodIn wsX10_begin (wsV RX10 178 RX10 yX10_closure wsX10_closure) := goodIn_app (goodIn_of _ (by decide +kernel)) ggX10_begin_X10_closure
set_option maxRecDepth 20000 in
theorem ggX10_begin_X10_bind : GoodIn wsX10_begin wsX10_bind := goodIn_r _ [27, 28, 5, 6, 4, 40, 41, 42, 43, 44, 45, 46, 47, 48, 49, 50, 51, 52, 53, 54, 55, 56, 57, 58, 59, 60, 61, 62, 63, 64, 65, 66, 67, 68, 69, 70, 71, 72, 73, 74, 75, 76, 77, 78, 79, 80, 81, 82, 83, 84, 85, 86, 87, 88, 89, 90, 91, 92, 93, 94, 95, 96, 97, 98, 99] (by decide +kernel) (by decide +kernel)
set_option maxRecDepth 20000 in
theorem gX10_begin_X10_bind : GoodIn wsX10_begin (wsV RX10 184 RX10 yX10_bind wsX10_bind) := goodIn_app (goodIn_of _ (by decide +kernel)) ggX10_begin_X10_bind
set_option maxRecDepth 20000 in
theorem ggX10_begin_X10_then : GoodIn wsX10_begin wsX10_then := goodIn_r _ [32, 33, 34, 35, 36, 37, 38, 39, 9, 40, 41, 42, 43, 44, 45, 46, 47, 48, 49, 50, 51, 52, 53, 54, 55, 56, 57, 58, 59, 60, 61, 62, 63, 64, 65, 66, 67, 68, 69, 70, 71, 72, 73, 74, 75, 76, 77, 78, 79, 80, 81, 82, 83, 84, 85, 86, 87, 88, 89, 90, 91, 92, 93, 94, 95, 96, 97, 98, 99] (by decide +kernel) (by decide +kernel)
set_option maxRecDepth 20000 in
theorem gX10_begin_X10_then : GoodIn wsX10_begin (wsV RX10 188 RX10 yX10_then wsX10_then) := goodIn_app (goodIn_of _ (by decide +kernel)) ggX10_begin_X10_then
set_option maxRecDepth 20000 in
theorem ggX10_call_X10_bind : GoodIn wsX10_call wsX10_bind := goodIn_r _ [16, 17, 18, 19, 20, 21, 22, 23, 24, 25, 26, 27, 28, 29, 30, 31, 32, 33, 34, 35, 36, 37, 38, 39, 40, 41, 42, 43, 44, 45, 46, 47, 48, 49, 50, 51, 52, 53, 54, 55, 56, 57, 58, 59, 60, 61, 62, 63, 64, 65, 66, 67, 68, 69, 70, 71, 72, 73, 74, 75, 76, 77, 78, 79, 80] (by decide +kernel) (by decide +kernel)
set_option maxRecDepth 20000 in
theorem gX10_call_X10_bind : GoodIn wsX10_call (wsV RX10 184 RX10 yX10_bind wsX10_bind) := goodIn_app (goodIn_of _ (by decide +kernel)) ggX10_call_X10_bind
set_option maxRecDepth 20000 in
theorem ggX10_goOn_X10_bind : GoodIn wsX10_goOn wsX10_bind := goodIn_r _ [18, 19, 20, 21, 22, 42, 43, 44, 45, 46, 47, 48, 49, 50, 51, 52, 53, 54, 55, 56, 57, 58, 59, 60, 61, 62, 63, 64, 65, 66, 67, 68, 69, 70, 71, 72, 73, 74, 75, 76, 77, 78, 79, 80, 81, 82, 83, 84, 85, 86, 87, 88, 89, 90, 91, 92, 93, 94, 95, 96, 97, 98, 99, 100, 101] (by decide +kernel) (by decide +kernel)
set_option maxRecDepth 20000 in
theorem gX10_goOn_X10_bind : GoodIn wsX10_goOn (wsV RX10 184 RX10 yX10_bind wsX10_bind) := goodIn_app (goodIn_of _ (by decide +kernel)) ggX10_goOn_X10_bind
set_option maxRecDepth 20000 in
theorem ggX10_goOn_X10_then : GoodIn wsX10_goOn wsX10_then := goodIn_r _ [26, 27, 3, 2, 6, 4, 13, 5, 1, 42, 43, 44, 45, 46, 47, 48, 49, 50, 51, 52, 53, 54, 55, 56, 57, 58, 59, 60, 61, 62, 63, 64, 65, 66, 67, 68, 69, 70, 71, 72, 73, 74, 75, 76, 77, 78, 79, 80, 81, 82, 83, 84, 85, 86, 87, 88, 89, 90, 91, 92, 93, 94, 95, 96, 97, 98, 99, 100, 101] (by decide +kernel) (by decide +kernel)
set_option maxRecDepth 20000 in
theorem gX10_goOn_X10_then : GoodIn wsX10_goOn (wsV RX10 188 RX10 yX10_then wsX10_then) := goodIn_app (goodIn_of _ (by decide +kernel)) ggX10_goOn_X10_then
set_option maxRecDepth 20000 in
theorem ggX10_goOn_X10_call : GoodIn wsX10_goOn wsX10_call := goodIn_r _ [31, 32, 33, 1, 9, 34, 35, 36, 8, 10, 7, 37, 14, 15, 16, 17, 18, 19, 20, 21, 22, 42, 43, 44, 45, 46, 47, 48, 49, 50, 51, 52, 53, 54, 55, 56, 57, 58, 59, 60, 61, 62, 63, 64, 65, 66, 67, 68, 69, 70, 71, 72, 73, 74, 75, 76, 77, 78, 79, 80, 81, 82, 83, 84, 85, 86, 87, 88, 89, 90, 91, 92, 93, 94, 95, 96, 97, 98, 99, 100, 101] (by decide +kernel) (by decide +kernel)
set_option maxRecDepth 20000 in
theorem gX10_goOn_X10_call : GoodIn wsX10_goOn (wsV RX10 196 RX10 yX10_call wsX10_call) := goodIn_app (goodIn_of _ (by decide +kernel)) ggX10_goOn_X10_call
set_option maxRecDepth 20000 in
theorem ggX10_goOn_X10_give : GoodIn wsX10_goOn wsX10_give := goodIn_r _ [41, 8, 10, 42, 43, 44, 45, 46, 47, 48, 49, 50, 51, 52, 53, 54, 55, 56, 57, 58, 59, 60, 61, 62, 63, 64, 65, 66, 67, 68, 69, 70, 71, 72, 73, 74, 75, 76, 77, 78, 79, 80, 81, 82, 83, 84, 85, 86, 87, 88, 89, 90, 91, 92, 93, 94, 95, 96, 97, 98, 99, 100, 101] (by decide +kernel) (by decide +kernel)
set_option maxRecDepth 20000 in
theorem gX10_goOn_X10_give : GoodIn wsX10_goOn (wsV RX10 174 RX10 yX10_give wsX10_give) := goodIn_app (goodIn_of _ (by decide +kernel)) ggX10_goOn_X10_give
set_option maxRecDepth 20000 in
theorem ggX10_run_X10_begin : GoodIn wsX10_run wsX10_begin := goodIn_r _ [13, 14, 7, 15, 16, 17, 18, 8, 4, 5, 19, 20, 21, 12, 22, 23, 24, 25, 26, 27, 28, 2, 29, 30, 31, 32, 33, 34, 1, 35, 36, 37, 38, 3, 39, 40, 41, 42, 43, 44, 55, 56, 57, 58, 59, 60, 61, 62, 63, 64, 65, 66, 67, 68, 69, 70, 71, 72, 73, 74, 75, 76, 77, 78, 79, 80, 81, 82, 83, 84, 85, 86, 87, 88, 89, 90, 91, 92, 93, 94, 95, 96, 97, 98, 99, 100, 101, 102, 103, 104, 105, 106, 107, 108, 109, 110, 111, 112, 113, 114] (by decide +kernel) (by decide +kernel)
set_option maxRecDepth 20000 in
theorem gX10_run_X10_begin : GoodIn wsX10_run (wsV RX10 199 RX10 yX10_begin wsX10_begin) := goodIn_app (goodIn_of _ (by decide +kernel)) ggX10_run_X10_begin
set_option maxRecDepth 20000 in
theorem ggX10_run_X10_goOn : GoodIn wsX10_run wsX10_goOn := goodIn_r _ [48, 5, 40, 39, 42, 44, 41, 7, 23, 6, 24, 49, 50, 43, 31, 32, 33, 12, 34, 1, 17, 18, 16, 35, 36, 37, 38, 3, 51, 52, 53, 54, 8, 4, 29, 14, 30, 15, 19, 20, 21, 22, 55, 56, 57, 58, 59, 60, 61, 62, 63, 64, 65, 66, 67, 68, 69, 70, 71, 72, 73, 74, 75, 76, 77, 78, 79, 80, 81, 82, 83, 84, 85, 86, 87, 88, 89, 90, 91, 92, 93, 94, 95, 96, 97, 98, 99, 100, 101, 102, 103, 104, 105, 106, 107, 108, 109, 110, 111, 112, 113, 114] (by decide +kernel) (by decide +kernel)
set_option maxRecDepth 20000 in
theorem gX10_run_X10_goOn : GoodIn wsX10_run (wsV RX10 202 RX10 yX10_goOn wsX10_goOn) := goodIn_app (goodIn_of _ (by decide +kernel)) ggX10_run_X10_goOn
set_option maxRecDepth 20000 in
theorem ggX10_work_X10_isTerm : GoodIn wsX10_work wsX10_isTerm := goodIn_r _ [16, 17, 18, 19, 15, 20, 80, 81, 82, 83, 84, 85, 86, 87, 88, 89, 90, 91, 92, 93, 94, 95, 96, 97, 98, 99, 100, 101, 102, 103, 104, 105, 106, 107, 108, 109, 110, 111, 112, 113, 114, 115, 116, 117, 118, 119, 120, 121, 122, 123, 124, 125, 126, 127, 128, 129, 130, 131, 132, 133, 134, 135, 136, 137, 138, 139] (by decide +kernel) (by decide +kernel)
set_option maxRecDepth 20000 in
theorem gX10_work_X10_isTerm : GoodIn wsX10_work (wsV RX10 127 RX10 yX10_isTerm wsX10_isTerm) := goodIn_app (goodIn_of _ (by decide +kernel)) ggX10_work_X10_isTerm
set_option maxRecDepth 20000 in
theorem ggX10_work_X10_fail : GoodIn wsX10_work wsX10_fail := goodIn_r _ [24, 1, 80, 81, 82, 83, 84, 85, 86, 87, 88, 89, 90, 91, 92, 93, 94, 95, 96, 97, 98, 99, 100, 101, 102, 103, 104, 105, 106, 107, 108, 109, 110, 111, 112, 113, 114, 115, 116, 117, 118, 119, 120, 121, 122, 123, 124, 125, 126, 127, 128, 129, 130, 131, 132, 133, 134, 135, 136, 137, 138, 139] (by decide +kernel) (by decide +kernel)
set_option maxRecDepth 20000 in
theorem gX10_work_X10_fail : GoodIn wsX10_work (wsV RX10 138 RX10 yX10_fail wsX10_fail) := goodIn_app (goodIn_of _ (by decide +kernel)) ggX10_work_X10_fail
set_option maxRecDepth 20000 in
theorem ggX10_work_X10_in : GoodIn wsX10_work wsX10_in := goodIn_r _ [20] (by decide +kernel) (by decide +kernel)
set_option maxRecDepth 20000 in
theorem gX10_work_X10_in : GoodIn wsX10_work (va_wsS RX10 123 yX10_in wsX10_in) := goodIn_app (goodIn_of _ (by decide +kernel)) ggX10_work_X10_in
set_option maxRecDepth 20000 in
theorem ggX10_work_X10_run : GoodIn wsX10_work wsX10_run := goodIn_r _ [28, 29, 30, 31, 32, 33, 34, 35, 36, 37, 38, 39, 15, 40, 41, 42, 43, 44, 45, 46, 47, 48, 49, 5, 7, 50, 51, 52, 53, 54, 55, 56, 57, 58, 59, 60, 61, 62, 63, 64, 65, 66, 67, 68, 69, 70, 71, 72, 73, 74, 75, 76, 77, 78, 79, 80, 81, 82, 83, 84, 85, 86, 87, 88, 89, 90, 91, 92, 93, 94, 95, 96, 97, 98, 99, 100, 101, 102, 103, 104, 105, 106, 107, 108, 109, 110, 111, 112, 113, 114, 115, 116, 117, 118, 119, 120, 121, 122, 123, 124, 125, 126, 127, 128, 129, 130, 131, 132, 133, 134, 135, 136, 137, 138, 139] (by decide +kernel) (by decide +kernel)
set_option maxRecDepth 20000 in
theorem gX10_work_X10_run : GoodIn wsX10_work (wsV RX10 206 RX10 yX10_run wsX10_run) := goodIn_app (goodIn_of _ (by decide +kernel)) ggX10_work_X10_run
set_option maxRecDepth 20000 in
theorem ggX10_letterCell_X10_cell : GoodIn wsX10_letterCell wsX10_cell := goodIn_r _ [5, 6, 7, 8, 9, 10, 11, 12, 13, 14, 15, 16, 17, 18, 19, 20, 21, 22, 23, 24, 25, 26, 27, 28, 29, 30, 31, 32, 33, 34, 35, 36, 37, 38, 39, 40, 41, 42, 43, 44, 45, 46, 47, 48, 49, 50, 51, 52, 53, 54, 55, 56, 57, 58, 59, 60, 61, 62, 63, 64, 65, 66, 67, 68, 69] (by decide +kernel) (by decide +kernel)
set_option maxRecDepth 20000 in
theorem gX10_letterCell_X10_cell : GoodIn wsX10_letterCell (wsV RX10 236 RX10 yX10_cell wsX10_cell) := goodIn_app (goodIn_of _ (by decide +kernel)) ggX10_letterCell_X10_cell
set_option maxRecDepth 20000 in
theorem ggX10_functionCell_X10_cell : GoodIn wsX10_functionCell wsX10_cell := goodIn_r _ [6, 7, 8, 9, 10, 11, 12, 13, 14, 15, 16, 17, 18, 19, 20, 21, 22, 23, 24, 25, 26, 27, 28, 29, 30, 31, 32, 33, 34, 35, 36, 37, 38, 39, 40, 41, 42, 43, 44, 45, 46, 47, 48, 49, 50, 51, 52, 53, 54, 55, 56, 57, 58, 59, 60, 61, 62, 63, 64, 65, 66, 67, 68, 69, 70] (by decide +kernel) (by decide +kernel)
set_option maxRecDepth 20000 in
theorem gX10_functionCell_X10_cell : GoodIn wsX10_functionCell (wsV RX10 236 RX10 yX10_cell wsX10_cell) := goodIn_app (goodIn_of _ (by decide +kernel)) ggX10_functionCell_X10_cell
set_option maxRecDepth 20000 in
theorem ggX10_contains_X10_end : GoodIn wsX10_contains wsX10_end := goodIn_r _ [11, 12, 13, 14, 15, 16, 17, 18, 19, 20, 21, 22, 23, 24, 25, 26, 27, 28, 29, 30, 31, 32, 33, 34, 35, 36, 37, 38, 39, 40, 41, 42, 43, 44, 45, 46, 47, 48, 49, 50, 51, 52, 53, 54, 55, 56, 57, 58, 59, 60, 61, 62, 63, 64, 65, 66, 67, 68, 69, 70, 71, 72] (by decide +kernel) (by decide +kernel)
set_option maxRecDepth 20000 in
theorem gX10_contains_X10_end : GoodIn wsX10_contains (wsV RX10 239 RX10 yX10_end wsX10_end) := goodIn_app (goodIn_of _ (by decide +kernel)) ggX10_contains_X10_end
set_option maxRecDepth 20000 in
theorem ggX10_equal_X10_end : GoodIn wsX10_equal wsX10_end := goodIn_r _ [10, 4, 19, 20, 21, 22, 23, 24, 25, 26, 27, 28, 29, 30, 31, 32, 33, 34, 35, 36, 37, 38, 39, 40, 41, 42, 43, 44, 45, 46, 47, 48, 49, 50, 51, 52, 53, 54, 55, 56, 57, 58, 59, 60, 61, 62, 63, 64, 65, 66, 67, 68, 69, 70, 71, 72, 73, 74, 75, 76, 77, 78] (by decide +kernel) (by decide +kernel)
set_option maxRecDepth 20000 in
theorem gX10_equal_X10_end : GoodIn wsX10_equal (wsV RX10 239 RX10 yX10_end wsX10_end) := goodIn_app (goodIn_of _ (by decide +kernel)) ggX10_equal_X10_end
set_option maxRecDepth 20000 in
theorem ggX10_equal_X10_contains : GoodIn wsX10_equal wsX10_contains := goodIn_r _ [14, 15, 16, 17, 18, 3, 5, 6, 7, 8, 9, 10, 4, 19, 20, 21, 22, 23, 24, 25, 26, 27, 28, 29, 30, 31, 32, 33, 34, 35, 36, 37, 38, 39, 40, 41, 42, 43, 44, 45, 46, 47, 48, 49, 50, 51, 52, 53, 54, 55, 56, 57, 58, 59, 60, 61, 62, 63, 64, 65, 66, 67, 68, 69, 70, 71, 72, 73, 74, 75, 76, 77, 78] (by decide +kernel) (by decide +kernel)
set_option maxRecDepth 20000 in
theorem gX10_equal_X10_contains : GoodIn wsX10_equal (wsV RX10 245 RX10 yX10_contains wsX10_contains) := goodIn_app (goodIn_of _ (by decide +kernel)) ggX10_equal_X10_contains
set_option maxRecDepth 20000 in
theorem ggX10_endless_X10_end : GoodIn wsX10_endless wsX10_end := goodIn_r _ [11, 5, 12, 13, 14, 15, 16, 17, 18, 19, 20, 21, 22, 23, 24, 25, 26, 27, 28, 29, 30, 31, 32, 33, 34, 35, 36, 37, 38, 39, 40, 41, 42, 43, 44, 45, 46, 47, 48, 49, 50, 51, 52, 53, 54, 55, 56, 57, 58, 59, 60, 61, 62, 63, 64, 65, 66, 67, 68, 69, 70, 71] (by decide +kernel) (by decide +kernel)
set_option maxRecDepth 20000 in
theorem gX10_endless_X10_end : GoodIn wsX10_endless (wsV RX10 239 RX10 yX10_end wsX10_end) := goodIn_app (goodIn_of _ (by decide +kernel)) ggX10_endless_X10_end
set_option maxRecDepth 20000 in
theorem ggX10_variable_X10_equal : GoodIn wsX10_variable wsX10_equal := goodIn_r _ [8, 9, 10, 11, 12, 13, 14, 15, 16, 7, 17, 18, 19, 20, 21, 22, 23, 24, 25, 38, 39, 40, 41, 42, 43, 44, 45, 46, 47, 48, 49, 50, 51, 52, 53, 54, 55, 56, 57, 58, 59, 60, 61, 62, 63, 64, 65, 66, 67, 68, 69, 70, 71, 72, 73, 74, 75, 76, 77, 78, 79, 80, 81, 82, 83, 84, 85, 86, 87, 88, 89, 90, 91, 92, 93, 94, 95, 96, 97] (by decide +kernel) (by decide +kernel)
set_option maxRecDepth 20000 in
theorem gX10_variable_X10_equal : GoodIn wsX10_variable (wsV RX10 255 RX10 yX10_equal wsX10_equal) := goodIn_app (goodIn_of _ (by decide +kernel)) ggX10_variable_X10_equal
set_option maxRecDepth 20000 in
theorem ggX10_variable_X10_letterCell : GoodIn wsX10_variable wsX10_letterCell := goodIn_r _ [29, 30, 31, 32, 7, 33, 22, 23, 11, 12, 38, 39, 40, 41, 42, 43, 44, 45, 46, 47, 48, 49, 50, 51, 52, 53, 54, 55, 56, 57, 58, 59, 60, 61, 62, 63, 64, 65, 66, 67, 68, 69, 70, 71, 72, 73, 74, 75, 76, 77, 78, 79, 80, 81, 82, 83, 84, 85, 86, 87, 88, 89, 90, 91, 92, 93, 94, 95, 96, 97] (by decide +kernel) (by decide +kernel)
set_option maxRecDepth 20000 in
theorem gX10_variable_X10_letterCell : GoodIn wsX10_variable (wsV RX10 258 RX10 yX10_letterCell wsX10_letterCell) := goodIn_app (goodIn_of _ (by decide +kernel)) ggX10_variable_X10_letterCell
set_option maxRecDepth 20000 in
theorem ggX10_variable_X10_functionCell : GoodIn wsX10_variable wsX10_functionCell := goodIn_r _ [37, 13, 30, 31, 32, 7, 33, 22, 23, 11, 12, 38, 39, 40, 41, 42, 43, 44, 45, 46, 47, 48, 49, 50, 51, 52, 53, 54, 55, 56, 57, 58, 59, 60, 61, 62, 63, 64, 65, 66, 67, 68, 69, 70, 71, 72, 73, 74, 75, 76, 77, 78, 79, 80, 81, 82, 83, 84, 85, 86, 87, 88, 89, 90, 91, 92, 93, 94, 95, 96, 97] (by decide +kernel) (by decide +kernel)
set_option maxRecDepth 20000 in
theorem gX10_variable_X10_functionCell : GoodIn wsX10_variable (wsV RX10 261 RX10 yX10_functionCell wsX10_functionCell) := goodIn_app (goodIn_of _ (by decide +kernel)) ggX10_variable_X10_functionCell
set_option maxRecDepth 20000 in
theorem ggX10_function_X10_letterCell : GoodIn wsX10_function wsX10_letterCell := goodIn_r _ [6, 7, 8, 9, 5, 10, 11, 12, 13, 14, 54, 55, 56, 57, 58, 59, 60, 61, 62, 63, 64, 65, 66, 67, 68, 69, 70, 71, 72, 73, 74, 75, 76, 77, 78, 79, 80, 81, 82, 83, 84, 85, 86, 87, 88, 89, 90, 91, 92, 93, 94, 95, 96, 97, 98, 99, 100, 101, 102, 103, 104, 105, 106, 107, 108, 109, 110, 111, 112, 113] (by decide +kernel) (by decide +kernel)
set_option maxRecDepth 20000 in
theorem gX10_function_X10_letterCell : GoodIn wsX10_function (wsV RX10 258 RX10 yX10_letterCell wsX10_letterCell) := goodIn_app (goodIn_of _ (by decide +kernel)) ggX10_function_X10_letterCell
set_option maxRecDepth 20000 in
theorem ggX10_function_X10_functionCell : GoodIn wsX10_function wsX10_functionCell := goodIn_r _ [18, 19, 7, 8, 9, 5, 10, 11, 12, 13, 14, 54, 55, 56, 57, 58, 59, 60, 61, 62, 63, 64, 65, 66, 67, 68, 69, 70, 71, 72, 73, 74, 75, 76, 77, 78, 79, 80, 81, 82, 83, 84, 85, 86, 87, 88, 89, 90, 91, 92, 93, 94, 95, 96, 97, 98, 99, 100, 101, 102, 103, 104, 105, 106, 107, 108, 109, 110, 111, 112, 113] (by decide +kernel) (by decide +kernel)
set_option maxRecDepth 20000 in
theorem gX10_function_X10_functionCell : GoodIn wsX10_function (wsV RX10 261 RX10 yX10_functionCell wsX10_functionCell) := goodIn_app (goodIn_of _ (by decide +kernel)) ggX10_function_X10_functionCell
set_option maxRecDepth 20000 in
theorem ggX10_function_X10_equal : GoodIn wsX10_function wsX10_equal := goodIn_r _ [23, 24, 25, 13, 14, 19, 26, 27, 28, 5, 29, 30, 31, 32, 33, 11, 12, 34, 35, 54, 55, 56, 57, 58, 59, 60, 61, 62, 63, 64, 65, 66, 67, 68, 69, 70, 71, 72, 73, 74, 75, 76, 77, 78, 79, 80, 81, 82, 83, 84, 85, 86, 87, 88, 89, 90, 91, 92, 93, 94, 95, 96, 97, 98, 99, 100, 101, 102, 103, 104, 105, 106, 107, 108, 109, 110, 111, 112, 113] (by decide +kernel) (by decide +kernel)
set_option maxRecDepth 20000 in
theorem gX10_function_X10_equal : GoodIn wsX10_function (wsV RX10 255 RX10 yX10_equal wsX10_equal) := goodIn_app (goodIn_of _ (by decide +kernel)) ggX10_function_X10_equal
set_option maxRecDepth 20000 in
theorem ggX10_function_X10_place : GoodIn wsX10_function wsX10_place := goodIn_r _ [39, 40, 41, 42, 43, 54, 55, 56, 57, 58, 59, 60, 61, 62, 63, 64, 65, 66, 67, 68, 69, 70, 71, 72, 73, 74, 75, 76, 77, 78, 79, 80, 81, 82, 83, 84, 85, 86, 87, 88, 89, 90, 91, 92, 93, 94, 95, 96, 97, 98, 99, 100, 101, 102, 103, 104, 105, 106, 107, 108, 109, 110, 111, 112, 113] (by decide +kernel) (by decide +kernel)
set_option maxRecDepth 20000 in
theorem gX10_function_X10_place : GoodIn wsX10_function (wsV RX10 264 RX10 yX10_place wsX10_place) := goodIn_app (goodIn_of _ (by decide +kernel)) ggX10_function_X10_place
set_option maxRecDepth 20000 in
theorem ggX10_function_X10_goal : GoodIn wsX10_function wsX10_goal := goodIn_r _ [47, 48, 49, 50, 51, 52, 53, 54, 55, 56, 57, 58, 59, 60, 61, 62, 63, 64, 65, 66, 67, 68, 69, 70, 71, 72, 73, 74, 75, 76, 77, 78, 79, 80, 81, 82, 83, 84, 85, 86, 87, 88, 89, 90, 91, 92, 93, 94, 95, 96, 97, 98, 99, 100, 101, 102, 103, 104, 105, 106, 107, 108, 109, 110, 111, 112, 113] (by decide +kernel) (by decide +kernel)
set_option maxRecDepth 20000 in
theorem gX10_function_X10_goal : GoodIn wsX10_function (wsV RX10 267 RX10 yX10_goal wsX10_goal) := goodIn_app (goodIn_of _ (by decide +kernel)) ggX10_function_X10_goal
set_option maxRecDepth 20000 in
theorem ggX10_solve_X10_in : GoodIn wsX10_solve wsX10_in := goodIn_r _ [12] (by decide +kernel) (by decide +kernel)
set_option maxRecDepth 20000 in
theorem gX10_solve_X10_in : GoodIn wsX10_solve (va_wsS RX10 123 yX10_in wsX10_in) := goodIn_app (goodIn_of _ (by decide +kernel)) ggX10_solve_X10_in
set_option maxRecDepth 20000 in
theorem ggX10_solve_X10_equal : GoodIn wsX10_solve wsX10_equal := goodIn_r _ [16, 17, 18, 19, 20, 21, 22, 23, 24, 11, 25, 26, 27, 28, 29, 30, 31, 32, 33, 72, 73, 74, 75, 76, 77, 78, 79, 80, 81, 82, 83, 84, 85, 86, 87, 88, 89, 90, 91, 92, 93, 94, 95, 96, 97, 98, 99, 100, 101, 102, 103, 104, 105, 106, 107, 108, 109, 110, 111, 112, 113, 114, 115, 116, 117, 118, 119, 120, 121, 122, 123, 124, 125, 126, 127, 128, 129, 130, 131] (by decide +kernel) (by decide +kernel)
set_option maxRecDepth 20000 in
theorem gX10_solve_X10_equal : GoodIn wsX10_solve (wsV RX10 255 RX10 yX10_equal wsX10_equal) := goodIn_app (goodIn_of _ (by decide +kernel)) ggX10_solve_X10_equal
set_option maxRecDepth 20000 in
theorem ggX10_solve_X10_cell : GoodIn wsX10_solve wsX10_cell := goodIn_r _ [37, 30, 31, 19, 20, 72, 73, 74, 75, 76, 77, 78, 79, 80, 81, 82, 83, 84, 85, 86, 87, 88, 89, 90, 91, 92, 93, 94, 95, 96, 97, 98, 99, 100, 101, 102, 103, 104, 105, 106, 107, 108, 109, 110, 111, 112, 113, 114, 115, 116, 117, 118, 119, 120, 121, 122, 123, 124, 125, 126, 127, 128, 129, 130, 131] (by decide +kernel) (by decide +kernel)
set_option maxRecDepth 20000 in
theorem gX10_solve_X10_cell : GoodIn wsX10_solve (wsV RX10 236 RX10 yX10_cell wsX10_cell) := goodIn_app (goodIn_of _ (by decide +kernel)) ggX10_solve_X10_cell
set_option maxRecDepth 20000 in
theorem ggX10_solve_X10_variable : GoodIn wsX10_solve wsX10_variable := goodIn_r _ [41, 42, 43, 44, 13, 14, 15, 11, 16, 17, 18, 19, 20, 21, 22, 23, 24, 25, 26, 27, 28, 29, 30, 31, 32, 33, 45, 46, 47, 48, 34, 35, 36, 37, 49, 50, 51, 52, 72, 73, 74, 75, 76, 77, 78, 79, 80, 81, 82, 83, 84, 85, 86, 87, 88, 89, 90, 91, 92, 93, 94, 95, 96, 97, 98, 99, 100, 101, 102, 103, 104, 105, 106, 107, 108, 109, 110, 111, 112, 113, 114, 115, 116, 117, 118, 119, 120, 121, 122, 123, 124, 125, 126, 127, 128, 129, 130, 131] (by decide +kernel) (by decide +kernel)
set_option maxRecDepth 20000 in
theorem gX10_solve_X10_variable : GoodIn wsX10_solve (wsV RX10 270 RX10 yX10_variable wsX10_variable) := goodIn_app (goodIn_of _ (by decide +kernel)) ggX10_solve_X10_variable
set_option maxRecDepth 20000 in
theorem ggX10_solve_X10_function : GoodIn wsX10_solve wsX10_function := goodIn_r _ [56, 8, 45, 46, 47, 11, 48, 34, 35, 36, 37, 30, 31, 19, 20, 49, 50, 51, 52, 21, 13, 14, 15, 16, 17, 18, 22, 23, 24, 25, 26, 27, 28, 29, 32, 33, 57, 58, 59, 60, 61, 44, 43, 42, 62, 63, 64, 65, 2, 1, 3, 4, 5, 6, 72, 73, 74, 75, 76, 77, 78, 79, 80, 81, 82, 83, 84, 85, 86, 87, 88, 89, 90, 91, 92, 93, 94, 95, 96, 97, 98, 99, 100, 101, 102, 103, 104, 105, 106, 107, 108, 109, 110, 111, 112, 113, 114, 115, 116, 117, 118, 119, 120, 121, 122, 123, 124, 125, 126, 127, 128, 129, 130, 131] (by decide +kernel) (by decide +kernel)
set_option maxRecDepth 20000 in
theorem gX10_solve_X10_function : GoodIn wsX10_solve (wsV RX10 274 RX10 yX10_function wsX10_function) := goodIn_app (goodIn_of _ (by decide +kernel)) ggX10_solve_X10_function
set_option maxRecDepth 20000 in
theorem ggX10_solve_X10_letterCell : GoodIn wsX10_solve wsX10_letterCell := goodIn_r _ [48, 34, 35, 36, 11, 37, 30, 31, 19, 20, 72, 73, 74, 75, 76, 77, 78, 79, 80, 81, 82, 83, 84, 85, 86, 87, 88, 89, 90, 91, 92, 93, 94, 95, 96, 97, 98, 99, 100, 101, 102, 103, 104, 105, 106, 107, 108, 109, 110, 111, 112, 113, 114, 115, 116, 117, 118, 119, 120, 121, 122, 123, 124, 125, 126, 127, 128, 129, 130, 131] (by decide +kernel) (by decide +kernel)
set_option maxRecDepth 20000 in
theorem gX10_solve_X10_letterCell : GoodIn wsX10_solve (wsV RX10 258 RX10 yX10_letterCell wsX10_letterCell) := goodIn_app (goodIn_of _ (by decide +kernel)) ggX10_solve_X10_letterCell
set_option maxRecDepth 20000 in
theorem ggX10_solve_X10_goal : GoodIn wsX10_solve wsX10_goal := goodIn_r _ [65, 2, 1, 3, 4, 5, 6, 72, 73, 74, 75, 76, 77, 78, 79, 80, 81, 82, 83, 84, 85, 86, 87, 88, 89, 90, 91, 92, 93, 94, 95, 96, 97, 98, 99, 100, 101, 102, 103, 104, 105, 106, 107, 108, 109, 110, 111, 112, 113, 114, 115, 116, 117, 118, 119, 120, 121, 122, 123, 124, 125, 126, 127, 128, 129, 130, 131] (by decide +kernel) (by decide +kernel)
set_option maxRecDepth 20000 in
theorem gX10_solve_X10_goal : GoodIn wsX10_solve (wsV RX10 267 RX10 yX10_goal wsX10_goal) := goodIn_app (goodIn_of _ (by decide +kernel)) ggX10_solve_X10_goal
set_option maxRecDepth 20000 in
theorem ggX10_solve_X10_place : GoodIn wsX10_solve wsX10_place := goodIn_r _ [60, 61, 44, 43, 42, 72, 73, 74, 75, 76, 77, 78, 79, 80, 81, 82, 83, 84, 85, 86, 87, 88, 89, 90, 91, 92, 93, 94, 95, 96, 97, 98, 99, 100, 101, 102, 103, 104, 105, 106, 107, 108, 109, 110, 111, 112, 113, 114, 115, 116, 117, 118, 119, 120, 121, 122, 123, 124, 125, 126, 127, 128, 129, 130, 131] (by decide +kernel) (by decide +kernel)
set_option maxRecDepth 20000 in
theorem gX10_solve_X10_place : GoodIn wsX10_solve (wsV RX10 264 RX10 yX10_place wsX10_place) := goodIn_app (goodIn_of _ (by decide +kernel)) ggX10_solve_X10_place
set_option maxRecDepth 20000 in
theorem ggX10_solve_X10_solveTwo : GoodIn wsX10_solve wsX10_solveTwo := goodIn_r _ [69, 4, 1, 5, 6, 8, 70, 71, 45, 46, 47, 11, 48, 34, 35, 36, 37, 30, 31, 19, 20, 49, 50, 51, 52, 21, 62, 63, 64, 65, 2, 3, 57, 58, 59, 60, 61, 44, 43, 42, 13, 14, 15, 16, 17, 18, 22, 23, 24, 25, 26, 27, 28, 29, 32, 33, 72, 73, 74, 75, 76, 77, 78, 79, 80, 81, 82, 83, 84, 85, 86, 87, 88, 89, 90, 91, 92, 93, 94, 95, 96, 97, 98, 99, 100, 101, 102, 103, 104, 105, 106, 107, 108, 109, 110, 111, 112, 113, 114, 115, 116, 117, 118, 119, 120, 121, 122, 123, 124, 125, 126, 127, 128, 129, 130, 131] (by decide +kernel) (by decide +kernel)
set_option maxRecDepth 20000 in
theorem gX10_solve_X10_solveTwo : GoodIn wsX10_solve (wsV RX10 278 RX10 yX10_solveTwo wsX10_solveTwo) := goodIn_app (goodIn_of _ (by decide +kernel)) ggX10_solve_X10_solveTwo
set_option maxRecDepth 20000 in
theorem ggX10_solveTwo_X10_letterCell : GoodIn wsX10_solveTwo wsX10_letterCell := goodIn_r _ [12, 13, 14, 15, 11, 16, 17, 18, 19, 20, 56, 57, 58, 59, 60, 61, 62, 63, 64, 65, 66, 67, 68, 69, 70, 71, 72, 73, 74, 75, 76, 77, 78, 79, 80, 81, 82, 83, 84, 85, 86, 87, 88, 89, 90, 91, 92, 93, 94, 95, 96, 97, 98, 99, 100, 101, 102, 103, 104, 105, 106, 107, 108, 109, 110, 111, 112, 113, 114, 115] (by decide +kernel) (by decide +kernel)
set_option maxRecDepth 20000 in
theorem gX10_solveTwo_X10_letterCell : GoodIn wsX10_solveTwo (wsV RX10 258 RX10 yX10_letterCell wsX10_letterCell) := goodIn_app (goodIn_of _ (by decide +kernel)) ggX10_solveTwo_X10_letterCell
set_option maxRecDepth 20000 in
theorem ggX10_solveTwo_X10_functionCell : GoodIn wsX10_solveTwo wsX10_functionCell := goodIn_r _ [24, 25, 13, 14, 15, 11, 16, 17, 18, 19, 20, 56, 57, 58, 59, 60, 61, 62, 63, 64, 65, 66, 67, 68, 69, 70, 71, 72, 73, 74, 75, 76, 77, 78, 79, 80, 81, 82, 83, 84, 85, 86, 87, 88, 89, 90, 91, 92, 93, 94, 95, 96, 97, 98, 99, 100, 101, 102, 103, 104, 105, 106, 107, 108, 109, 110, 111, 112, 113, 114, 115] (by decide +kernel) (by decide +kernel)
set_option maxRecDepth 20000 in
theorem gX10_solveTwo_X10_functionCell : GoodIn wsX10_solveTwo (wsV RX10 261 RX10 yX10_functionCell wsX10_functionCell) := goodIn_app (goodIn_of _ (by decide +kernel)) ggX10_solveTwo_X10_functionCell
set_option maxRecDepth 20000 in
theorem ggX10_solveTwo_X10_goal : GoodIn wsX10_solveTwo wsX10_goal := goodIn_r _ [29, 30, 2, 31, 1, 3, 4, 56, 57, 58, 59, 60, 61, 62, 63, 64, 65, 66, 67, 68, 69, 70, 71, 72, 73, 74, 75, 76, 77, 78, 79, 80, 81, 82, 83, 84, 85, 86, 87, 88, 89, 90, 91, 92, 93, 94, 95, 96, 97, 98, 99, 100, 101, 102, 103, 104, 105, 106, 107, 108, 109, 110, 111, 112, 113, 114, 115] (by decide +kernel) (by decide +kernel)
set_option maxRecDepth 20000 in
theorem gX10_solveTwo_X10_goal : GoodIn wsX10_solveTwo (wsV RX10 267 RX10 yX10_goal wsX10_goal) := goodIn_app (goodIn_of _ (by decide +kernel)) ggX10_solveTwo_X10_goal
set_option maxRecDepth 20000 in
theorem ggX10_solveTwo_X10_place : GoodIn wsX10_solveTwo wsX10_place := goodIn_r _ [35, 36, 37, 38, 39, 56, 57, 58, 59, 60, 61, 62, 63, 64, 65, 66, 67, 68, 69, 70, 71, 72, 73, 74, 75, 76, 77, 78, 79, 80, 81, 82, 83, 84, 85, 86, 87, 88, 89, 90, 91, 92, 93, 94, 95, 96, 97, 98, 99, 100, 101, 102, 103, 104, 105, 106, 107, 108, 109, 110, 111, 112, 113, 114, 115] (by decide +kernel) (by decide +kernel)
set_option maxRecDepth 20000 in
theorem gX10_solveTwo_X10_place : GoodIn wsX10_solveTwo (wsV RX10 264 RX10 yX10_place wsX10_place) := goodIn_app (goodIn_of _ (by decide +kernel)) ggX10_solveTwo_X10_place
set_option maxRecDepth 20000 in
theorem ggX10_solveTwo_X10_cell : GoodIn wsX10_solveTwo wsX10_cell := goodIn_r _ [16, 17, 18, 19, 20, 56, 57, 58, 59, 60, 61, 62, 63, 64, 65, 66, 67, 68, 69, 70, 71, 72, 73, 74, 75, 76, 77, 78, 79, 80, 81, 82, 83, 84, 85, 86, 87, 88, 89, 90, 91, 92, 93, 94, 95, 96, 97, 98, 99, 100, 101, 102, 103, 104, 105, 106, 107, 108, 109, 110, 111, 112, 113, 114, 115] (by decide +kernel) (by decide +kernel)
set_option maxRecDepth 20000 in
theorem gX10_solveTwo_X10_cell : GoodIn wsX10_solveTwo (wsV RX10 236 RX10 yX10_cell wsX10_cell) := goodIn_app (goodIn_of _ (by decide +kernel)) ggX10_solveTwo_X10_cell
set_option maxRecDepth 20000 in
theorem ggX10_solveTwo_X10_equal : GoodIn wsX10_solveTwo wsX10_equal := goodIn_r _ [43, 44, 45, 19, 20, 25, 46, 47, 48, 11, 49, 50, 51, 52, 53, 17, 18, 54, 55, 56, 57, 58, 59, 60, 61, 62, 63, 64, 65, 66, 67, 68, 69, 70, 71, 72, 73, 74, 75, 76, 77, 78, 79, 80, 81, 82, 83, 84, 85, 86, 87, 88, 89, 90, 91, 92, 93, 94, 95, 96, 97, 98, 99, 100, 101, 102, 103, 104, 105, 106, 107, 108, 109, 110, 111, 112, 113, 114, 115] (by decide +kernel) (by decide +kernel)
set_option maxRecDepth 20000 in
theorem gX10_solveTwo_X10_equal : GoodIn wsX10_solveTwo (wsV RX10 255 RX10 yX10_equal wsX10_equal) := goodIn_app (goodIn_of _ (by decide +kernel)) ggX10_solveTwo_X10_equal
set_option maxRecDepth 20000 in
theorem ggX10_numberLetters_X10_end : GoodIn wsX10_numberLetters wsX10_end := goodIn_r _ [12, 13, 14, 15, 16, 17, 18, 19, 20, 21, 22, 23, 24, 25, 26, 27, 28, 29, 30, 31, 32, 33, 34, 35, 36, 37, 38, 39, 40, 41, 42, 43, 44, 45, 46, 47, 48, 49, 50, 51, 52, 53, 54, 55, 56, 57, 58, 59, 60, 61, 62, 63, 64, 65, 66, 67, 68, 69, 70, 71, 72, 73] (by decide +kernel) (by decide +kernel)
set_option maxRecDepth 20000 in
theorem gX10_numberLetters_X10_end : GoodIn wsX10_numberLetters (wsV RX10 239 RX10 yX10_end wsX10_end) := goodIn_app (goodIn_of _ (by decide +kernel)) ggX10_numberLetters_X10_end
set_option maxRecDepth 20000 in
theorem ggX10_type_X10_isTerm : GoodIn wsX10_type wsX10_isTerm := goodIn_r _ [16, 17, 18, 19, 15, 20, 99, 100, 101, 102, 103, 104, 105, 106, 107, 108, 109, 110, 111, 112, 113, 114, 115, 116, 117, 118, 119, 120, 121, 122, 123, 124, 125, 126, 127, 128, 129, 130, 131, 132, 133, 134, 135, 136, 137, 138, 139, 140, 141, 142, 143, 144, 145, 146, 147, 148, 149, 150, 151, 152, 153, 154, 155, 156, 157, 158] (by decide +kernel) (by decide +kernel)
set_option maxRecDepth 20000 in
theorem gX10_type_X10_isTerm : GoodIn wsX10_type (wsV RX10 127 RX10 yX10_isTerm wsX10_isTerm) := goodIn_app (goodIn_of _ (by decide +kernel)) ggX10_type_X10_isTerm
set_option maxRecDepth 20000 in
theorem ggX10_type_X10_fail : GoodIn wsX10_type wsX10_fail := goodIn_r _ [24, 1, 99, 100, 101, 102, 103, 104, 105, 106, 107, 108, 109, 110, 111, 112, 113, 114, 115, 116, 117, 118, 119, 120, 121, 122, 123, 124, 125, 126, 127, 128, 129, 130, 131, 132, 133, 134, 135, 136, 137, 138, 139, 140, 141, 142, 143, 144, 145, 146, 147, 148, 149, 150, 151, 152, 153, 154, 155, 156, 157, 158] (by decide +kernel) (by decide +kernel)
set_option maxRecDepth 20000 in
theorem gX10_type_X10_fail : GoodIn wsX10_type (wsV RX10 138 RX10 yX10_fail wsX10_fail) := goodIn_app (goodIn_of _ (by decide +kernel)) ggX10_type_X10_fail
set_option maxRecDepth 20000 in
theorem ggX10_type_X10_letterCell : GoodIn wsX10_type wsX10_letterCell := goodIn_r _ [28, 29, 30, 31, 15, 32, 8, 3, 11, 33, 99, 100, 101, 102, 103, 104, 105, 106, 107, 108, 109, 110, 111, 112, 113, 114, 115, 116, 117, 118, 119, 120, 121, 122, 123, 124, 125, 126, 127, 128, 129, 130, 131, 132, 133, 134, 135, 136, 137, 138, 139, 140, 141, 142, 143, 144, 145, 146, 147, 148, 149, 150, 151, 152, 153, 154, 155, 156, 157, 158] (by decide +kernel) (by decide +kernel)
set_option maxRecDepth 20000 in
theorem gX10_type_X10_letterCell : GoodIn wsX10_type (wsV RX10 258 RX10 yX10_letterCell wsX10_letterCell) := goodIn_app (goodIn_of _ (by decide +kernel)) ggX10_type_X10_letterCell
set_option maxRecDepth 20000 in
theorem ggX10_type_X10_goal : GoodIn wsX10_type wsX10_goal := goodIn_r _ [37, 38, 4, 39, 40, 41, 42, 99, 100, 101, 102, 103, 104, 105, 106, 107, 108, 109, 110, 111, 112, 113, 114, 115, 116, 117, 118, 119, 120, 121, 122, 123, 124, 125, 126, 127, 128, 129, 130, 131, 132, 133, 134, 135, 136, 137, 138, 139, 140, 141, 142, 143, 144, 145, 146, 147, 148, 149, 150, 151, 152, 153, 154, 155, 156, 157, 158] (by decide +kernel) (by decide +kernel)
set_option maxRecDepth 20000 in
theorem gX10_type_X10_goal : GoodIn wsX10_type (wsV RX10 267 RX10 yX10_goal wsX10_goal) := goodIn_app (goodIn_of _ (by decide +kernel)) ggX10_type_X10_goal
set_option maxRecDepth 20000 in
theorem ggX10_type_X10_solve : GoodIn wsX10_type wsX10_solve := goodIn_r _ [46, 4, 38, 39, 40, 41, 42, 47, 48, 18, 19, 15, 20, 49, 50, 51, 52, 53, 6, 11, 33, 54, 55, 56, 57, 58, 59, 60, 61, 62, 8, 3, 63, 64, 29, 30, 31, 32, 65, 66, 67, 68, 69, 70, 71, 25, 26, 27, 28, 72, 73, 74, 75, 76, 77, 78, 79, 80, 81, 82, 83, 5, 34, 35, 36, 37, 84, 85, 86, 87, 88, 89, 99, 100, 101, 102, 103, 104, 105, 106, 107, 108, 109, 110, 111, 112, 113, 114, 115, 116, 117, 118, 119, 120, 121, 122, 123, 124, 125, 126, 127, 128, 129, 130, 131, 132, 133, 134, 135, 136, 137, 138, 139, 140, 141, 142, 143, 144, 145, 146, 147, 148, 149, 150, 151, 152, 153, 154, 155, 156, 157, 158] (by decide +kernel) (by decide +kernel)
set_option maxRecDepth 20000 in
theorem gX10_type_X10_solve : GoodIn wsX10_type (wsV RX10 281 RX10 yX10_solve wsX10_solve) := goodIn_app (goodIn_of _ (by decide +kernel)) ggX10_type_X10_solve
set_option maxRecDepth 20000 in
theorem ggX10_type_X10_endless : GoodIn wsX10_type wsX10_endless := goodIn_r _ [93, 8, 3, 63, 11, 33, 54, 55, 56, 57, 15, 58, 99, 100, 101, 102, 103, 104, 105, 106, 107, 108, 109, 110, 111, 112, 113, 114, 115, 116, 117, 118, 119, 120, 121, 122, 123, 124, 125, 126, 127, 128, 129, 130, 131, 132, 133, 134, 135, 136, 137, 138, 139, 140, 141, 142, 143, 144, 145, 146, 147, 148, 149, 150, 151, 152, 153, 154, 155, 156, 157, 158] (by decide +kernel) (by decide +kernel)
set_option maxRecDepth 20000 in
theorem gX10_type_X10_endless : GoodIn wsX10_type (wsV RX10 284 RX10 yX10_endless wsX10_endless) := goodIn_app (goodIn_of _ (by decide +kernel)) ggX10_type_X10_endless
set_option maxRecDepth 20000 in
theorem ggX10_type_X10_numberLetters : GoodIn wsX10_type wsX10_numberLetters := goodIn_r _ [97, 8, 3, 63, 64, 11, 98, 54, 55, 56, 57, 15, 58, 33, 99, 100, 101, 102, 103, 104, 105, 106, 107, 108, 109, 110, 111, 112, 113, 114, 115, 116, 117, 118, 119, 120, 121, 122, 123, 124, 125, 126, 127, 128, 129, 130, 131, 132, 133, 134, 135, 136, 137, 138, 139, 140, 141, 142, 143, 144, 145, 146, 147, 148, 149, 150, 151, 152, 153, 154, 155, 156, 157, 158] (by decide +kernel) (by decide +kernel)
set_option maxRecDepth 20000 in
theorem gX10_type_X10_numberLetters : GoodIn wsX10_type (wsV RX10 291 RX10 yX10_numberLetters wsX10_numberLetters) := goodIn_app (goodIn_of _ (by decide +kernel)) ggX10_type_X10_numberLetters
set_option maxRecDepth 20000 in
theorem ggX10_type_X10_end : GoodIn wsX10_type wsX10_end := goodIn_r _ [58, 33, 99, 100, 101, 102, 103, 104, 105, 106, 107, 108, 109, 110, 111, 112, 113, 114, 115, 116, 117, 118, 119, 120, 121, 122, 123, 124, 125, 126, 127, 128, 129, 130, 131, 132, 133, 134, 135, 136, 137, 138, 139, 140, 141, 142, 143, 144, 145, 146, 147, 148, 149, 150, 151, 152, 153, 154, 155, 156, 157, 158] (by decide +kernel) (by decide +kernel)
set_option maxRecDepth 20000 in
theorem gX10_type_X10_end : GoodIn wsX10_type (wsV RX10 239 RX10 yX10_end wsX10_end) := goodIn_app (goodIn_of _ (by decide +kernel)) ggX10_type_X10_end
set_option maxRecDepth 20000 in
theorem ggX10_part_X10_in : GoodIn wsX10_part wsX10_in := goodIn_r _ [9] (by decide +kernel) (by decide +kernel)
set_option maxRecDepth 20000 in
theorem gX10_part_X10_in : GoodIn wsX10_part (va_wsS RX10 123 yX10_in wsX10_in) := goodIn_app (goodIn_of _ (by decide +kernel)) ggX10_part_X10_in
set_option maxRecDepth 20000 in
theorem ggX10_part_X10_end : GoodIn wsX10_part wsX10_end := goodIn_r _ [13, 14, 18, 19, 20, 21, 22, 23, 24, 25, 26, 27, 28, 29, 30, 31, 32, 33, 34, 35, 36, 37, 38, 39, 40, 41, 42, 43, 44, 45, 46, 47, 48, 49, 50, 51, 52, 53, 54, 55, 56, 57, 58, 59, 60, 61, 62, 63, 64, 65, 66, 67, 68, 69, 70, 71, 72, 73, 74, 75, 76, 77] (by decide +kernel) (by decide +kernel)
set_option maxRecDepth 20000 in
theorem gX10_part_X10_end : GoodIn wsX10_part (wsV RX10 239 RX10 yX10_end wsX10_end) := goodIn_app (goodIn_of _ (by decide +kernel)) ggX10_part_X10_end
set_option maxRecDepth 20000 in
theorem ggX10_part_X10_told : GoodIn wsX10_part wsX10_told := goodIn_r _ [17] (by decide +kernel) (by decide +kernel)
set_option maxRecDepth 20000 in
theorem gX10_part_X10_told : GoodIn wsX10_part (va_wsS RX10 298 yX10_told wsX10_told) := goodIn_app (goodIn_of _ (by decide +kernel)) ggX10_part_X10_told
end
section
theorem dX1_init_0 : decode cX1_init 0 = .ok (.aload_n 0, 1) := by decide +kernel
theorem dX1_init_1 : decode cX1_init 1 = .ok (.invokespecial 3, 3) := by decide +kernel
theorem dX1_init_4 : decode cX1_init 4 = .ok (.aload_n 0, 1) := by decide +kernel
theorem dX1_init_5 : decode cX1_init 5 = .ok (.sipush 604, 3) := by decide +kernel
theorem dX1_init_8 : decode cX1_init 8 = .ok (.newarray .int, 2) := by decide +kernel
theorem dX1_init_10 : decode cX1_init 10 = .ok (.putfield 11, 3) := by decide +kernel
theorem dX1_init_13 : decode cX1_init 13 = .ok (.aload_n 0, 1) := by decide +kernel
theorem dX1_init_14 : decode cX1_init 14 = .ok (.sipush 2416, 3) := by decide +kernel
theorem dX1_init_17 : decode cX1_init 17 = .ok (.newarray .int, 2) := by decide +kernel
theorem dX1_init_19 : decode cX1_init 19 = .ok (.putfield 17, 3) := by decide +kernel
theorem dX1_init_22 : decode cX1_init 22 = .ok (.aload_n 0, 1) := by decide +kernel
theorem dX1_init_23 : decode cX1_init 23 = .ok (.sipush 481, 3) := by decide +kernel
theorem dX1_init_26 : decode cX1_init 26 = .ok (.newarray .int, 2) := by decide +kernel
theorem dX1_init_28 : decode cX1_init 28 = .ok (.putfield 22, 3) := by decide +kernel
theorem dX1_init_31 : decode cX1_init 31 = .ok (.aload_n 0, 1) := by decide +kernel
theorem dX1_init_32 : decode cX1_init 32 = .ok (.iconst (-1), 1) := by decide +kernel
theorem dX1_init_33 : decode cX1_init 33 = .ok (.putfield 25, 3) := by decide +kernel
theorem dX1_init_36 : decode cX1_init 36 = .ok (.return_, 1) := by decide +kernel
theorem dX1_keep_0 : decode cX1_keep 0 = .ok (.aload_n 0, 1) := by decide +kernel
theorem dX1_keep_1 : decode cX1_keep 1 = .ok (.aload_n 1, 1) := by decide +kernel
theorem dX1_keep_2 : decode cX1_keep 2 = .ok (.iload_n 2, 1) := by decide +kernel
theorem dX1_keep_3 : decode cX1_keep 3 = .ok (.invokevirtual 29, 3) := by decide +kernel
theorem dX1_keep_6 : decode cX1_keep 6 = .ok (.putfield 25, 3) := by decide +kernel
theorem dX1_keep_9 : decode cX1_keep 9 = .ok (.aload_n 0, 1) := by decide +kernel
theorem dX1_keep_10 : decode cX1_keep 10 = .ok (.iconst 0, 1) := by decide +kernel
theorem dX1_keep_11 : decode cX1_keep 11 = .ok (.putfield 33, 3) := by decide +kernel
theorem dX1_keep_14 : decode cX1_keep 14 = .ok (.aload_n 0, 1) := by decide +kernel
theorem dX1_keep_15 : decode cX1_keep 15 = .ok (.getfield 11, 3) := by decide +kernel
theorem dX1_keep_18 : decode cX1_keep 18 = .ok (.iconst (-1), 1) := by decide +kernel
theorem dX1_keep_19 : decode cX1_keep 19 = .ok (.invokestatic 36, 3) := by decide +kernel
theorem dX1_keep_22 : decode cX1_keep 22 = .ok (.aload_n 0, 1) := by decide +kernel
theorem dX1_keep_23 : decode cX1_keep 23 = .ok (.getfield 22, 3) := by decide +kernel
theorem dX1_keep_26 : decode cX1_keep 26 = .ok (.iconst 0, 1) := by decide +kernel
theorem dX1_keep_27 : decode cX1_keep 27 = .ok (.aload_n 0, 1) := by decide +kernel
theorem dX1_keep_28 : decode cX1_keep 28 = .ok (.getfield 25, 3) := by decide +kernel
theorem dX1_keep_31 : decode cX1_keep 31 = .ok (.iastore, 1) := by decide +kernel
theorem dX1_keep_32 : decode cX1_keep 32 = .ok (.iconst 1, 1) := by decide +kernel
theorem dX1_keep_33 : decode cX1_keep 33 = .ok (.istore_n 3, 1) := by decide +kernel
theorem dX1_keep_34 : decode cX1_keep 34 = .ok (.iconst 0, 1) := by decide +kernel
theorem dX1_keep_35 : decode cX1_keep 35 = .ok (.istore 4, 2) := by decide +kernel
theorem dX1_keep_37 : decode cX1_keep 37 = .ok (.iload 4, 2) := by decide +kernel
theorem dX1_keep_39 : decode cX1_keep 39 = .ok (.aload_n 0, 1) := by decide +kernel
theorem dX1_keep_40 : decode cX1_keep 40 = .ok (.getfield 22, 3) := by decide +kernel
theorem dX1_keep_43 : decode cX1_keep 43 = .ok (.arraylength, 1) := by decide +kernel
theorem dX1_keep_44 : decode cX1_keep 44 = .ok (.if_icmp .ge 44, 3) := by decide +kernel
theorem dX1_keep_47 : decode cX1_keep 47 = .ok (.iload_n 3, 1) := by decide +kernel
theorem dX1_keep_48 : decode cX1_keep 48 = .ok (.ifCond .le 40, 3) := by decide +kernel
theorem dX1_keep_51 : decode cX1_keep 51 = .ok (.iinc 3 (-1), 3) := by decide +kernel
theorem dX1_keep_54 : decode cX1_keep 54 = .ok (.aload_n 0, 1) := by decide +kernel
theorem dX1_keep_55 : decode cX1_keep 55 = .ok (.getfield 22, 3) := by decide +kernel
theorem dX1_keep_58 : decode cX1_keep 58 = .ok (.iload_n 3, 1) := by decide +kernel
theorem dX1_keep_59 : decode cX1_keep 59 = .ok (.iaload, 1) := by decide +kernel
theorem dX1_keep_60 : decode cX1_keep 60 = .ok (.istore 5, 2) := by decide +kernel
theorem dX1_keep_62 : decode cX1_keep 62 = .ok (.aload_n 0, 1) := by decide +kernel
theorem dX1_keep_63 : decode cX1_keep 63 = .ok (.getfield 11, 3) := by decide +kernel
theorem dX1_keep_66 : decode cX1_keep 66 = .ok (.iload 5, 2) := by decide +kernel
theorem dX1_keep_68 : decode cX1_keep 68 = .ok (.iaload, 1) := by decide +kernel
theorem dX1_keep_69 : decode cX1_keep 69 = .ok (.iconst (-1), 1) := by decide +kernel
theorem dX1_keep_70 : decode cX1_keep 70 = .ok (.if_icmp .ne 12, 3) := by decide +kernel
theorem dX1_keep_73 : decode cX1_keep 73 = .ok (.aload_n 0, 1) := by decide +kernel
theorem dX1_keep_74 : decode cX1_keep 74 = .ok (.aload_n 1, 1) := by decide +kernel
theorem dX1_keep_75 : decode cX1_keep 75 = .ok (.iload 5, 2) := by decide +kernel
theorem dX1_keep_77 : decode cX1_keep 77 = .ok (.iload_n 3, 1) := by decide +kernel
theorem dX1_keep_78 : decode cX1_keep 78 = .ok (.invokevirtual 42, 3) := by decide +kernel
theorem dX1_keep_81 : decode cX1_keep 81 = .ok (.istore_n 3, 1) := by decide +kernel
theorem dX1_keep_82 : decode cX1_keep 82 = .ok (.iinc 4 1, 3) := by decide +kernel
theorem dX1_keep_85 : decode cX1_keep 85 = .ok (.goto (-48), 3) := by decide +kernel
theorem dX1_keep_88 : decode cX1_keep 88 = .ok (.return_, 1) := by decide +kernel
theorem dX1_at_0 : decode cX1_at 0 = .ok (.aload_n 0, 1) := by decide +kernel
theorem dX1_at_1 : decode cX1_at 1 = .ok (.getfield 25, 3) := by decide +kernel
theorem dX1_at_4 : decode cX1_at 4 = .ok (.iconst (-1), 1) := by decide +kernel
theorem dX1_at_5 : decode cX1_at 5 = .ok (.if_icmp .eq 7, 3) := by decide +kernel
theorem dX1_at_8 : decode cX1_at 8 = .ok (.iload_n 1, 1) := by decide +kernel
theorem dX1_at_9 : decode cX1_at 9 = .ok (.ifCond .ge 5, 3) := by decide +kernel
theorem dX1_at_12 : decode cX1_at 12 = .ok (.iconst (-1), 1) := by decide +kernel
theorem dX1_at_13 : decode cX1_at 13 = .ok (.ireturn, 1) := by decide +kernel
theorem dX1_at_14 : decode cX1_at 14 = .ok (.aload_n 0, 1) := by decide +kernel
theorem dX1_at_15 : decode cX1_at 15 = .ok (.getfield 25, 3) := by decide +kernel
theorem dX1_at_18 : decode cX1_at 18 = .ok (.istore_n 2, 1) := by decide +kernel
theorem dX1_at_19 : decode cX1_at 19 = .ok (.iload_n 1, 1) := by decide +kernel
theorem dX1_at_20 : decode cX1_at 20 = .ok (.istore_n 3, 1) := by decide +kernel
theorem dX1_at_21 : decode cX1_at 21 = .ok (.iload_n 3, 1) := by decide +kernel
theorem dX1_at_22 : decode cX1_at 22 = .ok (.ifCond .le 55, 3) := by decide +kernel
theorem dX1_at_25 : decode cX1_at 25 = .ok (.iload_n 3, 1) := by decide +kernel
theorem dX1_at_26 : decode cX1_at 26 = .ok (.bipush 10, 2) := by decide +kernel
theorem dX1_at_28 : decode cX1_at 28 = .ok (.irem, 1) := by decide +kernel
theorem dX1_at_29 : decode cX1_at 29 = .ok (.istore 4, 2) := by decide +kernel
theorem dX1_at_31 : decode cX1_at 31 = .ok (.iload 4, 2) := by decide +kernel
theorem dX1_at_33 : decode cX1_at 33 = .ok (.iconst 1, 1) := by decide +kernel
theorem dX1_at_34 : decode cX1_at 34 = .ok (.if_icmp .lt 19, 3) := by decide +kernel
theorem dX1_at_37 : decode cX1_at 37 = .ok (.iload 4, 2) := by decide +kernel
theorem dX1_at_39 : decode cX1_at 39 = .ok (.iconst 4, 1) := by decide +kernel
theorem dX1_at_40 : decode cX1_at 40 = .ok (.if_icmp .gt 13, 3) := by decide +kernel
theorem dX1_at_43 : decode cX1_at 43 = .ok (.aload_n 0, 1) := by decide +kernel
theorem dX1_at_44 : decode cX1_at 44 = .ok (.getfield 11, 3) := by decide +kernel
theorem dX1_at_47 : decode cX1_at 47 = .ok (.iload_n 2, 1) := by decide +kernel
theorem dX1_at_48 : decode cX1_at 48 = .ok (.iaload, 1) := by decide +kernel
theorem dX1_at_49 : decode cX1_at 49 = .ok (.iconst 2, 1) := by decide +kernel
theorem dX1_at_50 : decode cX1_at 50 = .ok (.if_icmp .eq 5, 3) := by decide +kernel
theorem dX1_at_53 : decode cX1_at 53 = .ok (.iconst (-1), 1) := by decide +kernel
theorem dX1_at_54 : decode cX1_at 54 = .ok (.ireturn, 1) := by decide +kernel
theorem dX1_at_55 : decode cX1_at 55 = .ok (.aload_n 0, 1) := by decide +kernel
theorem dX1_at_56 : decode cX1_at 56 = .ok (.getfield 17, 3) := by decide +kernel
theorem dX1_at_59 : decode cX1_at 59 = .ok (.iconst 4, 1) := by decide +kernel
theorem dX1_at_60 : decode cX1_at 60 = .ok (.iload_n 2, 1) := by decide +kernel
theorem dX1_at_61 : decode cX1_at 61 = .ok (.imul, 1) := by decide +kernel
theorem dX1_at_62 : decode cX1_at 62 = .ok (.iload 4, 2) := by decide +kernel
theorem dX1_at_64 : decode cX1_at 64 = .ok (.iadd, 1) := by decide +kernel
theorem dX1_at_65 : decode cX1_at 65 = .ok (.iconst 1, 1) := by decide +kernel
theorem dX1_at_66 : decode cX1_at 66 = .ok (.isub, 1) := by decide +kernel
theorem dX1_at_67 : decode cX1_at 67 = .ok (.iaload, 1) := by decide +kernel
theorem dX1_at_68 : decode cX1_at 68 = .ok (.istore_n 2, 1) := by decide +kernel
theorem dX1_at_69 : decode cX1_at 69 = .ok (.iload_n 3, 1) := by decide +kernel
theorem dX1_at_70 : decode cX1_at 70 = .ok (.bipush 10, 2) := by decide +kernel
theorem dX1_at_72 : decode cX1_at 72 = .ok (.idiv, 1) := by decide +kernel
theorem dX1_at_73 : decode cX1_at 73 = .ok (.istore_n 3, 1) := by decide +kernel
theorem dX1_at_74 : decode cX1_at 74 = .ok (.goto (-53), 3) := by decide +kernel
theorem dX1_at_77 : decode cX1_at 77 = .ok (.aload_n 0, 1) := by decide +kernel
theorem dX1_at_78 : decode cX1_at 78 = .ok (.getfield 11, 3) := by decide +kernel
theorem dX1_at_81 : decode cX1_at 81 = .ok (.iload_n 2, 1) := by decide +kernel
theorem dX1_at_82 : decode cX1_at 82 = .ok (.iaload, 1) := by decide +kernel
theorem dX1_at_83 : decode cX1_at 83 = .ok (.ireturn, 1) := by decide +kernel
theorem dX1_keepNode_0 : decode cX1_keepNode 0 = .ok (.aload_n 0, 1) := by decide +kernel
theorem dX1_keepNode_1 : decode cX1_keepNode 1 = .ok (.getfield 11, 3) := by decide +kernel
theorem dX1_keepNode_4 : decode cX1_keepNode 4 = .ok (.iload_n 2, 1) := by decide +kernel
theorem dX1_keepNode_5 : decode cX1_keepNode 5 = .ok (.aload_n 1, 1) := by decide +kernel
theorem dX1_keepNode_6 : decode cX1_keepNode 6 = .ok (.getfield 46, 3) := by decide +kernel
theorem dX1_keepNode_9 : decode cX1_keepNode 9 = .ok (.iload_n 2, 1) := by decide +kernel
theorem dX1_keepNode_10 : decode cX1_keepNode 10 = .ok (.iaload, 1) := by decide +kernel
theorem dX1_keepNode_11 : decode cX1_keepNode 11 = .ok (.iastore, 1) := by decide +kernel
theorem dX1_keepNode_12 : decode cX1_keepNode 12 = .ok (.aload_n 0, 1) := by decide +kernel
theorem dX1_keepNode_13 : decode cX1_keepNode 13 = .ok (.getfield 11, 3) := by decide +kernel
theorem dX1_keepNode_16 : decode cX1_keepNode 16 = .ok (.iload_n 2, 1) := by decide +kernel
theorem dX1_keepNode_17 : decode cX1_keepNode 17 = .ok (.iaload, 1) := by decide +kernel
theorem dX1_keepNode_18 : decode cX1_keepNode 18 = .ok (.iconst 3, 1) := by decide +kernel
theorem dX1_keepNode_19 : decode cX1_keepNode 19 = .ok (.if_icmp .ne 27, 3) := by decide +kernel
theorem dX1_keepNode_22 : decode cX1_keepNode 22 = .ok (.aload_n 0, 1) := by decide +kernel
theorem dX1_keepNode_23 : decode cX1_keepNode 23 = .ok (.getfield 11, 3) := by decide +kernel
theorem dX1_keepNode_26 : decode cX1_keepNode 26 = .ok (.iload_n 2, 1) := by decide +kernel
theorem dX1_keepNode_27 : decode cX1_keepNode 27 = .ok (.iconst 3, 1) := by decide +kernel
theorem dX1_keepNode_28 : decode cX1_keepNode 28 = .ok (.aload_n 0, 1) := by decide +kernel
theorem dX1_keepNode_29 : decode cX1_keepNode 29 = .ok (.getfield 33, 3) := by decide +kernel
theorem dX1_keepNode_32 : decode cX1_keepNode 32 = .ok (.iadd, 1) := by decide +kernel
theorem dX1_keepNode_33 : decode cX1_keepNode 33 = .ok (.iastore, 1) := by decide +kernel
theorem dX1_keepNode_34 : decode cX1_keepNode 34 = .ok (.aload_n 0, 1) := by decide +kernel
theorem dX1_keepNode_35 : decode cX1_keepNode 35 = .ok (.dup, 1) := by decide +kernel
theorem dX1_keepNode_36 : decode cX1_keepNode 36 = .ok (.getfield 33, 3) := by decide +kernel
theorem dX1_keepNode_39 : decode cX1_keepNode 39 = .ok (.iconst 1, 1) := by decide +kernel
theorem dX1_keepNode_40 : decode cX1_keepNode 40 = .ok (.iadd, 1) := by decide +kernel
theorem dX1_keepNode_41 : decode cX1_keepNode 41 = .ok (.putfield 33, 3) := by decide +kernel
theorem dX1_keepNode_44 : decode cX1_keepNode 44 = .ok (.iload_n 3, 1) := by decide +kernel
theorem dX1_keepNode_45 : decode cX1_keepNode 45 = .ok (.ireturn, 1) := by decide +kernel
theorem dX1_keepNode_46 : decode cX1_keepNode 46 = .ok (.aload_n 0, 1) := by decide +kernel
theorem dX1_keepNode_47 : decode cX1_keepNode 47 = .ok (.getfield 11, 3) := by decide +kernel
theorem dX1_keepNode_50 : decode cX1_keepNode 50 = .ok (.iload_n 2, 1) := by decide +kernel
theorem dX1_keepNode_51 : decode cX1_keepNode 51 = .ok (.iaload, 1) := by decide +kernel
theorem dX1_keepNode_52 : decode cX1_keepNode 52 = .ok (.iconst 2, 1) := by decide +kernel
theorem dX1_keepNode_53 : decode cX1_keepNode 53 = .ok (.if_icmp .eq 5, 3) := by decide +kernel
theorem dX1_keepNode_56 : decode cX1_keepNode 56 = .ok (.iload_n 3, 1) := by decide +kernel
theorem dX1_keepNode_57 : decode cX1_keepNode 57 = .ok (.ireturn, 1) := by decide +kernel
theorem dX1_keepNode_58 : decode cX1_keepNode 58 = .ok (.iload_n 3, 1) := by decide +kernel
theorem dX1_keepNode_59 : decode cX1_keepNode 59 = .ok (.istore 4, 2) := by decide +kernel
theorem dX1_keepNode_61 : decode cX1_keepNode 61 = .ok (.iconst 3, 1) := by decide +kernel
theorem dX1_keepNode_62 : decode cX1_keepNode 62 = .ok (.istore 5, 2) := by decide +kernel
theorem dX1_keepNode_64 : decode cX1_keepNode 64 = .ok (.iload 5, 2) := by decide +kernel
theorem dX1_keepNode_66 : decode cX1_keepNode 66 = .ok (.ifCond .lt 43, 3) := by decide +kernel
theorem dX1_keepNode_69 : decode cX1_keepNode 69 = .ok (.aload_n 1, 1) := by decide +kernel
theorem dX1_keepNode_70 : decode cX1_keepNode 70 = .ok (.iload_n 2, 1) := by decide +kernel
theorem dX1_keepNode_71 : decode cX1_keepNode 71 = .ok (.iload 5, 2) := by decide +kernel
theorem dX1_keepNode_73 : decode cX1_keepNode 73 = .ok (.invokevirtual 49, 3) := by decide +kernel
theorem dX1_keepNode_76 : decode cX1_keepNode 76 = .ok (.istore 6, 2) := by decide +kernel
theorem dX1_keepNode_78 : decode cX1_keepNode 78 = .ok (.aload_n 0, 1) := by decide +kernel
theorem dX1_keepNode_79 : decode cX1_keepNode 79 = .ok (.getfield 17, 3) := by decide +kernel
theorem dX1_keepNode_82 : decode cX1_keepNode 82 = .ok (.iconst 4, 1) := by decide +kernel
theorem dX1_keepNode_83 : decode cX1_keepNode 83 = .ok (.iload_n 2, 1) := by decide +kernel
theorem dX1_keepNode_84 : decode cX1_keepNode 84 = .ok (.imul, 1) := by decide +kernel
theorem dX1_keepNode_85 : decode cX1_keepNode 85 = .ok (.iload 5, 2) := by decide +kernel
theorem dX1_keepNode_87 : decode cX1_keepNode 87 = .ok (.iadd, 1) := by decide +kernel
theorem dX1_keepNode_88 : decode cX1_keepNode 88 = .ok (.iload 6, 2) := by decide +kernel
theorem dX1_keepNode_90 : decode cX1_keepNode 90 = .ok (.iastore, 1) := by decide +kernel
theorem dX1_keepNode_91 : decode cX1_keepNode 91 = .ok (.aload_n 0, 1) := by decide +kernel
theorem dX1_keepNode_92 : decode cX1_keepNode 92 = .ok (.getfield 22, 3) := by decide +kernel
theorem dX1_keepNode_95 : decode cX1_keepNode 95 = .ok (.iload 4, 2) := by decide +kernel
theorem dX1_keepNode_97 : decode cX1_keepNode 97 = .ok (.iload 6, 2) := by decide +kernel
theorem dX1_keepNode_99 : decode cX1_keepNode 99 = .ok (.iastore, 1) := by decide +kernel
theorem dX1_keepNode_100 : decode cX1_keepNode 100 = .ok (.iinc 4 1, 3) := by decide +kernel
theorem dX1_keepNode_103 : decode cX1_keepNode 103 = .ok (.iinc 5 (-1), 3) := by decide +kernel
theorem dX1_keepNode_106 : decode cX1_keepNode 106 = .ok (.goto (-42), 3) := by decide +kernel
theorem dX1_keepNode_109 : decode cX1_keepNode 109 = .ok (.iload 4, 2) := by decide +kernel
theorem dX1_keepNode_111 : decode cX1_keepNode 111 = .ok (.ireturn, 1) := by decide +kernel
theorem dX2_init_0 : decode cX2_init 0 = .ok (.aload_n 0, 1) := by decide +kernel
theorem dX2_init_1 : decode cX2_init 1 = .ok (.invokespecial 5, 3) := by decide +kernel
theorem dX2_init_4 : decode cX2_init 4 = .ok (.aload_n 0, 1) := by decide +kernel
theorem dX2_init_5 : decode cX2_init 5 = .ok (.new 11, 3) := by decide +kernel
theorem dX2_init_8 : decode cX2_init 8 = .ok (.dup, 1) := by decide +kernel
theorem dX2_init_9 : decode cX2_init 9 = .ok (.invokespecial 13, 3) := by decide +kernel
theorem dX2_init_12 : decode cX2_init 12 = .ok (.putfield 14, 3) := by decide +kernel
theorem dX2_init_15 : decode cX2_init 15 = .ok (.aload_n 0, 1) := by decide +kernel
theorem dX2_init_16 : decode cX2_init 16 = .ok (.new 18, 3) := by decide +kernel
theorem dX2_init_19 : decode cX2_init 19 = .ok (.dup, 1) := by decide +kernel
theorem dX2_init_20 : decode cX2_init 20 = .ok (.invokespecial 20, 3) := by decide +kernel
theorem dX2_init_23 : decode cX2_init 23 = .ok (.putfield 21, 3) := by decide +kernel
theorem dX2_init_26 : decode cX2_init 26 = .ok (.aload_n 0, 1) := by decide +kernel
theorem dX2_init_27 : decode cX2_init 27 = .ok (.new 25, 3) := by decide +kernel
theorem dX2_init_30 : decode cX2_init 30 = .ok (.dup, 1) := by decide +kernel
theorem dX2_init_31 : decode cX2_init 31 = .ok (.invokespecial 27, 3) := by decide +kernel
theorem dX2_init_34 : decode cX2_init 34 = .ok (.putfield 28, 3) := by decide +kernel
theorem dX2_init_37 : decode cX2_init 37 = .ok (.aload_n 0, 1) := by decide +kernel
theorem dX2_init_38 : decode cX2_init 38 = .ok (.sipush 200, 3) := by decide +kernel
theorem dX2_init_41 : decode cX2_init 41 = .ok (.newarray .int, 2) := by decide +kernel
theorem dX2_init_43 : decode cX2_init 43 = .ok (.putfield 32, 3) := by decide +kernel
theorem dX2_init_46 : decode cX2_init 46 = .ok (.aload_n 0, 1) := by decide +kernel
theorem dX2_init_47 : decode cX2_init 47 = .ok (.aload_n 1, 1) := by decide +kernel
theorem dX2_init_48 : decode cX2_init 48 = .ok (.putfield 36, 3) := by decide +kernel
theorem dX2_init_51 : decode cX2_init 51 = .ok (.return_, 1) := by decide +kernel
theorem dX2_workOut_0 : decode cX2_workOut 0 = .ok (.aload_n 0, 1) := by decide +kernel
theorem dX2_workOut_1 : decode cX2_workOut 1 = .ok (.getfield 14, 3) := by decide +kernel
theorem dX2_workOut_4 : decode cX2_workOut 4 = .ok (.invokevirtual 40, 3) := by decide +kernel
theorem dX2_workOut_7 : decode cX2_workOut 7 = .ok (.aload_n 0, 1) := by decide +kernel
theorem dX2_workOut_8 : decode cX2_workOut 8 = .ok (.getfield 21, 3) := by decide +kernel
theorem dX2_workOut_11 : decode cX2_workOut 11 = .ok (.invokevirtual 43, 3) := by decide +kernel
theorem dX2_workOut_14 : decode cX2_workOut 14 = .ok (.aload_n 0, 1) := by decide +kernel
theorem dX2_workOut_15 : decode cX2_workOut 15 = .ok (.getfield 28, 3) := by decide +kernel
theorem dX2_workOut_18 : decode cX2_workOut 18 = .ok (.invokevirtual 44, 3) := by decide +kernel
theorem dX2_workOut_21 : decode cX2_workOut 21 = .ok (.aload_n 0, 1) := by decide +kernel
theorem dX2_workOut_22 : decode cX2_workOut 22 = .ok (.iconst 0, 1) := by decide +kernel
theorem dX2_workOut_23 : decode cX2_workOut 23 = .ok (.putfield 45, 3) := by decide +kernel
theorem dX2_workOut_26 : decode cX2_workOut 26 = .ok (.aload_n 0, 1) := by decide +kernel
theorem dX2_workOut_27 : decode cX2_workOut 27 = .ok (.iconst (-1), 1) := by decide +kernel
theorem dX2_workOut_28 : decode cX2_workOut 28 = .ok (.putfield 49, 3) := by decide +kernel
theorem dX2_workOut_31 : decode cX2_workOut 31 = .ok (.aload_n 0, 1) := by decide +kernel
theorem dX2_workOut_32 : decode cX2_workOut 32 = .ok (.iload_n 2, 1) := by decide +kernel
theorem dX2_workOut_33 : decode cX2_workOut 33 = .ok (.putfield 52, 3) := by decide +kernel
theorem dX2_workOut_36 : decode cX2_workOut 36 = .ok (.aload_n 0, 1) := by decide +kernel
theorem dX2_workOut_37 : decode cX2_workOut 37 = .ok (.iconst 0, 1) := by decide +kernel
theorem dX2_workOut_38 : decode cX2_workOut 38 = .ok (.putfield 55, 3) := by decide +kernel
theorem dX2_workOut_41 : decode cX2_workOut 41 = .ok (.aload_n 0, 1) := by decide +kernel
theorem dX2_workOut_42 : decode cX2_workOut 42 = .ok (.iconst 3, 1) := by decide +kernel
theorem dX2_workOut_43 : decode cX2_workOut 43 = .ok (.putfield 58, 3) := by decide +kernel
theorem dX2_workOut_46 : decode cX2_workOut 46 = .ok (.aload_n 0, 1) := by decide +kernel
theorem dX2_workOut_47 : decode cX2_workOut 47 = .ok (.iload_n 1, 1) := by decide +kernel
theorem dX2_workOut_48 : decode cX2_workOut 48 = .ok (.iconst (-1), 1) := by decide +kernel
theorem dX2_workOut_49 : decode cX2_workOut 49 = .ok (.invokevirtual 61, 3) := by decide +kernel
theorem dX2_workOut_52 : decode cX2_workOut 52 = .ok (.iconst 0, 1) := by decide +kernel
theorem dX2_workOut_53 : decode cX2_workOut 53 = .ok (.istore_n 3, 1) := by decide +kernel
theorem dX2_workOut_54 : decode cX2_workOut 54 = .ok (.iload_n 3, 1) := by decide +kernel
theorem dX2_workOut_55 : decode cX2_workOut 55 = .ok (.sipush 402, 3) := by decide +kernel
theorem dX2_workOut_58 : decode cX2_workOut 58 = .ok (.if_icmp .ge 21, 3) := by decide +kernel
theorem dX2_workOut_61 : decode cX2_workOut 61 = .ok (.aload_n 0, 1) := by decide +kernel
theorem dX2_workOut_62 : decode cX2_workOut 62 = .ok (.getfield 58, 3) := by decide +kernel
theorem dX2_workOut_65 : decode cX2_workOut 65 = .ok (.iconst 3, 1) := by decide +kernel
theorem dX2_workOut_66 : decode cX2_workOut 66 = .ok (.if_icmp .ne 13, 3) := by decide +kernel
theorem dX2_workOut_69 : decode cX2_workOut 69 = .ok (.aload_n 0, 1) := by decide +kernel
theorem dX2_workOut_70 : decode cX2_workOut 70 = .ok (.invokevirtual 65, 3) := by decide +kernel
theorem dX2_workOut_73 : decode cX2_workOut 73 = .ok (.iinc 3 1, 3) := by decide +kernel
theorem dX2_workOut_76 : decode cX2_workOut 76 = .ok (.goto (-22), 3) := by decide +kernel
theorem dX2_workOut_79 : decode cX2_workOut 79 = .ok (.aload_n 0, 1) := by decide +kernel
theorem dX2_workOut_80 : decode cX2_workOut 80 = .ok (.getfield 58, 3) := by decide +kernel
theorem dX2_workOut_83 : decode cX2_workOut 83 = .ok (.ireturn, 1) := by decide +kernel
theorem dX2_resultForm_0 : decode cX2_resultForm 0 = .ok (.aload_n 0, 1) := by decide +kernel
theorem dX2_resultForm_1 : decode cX2_resultForm 1 = .ok (.getfield 14, 3) := by decide +kernel
theorem dX2_resultForm_4 : decode cX2_resultForm 4 = .ok (.getfield 68, 3) := by decide +kernel
theorem dX2_resultForm_7 : decode cX2_resultForm 7 = .ok (.aload_n 0, 1) := by decide +kernel
theorem dX2_resultForm_8 : decode cX2_resultForm 8 = .ok (.getfield 71, 3) := by decide +kernel
theorem dX2_resultForm_11 : decode cX2_resultForm 11 = .ok (.iaload, 1) := by decide +kernel
theorem dX2_resultForm_12 : decode cX2_resultForm 12 = .ok (.iconst 2, 1) := by decide +kernel
theorem dX2_resultForm_13 : decode cX2_resultForm 13 = .ok (.invokestatic 74, 3) := by decide +kernel
theorem dX2_resultForm_16 : decode cX2_resultForm 16 = .ok (.ireturn, 1) := by decide +kernel
theorem dX2_plainResult_0 : decode cX2_plainResult 0 = .ok (.aload_n 0, 1) := by decide +kernel
theorem dX2_plainResult_1 : decode cX2_plainResult 1 = .ok (.invokevirtual 80, 3) := by decide +kernel
theorem dX2_plainResult_4 : decode cX2_plainResult 4 = .ok (.iconst 2, 1) := by decide +kernel
theorem dX2_plainResult_5 : decode cX2_plainResult 5 = .ok (.if_icmp .ne 7, 3) := by decide +kernel
theorem dX2_plainResult_8 : decode cX2_plainResult 8 = .ok (.iconst 0, 1) := by decide +kernel
theorem dX2_plainResult_9 : decode cX2_plainResult 9 = .ok (.goto 15, 3) := by decide +kernel
theorem dX2_plainResult_12 : decode cX2_plainResult 12 = .ok (.aload_n 0, 1) := by decide +kernel
theorem dX2_plainResult_13 : decode cX2_plainResult 13 = .ok (.getfield 14, 3) := by decide +kernel
theorem dX2_plainResult_16 : decode cX2_plainResult 16 = .ok (.getfield 84, 3) := by decide +kernel
theorem dX2_plainResult_19 : decode cX2_plainResult 19 = .ok (.aload_n 0, 1) := by decide +kernel
theorem dX2_plainResult_20 : decode cX2_plainResult 20 = .ok (.getfield 71, 3) := by decide +kernel
theorem dX2_plainResult_23 : decode cX2_plainResult 23 = .ok (.iaload, 1) := by decide +kernel
theorem dX2_plainResult_24 : decode cX2_plainResult 24 = .ok (.ireturn, 1) := by decide +kernel
theorem dX2_doRound_0 : decode cX2_doRound 0 = .ok (.aload_n 0, 1) := by decide +kernel
theorem dX2_doRound_1 : decode cX2_doRound 1 = .ok (.getfield 71, 3) := by decide +kernel
theorem dX2_doRound_4 : decode cX2_doRound 4 = .ok (.iconst (-1), 1) := by decide +kernel
theorem dX2_doRound_5 : decode cX2_doRound 5 = .ok (.if_icmp .eq 18, 3) := by decide +kernel
theorem dX2_doRound_8 : decode cX2_doRound 8 = .ok (.aload_n 0, 1) := by decide +kernel
theorem dX2_doRound_9 : decode cX2_doRound 9 = .ok (.getfield 49, 3) := by decide +kernel
theorem dX2_doRound_12 : decode cX2_doRound 12 = .ok (.iconst (-1), 1) := by decide +kernel
theorem dX2_doRound_13 : decode cX2_doRound 13 = .ok (.if_icmp .ne 10, 3) := by decide +kernel
theorem dX2_doRound_16 : decode cX2_doRound 16 = .ok (.aload_n 0, 1) := by decide +kernel
theorem dX2_doRound_17 : decode cX2_doRound 17 = .ok (.invokevirtual 87, 3) := by decide +kernel
theorem dX2_doRound_20 : decode cX2_doRound 20 = .ok (.goto 57, 3) := by decide +kernel
theorem dX2_doRound_23 : decode cX2_doRound 23 = .ok (.aload_n 0, 1) := by decide +kernel
theorem dX2_doRound_24 : decode cX2_doRound 24 = .ok (.getfield 52, 3) := by decide +kernel
theorem dX2_doRound_27 : decode cX2_doRound 27 = .ok (.ifCond .ne 11, 3) := by decide +kernel
theorem dX2_doRound_30 : decode cX2_doRound 30 = .ok (.aload_n 0, 1) := by decide +kernel
theorem dX2_doRound_31 : decode cX2_doRound 31 = .ok (.iconst 2, 1) := by decide +kernel
theorem dX2_doRound_32 : decode cX2_doRound 32 = .ok (.putfield 58, 3) := by decide +kernel
theorem dX2_doRound_35 : decode cX2_doRound 35 = .ok (.goto 42, 3) := by decide +kernel
theorem dX2_doRound_38 : decode cX2_doRound 38 = .ok (.aload_n 0, 1) := by decide +kernel
theorem dX2_doRound_39 : decode cX2_doRound 39 = .ok (.dup, 1) := by decide +kernel
theorem dX2_doRound_40 : decode cX2_doRound 40 = .ok (.getfield 52, 3) := by decide +kernel
theorem dX2_doRound_43 : decode cX2_doRound 43 = .ok (.iconst 1, 1) := by decide +kernel
theorem dX2_doRound_44 : decode cX2_doRound 44 = .ok (.isub, 1) := by decide +kernel
theorem dX2_doRound_45 : decode cX2_doRound 45 = .ok (.putfield 52, 3) := by decide +kernel
theorem dX2_doRound_48 : decode cX2_doRound 48 = .ok (.aload_n 0, 1) := by decide +kernel
theorem dX2_doRound_49 : decode cX2_doRound 49 = .ok (.dup, 1) := by decide +kernel
theorem dX2_doRound_50 : decode cX2_doRound 50 = .ok (.getfield 55, 3) := by decide +kernel
theorem dX2_doRound_53 : decode cX2_doRound 53 = .ok (.iconst 1, 1) := by decide +kernel
theorem dX2_doRound_54 : decode cX2_doRound 54 = .ok (.iadd, 1) := by decide +kernel
theorem dX2_doRound_55 : decode cX2_doRound 55 = .ok (.putfield 55, 3) := by decide +kernel
theorem dX2_doRound_58 : decode cX2_doRound 58 = .ok (.aload_n 0, 1) := by decide +kernel
theorem dX2_doRound_59 : decode cX2_doRound 59 = .ok (.getfield 71, 3) := by decide +kernel
theorem dX2_doRound_62 : decode cX2_doRound 62 = .ok (.iconst (-1), 1) := by decide +kernel
theorem dX2_doRound_63 : decode cX2_doRound 63 = .ok (.if_icmp .ne 10, 3) := by decide +kernel
theorem dX2_doRound_66 : decode cX2_doRound 66 = .ok (.aload_n 0, 1) := by decide +kernel
theorem dX2_doRound_67 : decode cX2_doRound 67 = .ok (.invokevirtual 90, 3) := by decide +kernel
theorem dX2_doRound_70 : decode cX2_doRound 70 = .ok (.goto 7, 3) := by decide +kernel
theorem dX2_doRound_73 : decode cX2_doRound 73 = .ok (.aload_n 0, 1) := by decide +kernel
theorem dX2_doRound_74 : decode cX2_doRound 74 = .ok (.invokevirtual 93, 3) := by decide +kernel
theorem dX2_doRound_77 : decode cX2_doRound 77 = .ok (.return_, 1) := by decide +kernel
theorem dX2_goTo_0 : decode cX2_goTo 0 = .ok (.aload_n 0, 1) := by decide +kernel
theorem dX2_goTo_1 : decode cX2_goTo 1 = .ok (.iload_n 1, 1) := by decide +kernel
theorem dX2_goTo_2 : decode cX2_goTo 2 = .ok (.putfield 96, 3) := by decide +kernel
theorem dX2_goTo_5 : decode cX2_goTo 5 = .ok (.aload_n 0, 1) := by decide +kernel
theorem dX2_goTo_6 : decode cX2_goTo 6 = .ok (.iload_n 2, 1) := by decide +kernel
theorem dX2_goTo_7 : decode cX2_goTo 7 = .ok (.putfield 99, 3) := by decide +kernel
theorem dX2_goTo_10 : decode cX2_goTo 10 = .ok (.aload_n 0, 1) := by decide +kernel
theorem dX2_goTo_11 : decode cX2_goTo 11 = .ok (.iconst (-1), 1) := by decide +kernel
theorem dX2_goTo_12 : decode cX2_goTo 12 = .ok (.putfield 71, 3) := by decide +kernel
theorem dX2_goTo_15 : decode cX2_goTo 15 = .ok (.return_, 1) := by decide +kernel
theorem dX2_enterMark_0 : decode cX2_enterMark 0 = .ok (.aload_n 0, 1) := by decide +kernel
theorem dX2_enterMark_1 : decode cX2_enterMark 1 = .ok (.getfield 32, 3) := by decide +kernel
theorem dX2_enterMark_4 : decode cX2_enterMark 4 = .ok (.aload_n 0, 1) := by decide +kernel
theorem dX2_enterMark_5 : decode cX2_enterMark 5 = .ok (.getfield 45, 3) := by decide +kernel
theorem dX2_enterMark_8 : decode cX2_enterMark 8 = .ok (.aload_n 0, 1) := by decide +kernel
theorem dX2_enterMark_9 : decode cX2_enterMark 9 = .ok (.getfield 49, 3) := by decide +kernel
theorem dX2_enterMark_12 : decode cX2_enterMark 12 = .ok (.iastore, 1) := by decide +kernel
theorem dX2_enterMark_13 : decode cX2_enterMark 13 = .ok (.aload_n 0, 1) := by decide +kernel
theorem dX2_enterMark_14 : decode cX2_enterMark 14 = .ok (.dup, 1) := by decide +kernel
theorem dX2_enterMark_15 : decode cX2_enterMark 15 = .ok (.getfield 45, 3) := by decide +kernel
theorem dX2_enterMark_18 : decode cX2_enterMark 18 = .ok (.iconst 1, 1) := by decide +kernel
theorem dX2_enterMark_19 : decode cX2_enterMark 19 = .ok (.iadd, 1) := by decide +kernel
theorem dX2_enterMark_20 : decode cX2_enterMark 20 = .ok (.putfield 45, 3) := by decide +kernel
theorem dX2_enterMark_23 : decode cX2_enterMark 23 = .ok (.aload_n 0, 1) := by decide +kernel
theorem dX2_enterMark_24 : decode cX2_enterMark 24 = .ok (.iload_n 1, 1) := by decide +kernel
theorem dX2_enterMark_25 : decode cX2_enterMark 25 = .ok (.putfield 49, 3) := by decide +kernel
theorem dX2_enterMark_28 : decode cX2_enterMark 28 = .ok (.return_, 1) := by decide +kernel
theorem dX2_leaveMark_0 : decode cX2_leaveMark 0 = .ok (.aload_n 0, 1) := by decide +kernel
theorem dX2_leaveMark_1 : decode cX2_leaveMark 1 = .ok (.getfield 45, 3) := by decide +kernel
theorem dX2_leaveMark_4 : decode cX2_leaveMark 4 = .ok (.ifCond .ne 11, 3) := by decide +kernel
theorem dX2_leaveMark_7 : decode cX2_leaveMark 7 = .ok (.aload_n 0, 1) := by decide +kernel
theorem dX2_leaveMark_8 : decode cX2_leaveMark 8 = .ok (.iconst 0, 1) := by decide +kernel
theorem dX2_leaveMark_9 : decode cX2_leaveMark 9 = .ok (.putfield 58, 3) := by decide +kernel
theorem dX2_leaveMark_12 : decode cX2_leaveMark 12 = .ok (.goto 26, 3) := by decide +kernel
theorem dX2_leaveMark_15 : decode cX2_leaveMark 15 = .ok (.aload_n 0, 1) := by decide +kernel
theorem dX2_leaveMark_16 : decode cX2_leaveMark 16 = .ok (.dup, 1) := by decide +kernel
theorem dX2_leaveMark_17 : decode cX2_leaveMark 17 = .ok (.getfield 45, 3) := by decide +kernel
theorem dX2_leaveMark_20 : decode cX2_leaveMark 20 = .ok (.iconst 1, 1) := by decide +kernel
theorem dX2_leaveMark_21 : decode cX2_leaveMark 21 = .ok (.isub, 1) := by decide +kernel
theorem dX2_leaveMark_22 : decode cX2_leaveMark 22 = .ok (.putfield 45, 3) := by decide +kernel
theorem dX2_leaveMark_25 : decode cX2_leaveMark 25 = .ok (.aload_n 0, 1) := by decide +kernel
theorem dX2_leaveMark_26 : decode cX2_leaveMark 26 = .ok (.aload_n 0, 1) := by decide +kernel
theorem dX2_leaveMark_27 : decode cX2_leaveMark 27 = .ok (.getfield 32, 3) := by decide +kernel
theorem dX2_leaveMark_30 : decode cX2_leaveMark 30 = .ok (.aload_n 0, 1) := by decide +kernel
theorem dX2_leaveMark_31 : decode cX2_leaveMark 31 = .ok (.getfield 45, 3) := by decide +kernel
theorem dX2_leaveMark_34 : decode cX2_leaveMark 34 = .ok (.iaload, 1) := by decide +kernel
theorem dX2_leaveMark_35 : decode cX2_leaveMark 35 = .ok (.putfield 49, 3) := by decide +kernel
theorem dX2_leaveMark_38 : decode cX2_leaveMark 38 = .ok (.return_, 1) := by decide +kernel
theorem dX2_beginTerm_0 : decode cX2_beginTerm 0 = .ok (.aload_n 0, 1) := by decide +kernel
theorem dX2_beginTerm_1 : decode cX2_beginTerm 1 = .ok (.getfield 36, 3) := by decide +kernel
theorem dX2_beginTerm_4 : decode cX2_beginTerm 4 = .ok (.getfield 102, 3) := by decide +kernel
theorem dX2_beginTerm_7 : decode cX2_beginTerm 7 = .ok (.aload_n 0, 1) := by decide +kernel
theorem dX2_beginTerm_8 : decode cX2_beginTerm 8 = .ok (.getfield 96, 3) := by decide +kernel
theorem dX2_beginTerm_11 : decode cX2_beginTerm 11 = .ok (.iaload, 1) := by decide +kernel
theorem dX2_beginTerm_12 : decode cX2_beginTerm 12 = .ok (.istore_n 1, 1) := by decide +kernel
theorem dX2_beginTerm_13 : decode cX2_beginTerm 13 = .ok (.aload_n 0, 1) := by decide +kernel
theorem dX2_beginTerm_14 : decode cX2_beginTerm 14 = .ok (.getfield 36, 3) := by decide +kernel
theorem dX2_beginTerm_17 : decode cX2_beginTerm 17 = .ok (.getfield 107, 3) := by decide +kernel
theorem dX2_beginTerm_20 : decode cX2_beginTerm 20 = .ok (.aload_n 0, 1) := by decide +kernel
theorem dX2_beginTerm_21 : decode cX2_beginTerm 21 = .ok (.getfield 96, 3) := by decide +kernel
theorem dX2_beginTerm_24 : decode cX2_beginTerm 24 = .ok (.iaload, 1) := by decide +kernel
theorem dX2_beginTerm_25 : decode cX2_beginTerm 25 = .ok (.tableswitch 193 0 11 #[63, 80, 97, 116, 193, 193, 193, 193, 193, 139, 152, 116], 63) := by decide +kernel
theorem dX2_beginTerm_88 : decode cX2_beginTerm 88 = .ok (.aload_n 0, 1) := by decide +kernel
theorem dX2_beginTerm_89 : decode cX2_beginTerm 89 = .ok (.aload_n 0, 1) := by decide +kernel
theorem dX2_beginTerm_90 : decode cX2_beginTerm 90 = .ok (.getfield 14, 3) := by decide +kernel
theorem dX2_beginTerm_93 : decode cX2_beginTerm 93 = .ok (.iconst 0, 1) := by decide +kernel
theorem dX2_beginTerm_94 : decode cX2_beginTerm 94 = .ok (.iload_n 1, 1) := by decide +kernel
theorem dX2_beginTerm_95 : decode cX2_beginTerm 95 = .ok (.iconst (-1), 1) := by decide +kernel
theorem dX2_beginTerm_96 : decode cX2_beginTerm 96 = .ok (.invokevirtual 110, 3) := by decide +kernel
theorem dX2_beginTerm_99 : decode cX2_beginTerm 99 = .ok (.putfield 71, 3) := by decide +kernel
theorem dX2_beginTerm_102 : decode cX2_beginTerm 102 = .ok (.goto 145, 3) := by decide +kernel
theorem dX2_beginTerm_105 : decode cX2_beginTerm 105 = .ok (.aload_n 0, 1) := by decide +kernel
theorem dX2_beginTerm_106 : decode cX2_beginTerm 106 = .ok (.aload_n 0, 1) := by decide +kernel
theorem dX2_beginTerm_107 : decode cX2_beginTerm 107 = .ok (.getfield 14, 3) := by decide +kernel
theorem dX2_beginTerm_110 : decode cX2_beginTerm 110 = .ok (.iconst 1, 1) := by decide +kernel
theorem dX2_beginTerm_111 : decode cX2_beginTerm 111 = .ok (.iload_n 1, 1) := by decide +kernel
theorem dX2_beginTerm_112 : decode cX2_beginTerm 112 = .ok (.iconst (-1), 1) := by decide +kernel
theorem dX2_beginTerm_113 : decode cX2_beginTerm 113 = .ok (.invokevirtual 110, 3) := by decide +kernel
theorem dX2_beginTerm_116 : decode cX2_beginTerm 116 = .ok (.putfield 71, 3) := by decide +kernel
theorem dX2_beginTerm_119 : decode cX2_beginTerm 119 = .ok (.goto 128, 3) := by decide +kernel
theorem dX2_beginTerm_122 : decode cX2_beginTerm 122 = .ok (.aload_n 0, 1) := by decide +kernel
theorem dX2_beginTerm_123 : decode cX2_beginTerm 123 = .ok (.aload_n 0, 1) := by decide +kernel
theorem dX2_beginTerm_124 : decode cX2_beginTerm 124 = .ok (.getfield 21, 3) := by decide +kernel
theorem dX2_beginTerm_127 : decode cX2_beginTerm 127 = .ok (.aload_n 0, 1) := by decide +kernel
theorem dX2_beginTerm_128 : decode cX2_beginTerm 128 = .ok (.getfield 99, 3) := by decide +kernel
theorem dX2_beginTerm_131 : decode cX2_beginTerm 131 = .ok (.iload_n 1, 1) := by decide +kernel
theorem dX2_beginTerm_132 : decode cX2_beginTerm 132 = .ok (.invokevirtual 114, 3) := by decide +kernel
theorem dX2_beginTerm_135 : decode cX2_beginTerm 135 = .ok (.putfield 71, 3) := by decide +kernel
theorem dX2_beginTerm_138 : decode cX2_beginTerm 138 = .ok (.goto 109, 3) := by decide +kernel
theorem dX2_beginTerm_141 : decode cX2_beginTerm 141 = .ok (.aload_n 0, 1) := by decide +kernel
theorem dX2_beginTerm_142 : decode cX2_beginTerm 142 = .ok (.aload_n 0, 1) := by decide +kernel
theorem dX2_beginTerm_143 : decode cX2_beginTerm 143 = .ok (.getfield 14, 3) := by decide +kernel
theorem dX2_beginTerm_146 : decode cX2_beginTerm 146 = .ok (.iconst 2, 1) := by decide +kernel
theorem dX2_beginTerm_147 : decode cX2_beginTerm 147 = .ok (.aload_n 0, 1) := by decide +kernel
theorem dX2_beginTerm_148 : decode cX2_beginTerm 148 = .ok (.getfield 96, 3) := by decide +kernel
theorem dX2_beginTerm_151 : decode cX2_beginTerm 151 = .ok (.aload_n 0, 1) := by decide +kernel
theorem dX2_beginTerm_152 : decode cX2_beginTerm 152 = .ok (.getfield 99, 3) := by decide +kernel
theorem dX2_beginTerm_155 : decode cX2_beginTerm 155 = .ok (.invokevirtual 110, 3) := by decide +kernel
theorem dX2_beginTerm_158 : decode cX2_beginTerm 158 = .ok (.putfield 71, 3) := by decide +kernel
theorem dX2_beginTerm_161 : decode cX2_beginTerm 161 = .ok (.goto 86, 3) := by decide +kernel
theorem dX2_beginTerm_164 : decode cX2_beginTerm 164 = .ok (.aload_n 0, 1) := by decide +kernel
theorem dX2_beginTerm_165 : decode cX2_beginTerm 165 = .ok (.iconst (-1), 1) := by decide +kernel
theorem dX2_beginTerm_166 : decode cX2_beginTerm 166 = .ok (.invokevirtual 117, 3) := by decide +kernel
theorem dX2_beginTerm_169 : decode cX2_beginTerm 169 = .ok (.aload_n 0, 1) := by decide +kernel
theorem dX2_beginTerm_170 : decode cX2_beginTerm 170 = .ok (.iload_n 1, 1) := by decide +kernel
theorem dX2_beginTerm_171 : decode cX2_beginTerm 171 = .ok (.putfield 96, 3) := by decide +kernel
theorem dX2_beginTerm_174 : decode cX2_beginTerm 174 = .ok (.goto 73, 3) := by decide +kernel
theorem dX2_beginTerm_177 : decode cX2_beginTerm 177 = .ok (.aload_n 0, 1) := by decide +kernel
theorem dX2_beginTerm_178 : decode cX2_beginTerm 178 = .ok (.aload_n 0, 1) := by decide +kernel
theorem dX2_beginTerm_179 : decode cX2_beginTerm 179 = .ok (.getfield 21, 3) := by decide +kernel
theorem dX2_beginTerm_182 : decode cX2_beginTerm 182 = .ok (.aload_n 0, 1) := by decide +kernel
theorem dX2_beginTerm_183 : decode cX2_beginTerm 183 = .ok (.getfield 14, 3) := by decide +kernel
theorem dX2_beginTerm_186 : decode cX2_beginTerm 186 = .ok (.iconst 3, 1) := by decide +kernel
theorem dX2_beginTerm_187 : decode cX2_beginTerm 187 = .ok (.aload_n 0, 1) := by decide +kernel
theorem dX2_beginTerm_188 : decode cX2_beginTerm 188 = .ok (.getfield 49, 3) := by decide +kernel
theorem dX2_beginTerm_191 : decode cX2_beginTerm 191 = .ok (.iconst (-1), 1) := by decide +kernel
theorem dX2_beginTerm_192 : decode cX2_beginTerm 192 = .ok (.invokevirtual 110, 3) := by decide +kernel
theorem dX2_beginTerm_195 : decode cX2_beginTerm 195 = .ok (.aload_n 0, 1) := by decide +kernel
theorem dX2_beginTerm_196 : decode cX2_beginTerm 196 = .ok (.getfield 99, 3) := by decide +kernel
theorem dX2_beginTerm_199 : decode cX2_beginTerm 199 = .ok (.invokevirtual 121, 3) := by decide +kernel
theorem dX2_beginTerm_202 : decode cX2_beginTerm 202 = .ok (.putfield 99, 3) := by decide +kernel
theorem dX2_beginTerm_205 : decode cX2_beginTerm 205 = .ok (.aload_n 0, 1) := by decide +kernel
theorem dX2_beginTerm_206 : decode cX2_beginTerm 206 = .ok (.iconst (-1), 1) := by decide +kernel
theorem dX2_beginTerm_207 : decode cX2_beginTerm 207 = .ok (.putfield 49, 3) := by decide +kernel
theorem dX2_beginTerm_210 : decode cX2_beginTerm 210 = .ok (.aload_n 0, 1) := by decide +kernel
theorem dX2_beginTerm_211 : decode cX2_beginTerm 211 = .ok (.iload_n 1, 1) := by decide +kernel
theorem dX2_beginTerm_212 : decode cX2_beginTerm 212 = .ok (.putfield 96, 3) := by decide +kernel
theorem dX2_beginTerm_215 : decode cX2_beginTerm 215 = .ok (.goto 32, 3) := by decide +kernel
theorem dX2_beginTerm_218 : decode cX2_beginTerm 218 = .ok (.aload_n 0, 1) := by decide +kernel
theorem dX2_beginTerm_219 : decode cX2_beginTerm 219 = .ok (.aload_n 0, 1) := by decide +kernel
theorem dX2_beginTerm_220 : decode cX2_beginTerm 220 = .ok (.getfield 28, 3) := by decide +kernel
theorem dX2_beginTerm_223 : decode cX2_beginTerm 223 = .ok (.aload_n 0, 1) := by decide +kernel
theorem dX2_beginTerm_224 : decode cX2_beginTerm 224 = .ok (.getfield 96, 3) := by decide +kernel
theorem dX2_beginTerm_227 : decode cX2_beginTerm 227 = .ok (.aload_n 0, 1) := by decide +kernel
theorem dX2_beginTerm_228 : decode cX2_beginTerm 228 = .ok (.getfield 99, 3) := by decide +kernel
theorem dX2_beginTerm_231 : decode cX2_beginTerm 231 = .ok (.iconst (-1), 1) := by decide +kernel
theorem dX2_beginTerm_232 : decode cX2_beginTerm 232 = .ok (.aload_n 0, 1) := by decide +kernel
theorem dX2_beginTerm_233 : decode cX2_beginTerm 233 = .ok (.getfield 49, 3) := by decide +kernel
theorem dX2_beginTerm_236 : decode cX2_beginTerm 236 = .ok (.invokevirtual 124, 3) := by decide +kernel
theorem dX2_beginTerm_239 : decode cX2_beginTerm 239 = .ok (.putfield 49, 3) := by decide +kernel
theorem dX2_beginTerm_242 : decode cX2_beginTerm 242 = .ok (.aload_n 0, 1) := by decide +kernel
theorem dX2_beginTerm_243 : decode cX2_beginTerm 243 = .ok (.iload_n 1, 1) := by decide +kernel
theorem dX2_beginTerm_244 : decode cX2_beginTerm 244 = .ok (.putfield 96, 3) := by decide +kernel
theorem dX2_beginTerm_247 : decode cX2_beginTerm 247 = .ok (.return_, 1) := by decide +kernel
theorem dX2_bringValue_0 : decode cX2_bringValue 0 = .ok (.aload_n 0, 1) := by decide +kernel
theorem dX2_bringValue_1 : decode cX2_bringValue 1 = .ok (.getfield 49, 3) := by decide +kernel
theorem dX2_bringValue_4 : decode cX2_bringValue 4 = .ok (.istore_n 1, 1) := by decide +kernel
theorem dX2_bringValue_5 : decode cX2_bringValue 5 = .ok (.aload_n 0, 1) := by decide +kernel
theorem dX2_bringValue_6 : decode cX2_bringValue 6 = .ok (.getfield 28, 3) := by decide +kernel
theorem dX2_bringValue_9 : decode cX2_bringValue 9 = .ok (.getfield 127, 3) := by decide +kernel
theorem dX2_bringValue_12 : decode cX2_bringValue 12 = .ok (.iload_n 1, 1) := by decide +kernel
theorem dX2_bringValue_13 : decode cX2_bringValue 13 = .ok (.iaload, 1) := by decide +kernel
theorem dX2_bringValue_14 : decode cX2_bringValue 14 = .ok (.istore_n 2, 1) := by decide +kernel
theorem dX2_bringValue_15 : decode cX2_bringValue 15 = .ok (.aload_n 0, 1) := by decide +kernel
theorem dX2_bringValue_16 : decode cX2_bringValue 16 = .ok (.getfield 36, 3) := by decide +kernel
theorem dX2_bringValue_19 : decode cX2_bringValue 19 = .ok (.getfield 107, 3) := by decide +kernel
theorem dX2_bringValue_22 : decode cX2_bringValue 22 = .ok (.iload_n 2, 1) := by decide +kernel
theorem dX2_bringValue_23 : decode cX2_bringValue 23 = .ok (.iaload, 1) := by decide +kernel
theorem dX2_bringValue_24 : decode cX2_bringValue 24 = .ok (.istore_n 3, 1) := by decide +kernel
theorem dX2_bringValue_25 : decode cX2_bringValue 25 = .ok (.aload_n 0, 1) := by decide +kernel
theorem dX2_bringValue_26 : decode cX2_bringValue 26 = .ok (.aload_n 0, 1) := by decide +kernel
theorem dX2_bringValue_27 : decode cX2_bringValue 27 = .ok (.getfield 28, 3) := by decide +kernel
theorem dX2_bringValue_30 : decode cX2_bringValue 30 = .ok (.getfield 129, 3) := by decide +kernel
theorem dX2_bringValue_33 : decode cX2_bringValue 33 = .ok (.iload_n 1, 1) := by decide +kernel
theorem dX2_bringValue_34 : decode cX2_bringValue 34 = .ok (.iaload, 1) := by decide +kernel
theorem dX2_bringValue_35 : decode cX2_bringValue 35 = .ok (.putfield 49, 3) := by decide +kernel
theorem dX2_bringValue_38 : decode cX2_bringValue 38 = .ok (.iload_n 3, 1) := by decide +kernel
theorem dX2_bringValue_39 : decode cX2_bringValue 39 = .ok (.bipush 7, 2) := by decide +kernel
theorem dX2_bringValue_41 : decode cX2_bringValue 41 = .ok (.if_icmp .ne 20, 3) := by decide +kernel
theorem dX2_bringValue_44 : decode cX2_bringValue 44 = .ok (.aload_n 0, 1) := by decide +kernel
theorem dX2_bringValue_45 : decode cX2_bringValue 45 = .ok (.iload_n 2, 1) := by decide +kernel
theorem dX2_bringValue_46 : decode cX2_bringValue 46 = .ok (.aload_n 0, 1) := by decide +kernel
theorem dX2_bringValue_47 : decode cX2_bringValue 47 = .ok (.getfield 28, 3) := by decide +kernel
theorem dX2_bringValue_50 : decode cX2_bringValue 50 = .ok (.getfield 134, 3) := by decide +kernel
theorem dX2_bringValue_53 : decode cX2_bringValue 53 = .ok (.iload_n 1, 1) := by decide +kernel
theorem dX2_bringValue_54 : decode cX2_bringValue 54 = .ok (.iaload, 1) := by decide +kernel
theorem dX2_bringValue_55 : decode cX2_bringValue 55 = .ok (.invokevirtual 136, 3) := by decide +kernel
theorem dX2_bringValue_58 : decode cX2_bringValue 58 = .ok (.goto 155, 3) := by decide +kernel
theorem dX2_bringValue_61 : decode cX2_bringValue 61 = .ok (.iload_n 3, 1) := by decide +kernel
theorem dX2_bringValue_62 : decode cX2_bringValue 62 = .ok (.bipush 8, 2) := by decide +kernel
theorem dX2_bringValue_64 : decode cX2_bringValue 64 = .ok (.if_icmp .ne 39, 3) := by decide +kernel
theorem dX2_bringValue_67 : decode cX2_bringValue 67 = .ok (.aload_n 0, 1) := by decide +kernel
theorem dX2_bringValue_68 : decode cX2_bringValue 68 = .ok (.aload_n 0, 1) := by decide +kernel
theorem dX2_bringValue_69 : decode cX2_bringValue 69 = .ok (.getfield 36, 3) := by decide +kernel
theorem dX2_bringValue_72 : decode cX2_bringValue 72 = .ok (.getfield 139, 3) := by decide +kernel
theorem dX2_bringValue_75 : decode cX2_bringValue 75 = .ok (.iload_n 2, 1) := by decide +kernel
theorem dX2_bringValue_76 : decode cX2_bringValue 76 = .ok (.iaload, 1) := by decide +kernel
theorem dX2_bringValue_77 : decode cX2_bringValue 77 = .ok (.aload_n 0, 1) := by decide +kernel
theorem dX2_bringValue_78 : decode cX2_bringValue 78 = .ok (.getfield 21, 3) := by decide +kernel
theorem dX2_bringValue_81 : decode cX2_bringValue 81 = .ok (.aload_n 0, 1) := by decide +kernel
theorem dX2_bringValue_82 : decode cX2_bringValue 82 = .ok (.getfield 71, 3) := by decide +kernel
theorem dX2_bringValue_85 : decode cX2_bringValue 85 = .ok (.aload_n 0, 1) := by decide +kernel
theorem dX2_bringValue_86 : decode cX2_bringValue 86 = .ok (.getfield 28, 3) := by decide +kernel
theorem dX2_bringValue_89 : decode cX2_bringValue 89 = .ok (.getfield 134, 3) := by decide +kernel
theorem dX2_bringValue_92 : decode cX2_bringValue 92 = .ok (.iload_n 1, 1) := by decide +kernel
theorem dX2_bringValue_93 : decode cX2_bringValue 93 = .ok (.iaload, 1) := by decide +kernel
theorem dX2_bringValue_94 : decode cX2_bringValue 94 = .ok (.invokevirtual 121, 3) := by decide +kernel
theorem dX2_bringValue_97 : decode cX2_bringValue 97 = .ok (.invokevirtual 61, 3) := by decide +kernel
theorem dX2_bringValue_100 : decode cX2_bringValue 100 = .ok (.goto 113, 3) := by decide +kernel
theorem dX2_bringValue_103 : decode cX2_bringValue 103 = .ok (.aload_n 0, 1) := by decide +kernel
theorem dX2_bringValue_104 : decode cX2_bringValue 104 = .ok (.getfield 28, 3) := by decide +kernel
theorem dX2_bringValue_107 : decode cX2_bringValue 107 = .ok (.getfield 142, 3) := by decide +kernel
theorem dX2_bringValue_110 : decode cX2_bringValue 110 = .ok (.iload_n 1, 1) := by decide +kernel
theorem dX2_bringValue_111 : decode cX2_bringValue 111 = .ok (.iaload, 1) := by decide +kernel
theorem dX2_bringValue_112 : decode cX2_bringValue 112 = .ok (.iconst (-1), 1) := by decide +kernel
theorem dX2_bringValue_113 : decode cX2_bringValue 113 = .ok (.if_icmp .ne 57, 3) := by decide +kernel
theorem dX2_bringValue_116 : decode cX2_bringValue 116 = .ok (.aload_n 0, 1) := by decide +kernel
theorem dX2_bringValue_117 : decode cX2_bringValue 117 = .ok (.aload_n 0, 1) := by decide +kernel
theorem dX2_bringValue_118 : decode cX2_bringValue 118 = .ok (.getfield 28, 3) := by decide +kernel
theorem dX2_bringValue_121 : decode cX2_bringValue 121 = .ok (.iload_n 2, 1) := by decide +kernel
theorem dX2_bringValue_122 : decode cX2_bringValue 122 = .ok (.aload_n 0, 1) := by decide +kernel
theorem dX2_bringValue_123 : decode cX2_bringValue 123 = .ok (.getfield 28, 3) := by decide +kernel
theorem dX2_bringValue_126 : decode cX2_bringValue 126 = .ok (.getfield 134, 3) := by decide +kernel
theorem dX2_bringValue_129 : decode cX2_bringValue 129 = .ok (.iload_n 1, 1) := by decide +kernel
theorem dX2_bringValue_130 : decode cX2_bringValue 130 = .ok (.iaload, 1) := by decide +kernel
theorem dX2_bringValue_131 : decode cX2_bringValue 131 = .ok (.aload_n 0, 1) := by decide +kernel
theorem dX2_bringValue_132 : decode cX2_bringValue 132 = .ok (.getfield 71, 3) := by decide +kernel
theorem dX2_bringValue_135 : decode cX2_bringValue 135 = .ok (.aload_n 0, 1) := by decide +kernel
theorem dX2_bringValue_136 : decode cX2_bringValue 136 = .ok (.getfield 49, 3) := by decide +kernel
theorem dX2_bringValue_139 : decode cX2_bringValue 139 = .ok (.invokevirtual 124, 3) := by decide +kernel
theorem dX2_bringValue_142 : decode cX2_bringValue 142 = .ok (.putfield 49, 3) := by decide +kernel
theorem dX2_bringValue_145 : decode cX2_bringValue 145 = .ok (.aload_n 0, 1) := by decide +kernel
theorem dX2_bringValue_146 : decode cX2_bringValue 146 = .ok (.aload_n 0, 1) := by decide +kernel
theorem dX2_bringValue_147 : decode cX2_bringValue 147 = .ok (.getfield 36, 3) := by decide +kernel
theorem dX2_bringValue_150 : decode cX2_bringValue 150 = .ok (.getfield 139, 3) := by decide +kernel
theorem dX2_bringValue_153 : decode cX2_bringValue 153 = .ok (.iload_n 2, 1) := by decide +kernel
theorem dX2_bringValue_154 : decode cX2_bringValue 154 = .ok (.iaload, 1) := by decide +kernel
theorem dX2_bringValue_155 : decode cX2_bringValue 155 = .ok (.aload_n 0, 1) := by decide +kernel
theorem dX2_bringValue_156 : decode cX2_bringValue 156 = .ok (.getfield 28, 3) := by decide +kernel
theorem dX2_bringValue_159 : decode cX2_bringValue 159 = .ok (.getfield 134, 3) := by decide +kernel
theorem dX2_bringValue_162 : decode cX2_bringValue 162 = .ok (.iload_n 1, 1) := by decide +kernel
theorem dX2_bringValue_163 : decode cX2_bringValue 163 = .ok (.iaload, 1) := by decide +kernel
theorem dX2_bringValue_164 : decode cX2_bringValue 164 = .ok (.invokevirtual 61, 3) := by decide +kernel
theorem dX2_bringValue_167 : decode cX2_bringValue 167 = .ok (.goto 46, 3) := by decide +kernel
theorem dX2_bringValue_170 : decode cX2_bringValue 170 = .ok (.iload_n 3, 1) := by decide +kernel
theorem dX2_bringValue_171 : decode cX2_bringValue 171 = .ok (.iconst 4, 1) := by decide +kernel
theorem dX2_bringValue_172 : decode cX2_bringValue 172 = .ok (.if_icmp .ne 23, 3) := by decide +kernel
theorem dX2_bringValue_175 : decode cX2_bringValue 175 = .ok (.aload_n 0, 1) := by decide +kernel
theorem dX2_bringValue_176 : decode cX2_bringValue 176 = .ok (.aload_n 0, 1) := by decide +kernel
theorem dX2_bringValue_177 : decode cX2_bringValue 177 = .ok (.getfield 28, 3) := by decide +kernel
theorem dX2_bringValue_180 : decode cX2_bringValue 180 = .ok (.getfield 142, 3) := by decide +kernel
theorem dX2_bringValue_183 : decode cX2_bringValue 183 = .ok (.iload_n 1, 1) := by decide +kernel
theorem dX2_bringValue_184 : decode cX2_bringValue 184 = .ok (.iaload, 1) := by decide +kernel
theorem dX2_bringValue_185 : decode cX2_bringValue 185 = .ok (.aload_n 0, 1) := by decide +kernel
theorem dX2_bringValue_186 : decode cX2_bringValue 186 = .ok (.getfield 71, 3) := by decide +kernel
theorem dX2_bringValue_189 : decode cX2_bringValue 189 = .ok (.invokevirtual 145, 3) := by decide +kernel
theorem dX2_bringValue_192 : decode cX2_bringValue 192 = .ok (.goto 21, 3) := by decide +kernel
theorem dX2_bringValue_195 : decode cX2_bringValue 195 = .ok (.aload_n 0, 1) := by decide +kernel
theorem dX2_bringValue_196 : decode cX2_bringValue 196 = .ok (.iload_n 3, 1) := by decide +kernel
theorem dX2_bringValue_197 : decode cX2_bringValue 197 = .ok (.aload_n 0, 1) := by decide +kernel
theorem dX2_bringValue_198 : decode cX2_bringValue 198 = .ok (.getfield 28, 3) := by decide +kernel
theorem dX2_bringValue_201 : decode cX2_bringValue 201 = .ok (.getfield 142, 3) := by decide +kernel
theorem dX2_bringValue_204 : decode cX2_bringValue 204 = .ok (.iload_n 1, 1) := by decide +kernel
theorem dX2_bringValue_205 : decode cX2_bringValue 205 = .ok (.iaload, 1) := by decide +kernel
theorem dX2_bringValue_206 : decode cX2_bringValue 206 = .ok (.aload_n 0, 1) := by decide +kernel
theorem dX2_bringValue_207 : decode cX2_bringValue 207 = .ok (.getfield 71, 3) := by decide +kernel
theorem dX2_bringValue_210 : decode cX2_bringValue 210 = .ok (.invokevirtual 148, 3) := by decide +kernel
theorem dX2_bringValue_213 : decode cX2_bringValue 213 = .ok (.return_, 1) := by decide +kernel
theorem dX2_choose_0 : decode cX2_choose 0 = .ok (.aload_n 0, 1) := by decide +kernel
theorem dX2_choose_1 : decode cX2_choose 1 = .ok (.getfield 14, 3) := by decide +kernel
theorem dX2_choose_4 : decode cX2_choose 4 = .ok (.getfield 68, 3) := by decide +kernel
theorem dX2_choose_7 : decode cX2_choose 7 = .ok (.aload_n 0, 1) := by decide +kernel
theorem dX2_choose_8 : decode cX2_choose 8 = .ok (.getfield 71, 3) := by decide +kernel
theorem dX2_choose_11 : decode cX2_choose 11 = .ok (.iaload, 1) := by decide +kernel
theorem dX2_choose_12 : decode cX2_choose 12 = .ok (.iconst 1, 1) := by decide +kernel
theorem dX2_choose_13 : decode cX2_choose 13 = .ok (.if_icmp .eq 11, 3) := by decide +kernel
theorem dX2_choose_16 : decode cX2_choose 16 = .ok (.aload_n 0, 1) := by decide +kernel
theorem dX2_choose_17 : decode cX2_choose 17 = .ok (.iconst 1, 1) := by decide +kernel
theorem dX2_choose_18 : decode cX2_choose 18 = .ok (.putfield 58, 3) := by decide +kernel
theorem dX2_choose_21 : decode cX2_choose 21 = .ok (.goto 50, 3) := by decide +kernel
theorem dX2_choose_24 : decode cX2_choose 24 = .ok (.aload_n 0, 1) := by decide +kernel
theorem dX2_choose_25 : decode cX2_choose 25 = .ok (.getfield 14, 3) := by decide +kernel
theorem dX2_choose_28 : decode cX2_choose 28 = .ok (.getfield 84, 3) := by decide +kernel
theorem dX2_choose_31 : decode cX2_choose 31 = .ok (.aload_n 0, 1) := by decide +kernel
theorem dX2_choose_32 : decode cX2_choose 32 = .ok (.getfield 71, 3) := by decide +kernel
theorem dX2_choose_35 : decode cX2_choose 35 = .ok (.iaload, 1) := by decide +kernel
theorem dX2_choose_36 : decode cX2_choose 36 = .ok (.iconst 1, 1) := by decide +kernel
theorem dX2_choose_37 : decode cX2_choose 37 = .ok (.if_icmp .ne 20, 3) := by decide +kernel
theorem dX2_choose_40 : decode cX2_choose 40 = .ok (.aload_n 0, 1) := by decide +kernel
theorem dX2_choose_41 : decode cX2_choose 41 = .ok (.aload_n 0, 1) := by decide +kernel
theorem dX2_choose_42 : decode cX2_choose 42 = .ok (.getfield 36, 3) := by decide +kernel
theorem dX2_choose_45 : decode cX2_choose 45 = .ok (.getfield 139, 3) := by decide +kernel
theorem dX2_choose_48 : decode cX2_choose 48 = .ok (.iload_n 1, 1) := by decide +kernel
theorem dX2_choose_49 : decode cX2_choose 49 = .ok (.iaload, 1) := by decide +kernel
theorem dX2_choose_50 : decode cX2_choose 50 = .ok (.iload_n 2, 1) := by decide +kernel
theorem dX2_choose_51 : decode cX2_choose 51 = .ok (.invokevirtual 61, 3) := by decide +kernel
theorem dX2_choose_54 : decode cX2_choose 54 = .ok (.goto 17, 3) := by decide +kernel
theorem dX2_choose_57 : decode cX2_choose 57 = .ok (.aload_n 0, 1) := by decide +kernel
theorem dX2_choose_58 : decode cX2_choose 58 = .ok (.aload_n 0, 1) := by decide +kernel
theorem dX2_choose_59 : decode cX2_choose 59 = .ok (.getfield 36, 3) := by decide +kernel
theorem dX2_choose_62 : decode cX2_choose 62 = .ok (.getfield 152, 3) := by decide +kernel
theorem dX2_choose_65 : decode cX2_choose 65 = .ok (.iload_n 1, 1) := by decide +kernel
theorem dX2_choose_66 : decode cX2_choose 66 = .ok (.iaload, 1) := by decide +kernel
theorem dX2_choose_67 : decode cX2_choose 67 = .ok (.iload_n 2, 1) := by decide +kernel
theorem dX2_choose_68 : decode cX2_choose 68 = .ok (.invokevirtual 61, 3) := by decide +kernel
theorem dX2_choose_71 : decode cX2_choose 71 = .ok (.return_, 1) := by decide +kernel
theorem dX2_callWith_0 : decode cX2_callWith 0 = .ok (.aload_n 0, 1) := by decide +kernel
theorem dX2_callWith_1 : decode cX2_callWith 1 = .ok (.getfield 14, 3) := by decide +kernel
theorem dX2_callWith_4 : decode cX2_callWith 4 = .ok (.getfield 68, 3) := by decide +kernel
theorem dX2_callWith_7 : decode cX2_callWith 7 = .ok (.iload_n 1, 1) := by decide +kernel
theorem dX2_callWith_8 : decode cX2_callWith 8 = .ok (.iaload, 1) := by decide +kernel
theorem dX2_callWith_9 : decode cX2_callWith 9 = .ok (.istore_n 3, 1) := by decide +kernel
theorem dX2_callWith_10 : decode cX2_callWith 10 = .ok (.iload_n 3, 1) := by decide +kernel
theorem dX2_callWith_11 : decode cX2_callWith 11 = .ok (.iconst 3, 1) := by decide +kernel
theorem dX2_callWith_12 : decode cX2_callWith 12 = .ok (.if_icmp .ne 19, 3) := by decide +kernel
theorem dX2_callWith_15 : decode cX2_callWith 15 = .ok (.aload_n 0, 1) := by decide +kernel
theorem dX2_callWith_16 : decode cX2_callWith 16 = .ok (.aload_n 0, 1) := by decide +kernel
theorem dX2_callWith_17 : decode cX2_callWith 17 = .ok (.getfield 14, 3) := by decide +kernel
theorem dX2_callWith_20 : decode cX2_callWith 20 = .ok (.getfield 84, 3) := by decide +kernel
theorem dX2_callWith_23 : decode cX2_callWith 23 = .ok (.iload_n 1, 1) := by decide +kernel
theorem dX2_callWith_24 : decode cX2_callWith 24 = .ok (.iaload, 1) := by decide +kernel
theorem dX2_callWith_25 : decode cX2_callWith 25 = .ok (.invokevirtual 117, 3) := by decide +kernel
theorem dX2_callWith_28 : decode cX2_callWith 28 = .ok (.goto 89, 3) := by decide +kernel
theorem dX2_callWith_31 : decode cX2_callWith 31 = .ok (.iload_n 3, 1) := by decide +kernel
theorem dX2_callWith_32 : decode cX2_callWith 32 = .ok (.iconst 2, 1) := by decide +kernel
theorem dX2_callWith_33 : decode cX2_callWith 33 = .ok (.if_icmp .ne 79, 3) := by decide +kernel
theorem dX2_callWith_36 : decode cX2_callWith 36 = .ok (.aload_n 0, 1) := by decide +kernel
theorem dX2_callWith_37 : decode cX2_callWith 37 = .ok (.getfield 14, 3) := by decide +kernel
theorem dX2_callWith_40 : decode cX2_callWith 40 = .ok (.getfield 84, 3) := by decide +kernel
theorem dX2_callWith_43 : decode cX2_callWith 43 = .ok (.iload_n 1, 1) := by decide +kernel
theorem dX2_callWith_44 : decode cX2_callWith 44 = .ok (.iaload, 1) := by decide +kernel
theorem dX2_callWith_45 : decode cX2_callWith 45 = .ok (.istore 4, 2) := by decide +kernel
theorem dX2_callWith_47 : decode cX2_callWith 47 = .ok (.aload_n 0, 1) := by decide +kernel
theorem dX2_callWith_48 : decode cX2_callWith 48 = .ok (.getfield 14, 3) := by decide +kernel
theorem dX2_callWith_51 : decode cX2_callWith 51 = .ok (.getfield 155, 3) := by decide +kernel
theorem dX2_callWith_54 : decode cX2_callWith 54 = .ok (.iload_n 1, 1) := by decide +kernel
theorem dX2_callWith_55 : decode cX2_callWith 55 = .ok (.iaload, 1) := by decide +kernel
theorem dX2_callWith_56 : decode cX2_callWith 56 = .ok (.istore 5, 2) := by decide +kernel
theorem dX2_callWith_58 : decode cX2_callWith 58 = .ok (.aload_n 0, 1) := by decide +kernel
theorem dX2_callWith_59 : decode cX2_callWith 59 = .ok (.getfield 36, 3) := by decide +kernel
theorem dX2_callWith_62 : decode cX2_callWith 62 = .ok (.getfield 107, 3) := by decide +kernel
theorem dX2_callWith_65 : decode cX2_callWith 65 = .ok (.iload 4, 2) := by decide +kernel
theorem dX2_callWith_67 : decode cX2_callWith 67 = .ok (.iaload, 1) := by decide +kernel
theorem dX2_callWith_68 : decode cX2_callWith 68 = .ok (.bipush 11, 2) := by decide +kernel
theorem dX2_callWith_70 : decode cX2_callWith 70 = .ok (.if_icmp .ne 15, 3) := by decide +kernel
theorem dX2_callWith_73 : decode cX2_callWith 73 = .ok (.aload_n 0, 1) := by decide +kernel
theorem dX2_callWith_74 : decode cX2_callWith 74 = .ok (.getfield 21, 3) := by decide +kernel
theorem dX2_callWith_77 : decode cX2_callWith 77 = .ok (.iload_n 1, 1) := by decide +kernel
theorem dX2_callWith_78 : decode cX2_callWith 78 = .ok (.iload 5, 2) := by decide +kernel
theorem dX2_callWith_80 : decode cX2_callWith 80 = .ok (.invokevirtual 121, 3) := by decide +kernel
theorem dX2_callWith_83 : decode cX2_callWith 83 = .ok (.istore 5, 2) := by decide +kernel
theorem dX2_callWith_85 : decode cX2_callWith 85 = .ok (.aload_n 0, 1) := by decide +kernel
theorem dX2_callWith_86 : decode cX2_callWith 86 = .ok (.aload_n 0, 1) := by decide +kernel
theorem dX2_callWith_87 : decode cX2_callWith 87 = .ok (.getfield 36, 3) := by decide +kernel
theorem dX2_callWith_90 : decode cX2_callWith 90 = .ok (.getfield 102, 3) := by decide +kernel
theorem dX2_callWith_93 : decode cX2_callWith 93 = .ok (.iload 4, 2) := by decide +kernel
theorem dX2_callWith_95 : decode cX2_callWith 95 = .ok (.iaload, 1) := by decide +kernel
theorem dX2_callWith_96 : decode cX2_callWith 96 = .ok (.aload_n 0, 1) := by decide +kernel
theorem dX2_callWith_97 : decode cX2_callWith 97 = .ok (.getfield 21, 3) := by decide +kernel
theorem dX2_callWith_100 : decode cX2_callWith 100 = .ok (.iload_n 2, 1) := by decide +kernel
theorem dX2_callWith_101 : decode cX2_callWith 101 = .ok (.iload 5, 2) := by decide +kernel
theorem dX2_callWith_103 : decode cX2_callWith 103 = .ok (.invokevirtual 121, 3) := by decide +kernel
theorem dX2_callWith_106 : decode cX2_callWith 106 = .ok (.invokevirtual 61, 3) := by decide +kernel
theorem dX2_callWith_109 : decode cX2_callWith 109 = .ok (.goto 8, 3) := by decide +kernel
theorem dX2_callWith_112 : decode cX2_callWith 112 = .ok (.aload_n 0, 1) := by decide +kernel
theorem dX2_callWith_113 : decode cX2_callWith 113 = .ok (.iconst 1, 1) := by decide +kernel
theorem dX2_callWith_114 : decode cX2_callWith 114 = .ok (.putfield 58, 3) := by decide +kernel
theorem dX2_callWith_117 : decode cX2_callWith 117 = .ok (.return_, 1) := by decide +kernel
theorem dX2_joinNumbers_0 : decode cX2_joinNumbers 0 = .ok (.aload_n 0, 1) := by decide +kernel
theorem dX2_joinNumbers_1 : decode cX2_joinNumbers 1 = .ok (.getfield 14, 3) := by decide +kernel
theorem dX2_joinNumbers_4 : decode cX2_joinNumbers 4 = .ok (.getfield 68, 3) := by decide +kernel
theorem dX2_joinNumbers_7 : decode cX2_joinNumbers 7 = .ok (.iload_n 2, 1) := by decide +kernel
theorem dX2_joinNumbers_8 : decode cX2_joinNumbers 8 = .ok (.iaload, 1) := by decide +kernel
theorem dX2_joinNumbers_9 : decode cX2_joinNumbers 9 = .ok (.ifCond .ne 15, 3) := by decide +kernel
theorem dX2_joinNumbers_12 : decode cX2_joinNumbers 12 = .ok (.aload_n 0, 1) := by decide +kernel
theorem dX2_joinNumbers_13 : decode cX2_joinNumbers 13 = .ok (.getfield 14, 3) := by decide +kernel
theorem dX2_joinNumbers_16 : decode cX2_joinNumbers 16 = .ok (.getfield 68, 3) := by decide +kernel
theorem dX2_joinNumbers_19 : decode cX2_joinNumbers 19 = .ok (.iload_n 3, 1) := by decide +kernel
theorem dX2_joinNumbers_20 : decode cX2_joinNumbers 20 = .ok (.iaload, 1) := by decide +kernel
theorem dX2_joinNumbers_21 : decode cX2_joinNumbers 21 = .ok (.ifCond .eq 11, 3) := by decide +kernel
theorem dX2_joinNumbers_24 : decode cX2_joinNumbers 24 = .ok (.aload_n 0, 1) := by decide +kernel
theorem dX2_joinNumbers_25 : decode cX2_joinNumbers 25 = .ok (.iconst 1, 1) := by decide +kernel
theorem dX2_joinNumbers_26 : decode cX2_joinNumbers 26 = .ok (.putfield 58, 3) := by decide +kernel
theorem dX2_joinNumbers_29 : decode cX2_joinNumbers 29 = .ok (.goto 82, 3) := by decide +kernel
theorem dX2_joinNumbers_32 : decode cX2_joinNumbers 32 = .ok (.iload_n 1, 1) := by decide +kernel
theorem dX2_joinNumbers_33 : decode cX2_joinNumbers 33 = .ok (.iconst 5, 1) := by decide +kernel
theorem dX2_joinNumbers_34 : decode cX2_joinNumbers 34 = .ok (.if_icmp .ne 38, 3) := by decide +kernel
theorem dX2_joinNumbers_37 : decode cX2_joinNumbers 37 = .ok (.aload_n 0, 1) := by decide +kernel
theorem dX2_joinNumbers_38 : decode cX2_joinNumbers 38 = .ok (.aload_n 0, 1) := by decide +kernel
theorem dX2_joinNumbers_39 : decode cX2_joinNumbers 39 = .ok (.getfield 14, 3) := by decide +kernel
theorem dX2_joinNumbers_42 : decode cX2_joinNumbers 42 = .ok (.iconst 0, 1) := by decide +kernel
theorem dX2_joinNumbers_43 : decode cX2_joinNumbers 43 = .ok (.aload_n 0, 1) := by decide +kernel
theorem dX2_joinNumbers_44 : decode cX2_joinNumbers 44 = .ok (.getfield 14, 3) := by decide +kernel
theorem dX2_joinNumbers_47 : decode cX2_joinNumbers 47 = .ok (.getfield 84, 3) := by decide +kernel
theorem dX2_joinNumbers_50 : decode cX2_joinNumbers 50 = .ok (.iload_n 2, 1) := by decide +kernel
theorem dX2_joinNumbers_51 : decode cX2_joinNumbers 51 = .ok (.iaload, 1) := by decide +kernel
theorem dX2_joinNumbers_52 : decode cX2_joinNumbers 52 = .ok (.aload_n 0, 1) := by decide +kernel
theorem dX2_joinNumbers_53 : decode cX2_joinNumbers 53 = .ok (.getfield 14, 3) := by decide +kernel
theorem dX2_joinNumbers_56 : decode cX2_joinNumbers 56 = .ok (.getfield 84, 3) := by decide +kernel
theorem dX2_joinNumbers_59 : decode cX2_joinNumbers 59 = .ok (.iload_n 3, 1) := by decide +kernel
theorem dX2_joinNumbers_60 : decode cX2_joinNumbers 60 = .ok (.iaload, 1) := by decide +kernel
theorem dX2_joinNumbers_61 : decode cX2_joinNumbers 61 = .ok (.iadd, 1) := by decide +kernel
theorem dX2_joinNumbers_62 : decode cX2_joinNumbers 62 = .ok (.iconst (-1), 1) := by decide +kernel
theorem dX2_joinNumbers_63 : decode cX2_joinNumbers 63 = .ok (.invokevirtual 110, 3) := by decide +kernel
theorem dX2_joinNumbers_66 : decode cX2_joinNumbers 66 = .ok (.putfield 71, 3) := by decide +kernel
theorem dX2_joinNumbers_69 : decode cX2_joinNumbers 69 = .ok (.goto 42, 3) := by decide +kernel
theorem dX2_joinNumbers_72 : decode cX2_joinNumbers 72 = .ok (.aload_n 0, 1) := by decide +kernel
theorem dX2_joinNumbers_73 : decode cX2_joinNumbers 73 = .ok (.aload_n 0, 1) := by decide +kernel
theorem dX2_joinNumbers_74 : decode cX2_joinNumbers 74 = .ok (.getfield 14, 3) := by decide +kernel
theorem dX2_joinNumbers_77 : decode cX2_joinNumbers 77 = .ok (.iconst 1, 1) := by decide +kernel
theorem dX2_joinNumbers_78 : decode cX2_joinNumbers 78 = .ok (.aload_n 0, 1) := by decide +kernel
theorem dX2_joinNumbers_79 : decode cX2_joinNumbers 79 = .ok (.getfield 14, 3) := by decide +kernel
theorem dX2_joinNumbers_82 : decode cX2_joinNumbers 82 = .ok (.getfield 84, 3) := by decide +kernel
theorem dX2_joinNumbers_85 : decode cX2_joinNumbers 85 = .ok (.iload_n 2, 1) := by decide +kernel
theorem dX2_joinNumbers_86 : decode cX2_joinNumbers 86 = .ok (.iaload, 1) := by decide +kernel
theorem dX2_joinNumbers_87 : decode cX2_joinNumbers 87 = .ok (.aload_n 0, 1) := by decide +kernel
theorem dX2_joinNumbers_88 : decode cX2_joinNumbers 88 = .ok (.getfield 14, 3) := by decide +kernel
theorem dX2_joinNumbers_91 : decode cX2_joinNumbers 91 = .ok (.getfield 84, 3) := by decide +kernel
theorem dX2_joinNumbers_94 : decode cX2_joinNumbers 94 = .ok (.iload_n 3, 1) := by decide +kernel
theorem dX2_joinNumbers_95 : decode cX2_joinNumbers 95 = .ok (.iaload, 1) := by decide +kernel
theorem dX2_joinNumbers_96 : decode cX2_joinNumbers 96 = .ok (.if_icmp .ge 7, 3) := by decide +kernel
theorem dX2_joinNumbers_99 : decode cX2_joinNumbers 99 = .ok (.iconst 1, 1) := by decide +kernel
theorem dX2_joinNumbers_100 : decode cX2_joinNumbers 100 = .ok (.goto 4, 3) := by decide +kernel
theorem dX2_joinNumbers_103 : decode cX2_joinNumbers 103 = .ok (.iconst 0, 1) := by decide +kernel
theorem dX2_joinNumbers_104 : decode cX2_joinNumbers 104 = .ok (.iconst (-1), 1) := by decide +kernel
theorem dX2_joinNumbers_105 : decode cX2_joinNumbers 105 = .ok (.invokevirtual 110, 3) := by decide +kernel
theorem dX2_joinNumbers_108 : decode cX2_joinNumbers 108 = .ok (.putfield 71, 3) := by decide +kernel
theorem dX2_joinNumbers_111 : decode cX2_joinNumbers 111 = .ok (.return_, 1) := by decide +kernel
theorem dX3_init_0 : decode cX3_init 0 = .ok (.aload_n 0, 1) := by decide +kernel
theorem dX3_init_1 : decode cX3_init 1 = .ok (.invokespecial 3, 3) := by decide +kernel
theorem dX3_init_4 : decode cX3_init 4 = .ok (.aload_n 0, 1) := by decide +kernel
theorem dX3_init_5 : decode cX3_init 5 = .ok (.sipush 400, 3) := by decide +kernel
theorem dX3_init_8 : decode cX3_init 8 = .ok (.newarray .int, 2) := by decide +kernel
theorem dX3_init_10 : decode cX3_init 10 = .ok (.putfield 11, 3) := by decide +kernel
theorem dX3_init_13 : decode cX3_init 13 = .ok (.aload_n 0, 1) := by decide +kernel
theorem dX3_init_14 : decode cX3_init 14 = .ok (.sipush 400, 3) := by decide +kernel
theorem dX3_init_17 : decode cX3_init 17 = .ok (.newarray .int, 2) := by decide +kernel
theorem dX3_init_19 : decode cX3_init 19 = .ok (.putfield 17, 3) := by decide +kernel
theorem dX3_init_22 : decode cX3_init 22 = .ok (.return_, 1) := by decide +kernel
theorem dX3_clear_0 : decode cX3_clear 0 = .ok (.aload_n 0, 1) := by decide +kernel
theorem dX3_clear_1 : decode cX3_clear 1 = .ok (.iconst 0, 1) := by decide +kernel
theorem dX3_clear_2 : decode cX3_clear 2 = .ok (.putfield 20, 3) := by decide +kernel
theorem dX3_clear_5 : decode cX3_clear 5 = .ok (.return_, 1) := by decide +kernel
theorem dX3_bind_0 : decode cX3_bind 0 = .ok (.aload_n 0, 1) := by decide +kernel
theorem dX3_bind_1 : decode cX3_bind 1 = .ok (.getfield 11, 3) := by decide +kernel
theorem dX3_bind_4 : decode cX3_bind 4 = .ok (.aload_n 0, 1) := by decide +kernel
theorem dX3_bind_5 : decode cX3_bind 5 = .ok (.getfield 20, 3) := by decide +kernel
theorem dX3_bind_8 : decode cX3_bind 8 = .ok (.iload_n 1, 1) := by decide +kernel
theorem dX3_bind_9 : decode cX3_bind 9 = .ok (.iastore, 1) := by decide +kernel
theorem dX3_bind_10 : decode cX3_bind 10 = .ok (.aload_n 0, 1) := by decide +kernel
theorem dX3_bind_11 : decode cX3_bind 11 = .ok (.getfield 17, 3) := by decide +kernel
theorem dX3_bind_14 : decode cX3_bind 14 = .ok (.aload_n 0, 1) := by decide +kernel
theorem dX3_bind_15 : decode cX3_bind 15 = .ok (.getfield 20, 3) := by decide +kernel
theorem dX3_bind_18 : decode cX3_bind 18 = .ok (.iload_n 2, 1) := by decide +kernel
theorem dX3_bind_19 : decode cX3_bind 19 = .ok (.iastore, 1) := by decide +kernel
theorem dX3_bind_20 : decode cX3_bind 20 = .ok (.aload_n 0, 1) := by decide +kernel
theorem dX3_bind_21 : decode cX3_bind 21 = .ok (.dup, 1) := by decide +kernel
theorem dX3_bind_22 : decode cX3_bind 22 = .ok (.getfield 20, 3) := by decide +kernel
theorem dX3_bind_25 : decode cX3_bind 25 = .ok (.dup_x1, 1) := by decide +kernel
theorem dX3_bind_26 : decode cX3_bind 26 = .ok (.iconst 1, 1) := by decide +kernel
theorem dX3_bind_27 : decode cX3_bind 27 = .ok (.iadd, 1) := by decide +kernel
theorem dX3_bind_28 : decode cX3_bind 28 = .ok (.putfield 20, 3) := by decide +kernel
theorem dX3_bind_31 : decode cX3_bind 31 = .ok (.ireturn, 1) := by decide +kernel
theorem dX3_look_0 : decode cX3_look 0 = .ok (.iload_n 1, 1) := by decide +kernel
theorem dX3_look_1 : decode cX3_look 1 = .ok (.istore_n 3, 1) := by decide +kernel
theorem dX3_look_2 : decode cX3_look 2 = .ok (.iconst 0, 1) := by decide +kernel
theorem dX3_look_3 : decode cX3_look 3 = .ok (.istore 4, 2) := by decide +kernel
theorem dX3_look_5 : decode cX3_look 5 = .ok (.iload 4, 2) := by decide +kernel
theorem dX3_look_7 : decode cX3_look 7 = .ok (.iload_n 2, 1) := by decide +kernel
theorem dX3_look_8 : decode cX3_look 8 = .ok (.if_icmp .ge 21, 3) := by decide +kernel
theorem dX3_look_11 : decode cX3_look 11 = .ok (.iload_n 3, 1) := by decide +kernel
theorem dX3_look_12 : decode cX3_look 12 = .ok (.iconst (-1), 1) := by decide +kernel
theorem dX3_look_13 : decode cX3_look 13 = .ok (.if_icmp .eq 16, 3) := by decide +kernel
theorem dX3_look_16 : decode cX3_look 16 = .ok (.aload_n 0, 1) := by decide +kernel
theorem dX3_look_17 : decode cX3_look 17 = .ok (.getfield 17, 3) := by decide +kernel
theorem dX3_look_20 : decode cX3_look 20 = .ok (.iload_n 3, 1) := by decide +kernel
theorem dX3_look_21 : decode cX3_look 21 = .ok (.iaload, 1) := by decide +kernel
theorem dX3_look_22 : decode cX3_look 22 = .ok (.istore_n 3, 1) := by decide +kernel
theorem dX3_look_23 : decode cX3_look 23 = .ok (.iinc 4 1, 3) := by decide +kernel
theorem dX3_look_26 : decode cX3_look 26 = .ok (.goto (-21), 3) := by decide +kernel
theorem dX3_look_29 : decode cX3_look 29 = .ok (.iload_n 3, 1) := by decide +kernel
theorem dX3_look_30 : decode cX3_look 30 = .ok (.iconst (-1), 1) := by decide +kernel
theorem dX3_look_31 : decode cX3_look 31 = .ok (.if_icmp .ne 7, 3) := by decide +kernel
theorem dX3_look_34 : decode cX3_look 34 = .ok (.iconst (-1), 1) := by decide +kernel
theorem dX3_look_35 : decode cX3_look 35 = .ok (.goto 9, 3) := by decide +kernel
theorem dX3_look_38 : decode cX3_look 38 = .ok (.aload_n 0, 1) := by decide +kernel
theorem dX3_look_39 : decode cX3_look 39 = .ok (.getfield 11, 3) := by decide +kernel
theorem dX3_look_42 : decode cX3_look 42 = .ok (.iload_n 3, 1) := by decide +kernel
theorem dX3_look_43 : decode cX3_look 43 = .ok (.iaload, 1) := by decide +kernel
theorem dX3_look_44 : decode cX3_look 44 = .ok (.ireturn, 1) := by decide +kernel
theorem dX4_init_0 : decode cX4_init 0 = .ok (.aload_n 0, 1) := by decide +kernel
theorem dX4_init_1 : decode cX4_init 1 = .ok (.invokespecial 1, 3) := by decide +kernel
theorem dX4_init_4 : decode cX4_init 4 = .ok (.aload_n 0, 1) := by decide +kernel
theorem dX4_init_5 : decode cX4_init 5 = .ok (.bipush 60, 2) := by decide +kernel
theorem dX4_init_7 : decode cX4_init 7 = .ok (.newarray .int, 2) := by decide +kernel
theorem dX4_init_9 : decode cX4_init 9 = .ok (.putfield 9, 3) := by decide +kernel
theorem dX4_init_12 : decode cX4_init 12 = .ok (.aload_n 0, 1) := by decide +kernel
theorem dX4_init_13 : decode cX4_init 13 = .ok (.bipush 60, 2) := by decide +kernel
theorem dX4_init_15 : decode cX4_init 15 = .ok (.newarray .int, 2) := by decide +kernel
theorem dX4_init_17 : decode cX4_init 17 = .ok (.putfield 13, 3) := by decide +kernel
theorem dX4_init_20 : decode cX4_init 20 = .ok (.aload_n 0, 1) := by decide +kernel
theorem dX4_init_21 : decode cX4_init 21 = .ok (.bipush 60, 2) := by decide +kernel
theorem dX4_init_23 : decode cX4_init 23 = .ok (.newarray .int, 2) := by decide +kernel
theorem dX4_init_25 : decode cX4_init 25 = .ok (.putfield 16, 3) := by decide +kernel
theorem dX4_init_28 : decode cX4_init 28 = .ok (.aload_n 0, 1) := by decide +kernel
theorem dX4_init_29 : decode cX4_init 29 = .ok (.bipush 60, 2) := by decide +kernel
theorem dX4_init_31 : decode cX4_init 31 = .ok (.newarray .int, 2) := by decide +kernel
theorem dX4_init_33 : decode cX4_init 33 = .ok (.putfield 19, 3) := by decide +kernel
theorem dX4_init_36 : decode cX4_init 36 = .ok (.aload_n 0, 1) := by decide +kernel
theorem dX4_init_37 : decode cX4_init 37 = .ok (.bipush 60, 2) := by decide +kernel
theorem dX4_init_39 : decode cX4_init 39 = .ok (.newarray .int, 2) := by decide +kernel
theorem dX4_init_41 : decode cX4_init 41 = .ok (.putfield 22, 3) := by decide +kernel
theorem dX4_init_44 : decode cX4_init 44 = .ok (.aload_n 0, 1) := by decide +kernel
theorem dX4_init_45 : decode cX4_init 45 = .ok (.bipush 60, 2) := by decide +kernel
theorem dX4_init_47 : decode cX4_init 47 = .ok (.newarray .int, 2) := by decide +kernel
theorem dX4_init_49 : decode cX4_init 49 = .ok (.putfield 25, 3) := by decide +kernel
theorem dX4_init_52 : decode cX4_init 52 = .ok (.aload_n 0, 1) := by decide +kernel
theorem dX4_init_53 : decode cX4_init 53 = .ok (.bipush 60, 2) := by decide +kernel
theorem dX4_init_55 : decode cX4_init 55 = .ok (.newarray .int, 2) := by decide +kernel
theorem dX4_init_57 : decode cX4_init 57 = .ok (.putfield 28, 3) := by decide +kernel
theorem dX4_init_60 : decode cX4_init 60 = .ok (.return_, 1) := by decide +kernel
theorem dX4_has_0 : decode cX4_has 0 = .ok (.iload_n 1, 1) := by decide +kernel
theorem dX4_has_1 : decode cX4_has 1 = .ok (.ifCond .lt 15, 3) := by decide +kernel
theorem dX4_has_4 : decode cX4_has 4 = .ok (.iload_n 1, 1) := by decide +kernel
theorem dX4_has_5 : decode cX4_has 5 = .ok (.aload_n 0, 1) := by decide +kernel
theorem dX4_has_6 : decode cX4_has 6 = .ok (.getfield 31, 3) := by decide +kernel
theorem dX4_has_9 : decode cX4_has 9 = .ok (.if_icmp .ge 7, 3) := by decide +kernel
theorem dX4_has_12 : decode cX4_has 12 = .ok (.iconst 1, 1) := by decide +kernel
theorem dX4_has_13 : decode cX4_has 13 = .ok (.goto 4, 3) := by decide +kernel
theorem dX4_has_16 : decode cX4_has 16 = .ok (.iconst 0, 1) := by decide +kernel
theorem dX4_has_17 : decode cX4_has 17 = .ok (.ireturn, 1) := by decide +kernel
theorem dX4_hasClosed_0 : decode cX4_hasClosed 0 = .ok (.aload_n 0, 1) := by decide +kernel
theorem dX4_hasClosed_1 : decode cX4_hasClosed 1 = .ok (.iload_n 1, 1) := by decide +kernel
theorem dX4_hasClosed_2 : decode cX4_hasClosed 2 = .ok (.invokevirtual 35, 3) := by decide +kernel
theorem dX4_hasClosed_5 : decode cX4_hasClosed 5 = .ok (.ifCond .eq 16, 3) := by decide +kernel
theorem dX4_hasClosed_8 : decode cX4_hasClosed 8 = .ok (.aload_n 0, 1) := by decide +kernel
theorem dX4_hasClosed_9 : decode cX4_hasClosed 9 = .ok (.getfield 22, 3) := by decide +kernel
theorem dX4_hasClosed_12 : decode cX4_hasClosed 12 = .ok (.iload_n 1, 1) := by decide +kernel
theorem dX4_hasClosed_13 : decode cX4_hasClosed 13 = .ok (.iaload, 1) := by decide +kernel
theorem dX4_hasClosed_14 : decode cX4_hasClosed 14 = .ok (.ifCond .ne 7, 3) := by decide +kernel
theorem dX4_hasClosed_17 : decode cX4_hasClosed 17 = .ok (.iconst 1, 1) := by decide +kernel
theorem dX4_hasClosed_18 : decode cX4_hasClosed 18 = .ok (.goto 4, 3) := by decide +kernel
theorem dX4_hasClosed_21 : decode cX4_hasClosed 21 = .ok (.iconst 0, 1) := by decide +kernel
theorem dX4_hasClosed_22 : decode cX4_hasClosed 22 = .ok (.ireturn, 1) := by decide +kernel
theorem dX4_wordsFit_0 : decode cX4_wordsFit 0 = .ok (.iload_n 1, 1) := by decide +kernel
theorem dX4_wordsFit_1 : decode cX4_wordsFit 1 = .ok (.ifCond .lt 11, 3) := by decide +kernel
theorem dX4_wordsFit_4 : decode cX4_wordsFit 4 = .ok (.iload_n 1, 1) := by decide +kernel
theorem dX4_wordsFit_5 : decode cX4_wordsFit 5 = .ok (.getstatic 39, 3) := by decide +kernel
theorem dX4_wordsFit_8 : decode cX4_wordsFit 8 = .ok (.arraylength, 1) := by decide +kernel
theorem dX4_wordsFit_9 : decode cX4_wordsFit 9 = .ok (.if_icmp .lt 5, 3) := by decide +kernel
theorem dX4_wordsFit_12 : decode cX4_wordsFit 12 = .ok (.iconst 0, 1) := by decide +kernel
theorem dX4_wordsFit_13 : decode cX4_wordsFit 13 = .ok (.ireturn, 1) := by decide +kernel
theorem dX4_wordsFit_14 : decode cX4_wordsFit 14 = .ok (.iload_n 1, 1) := by decide +kernel
theorem dX4_wordsFit_15 : decode cX4_wordsFit 15 = .ok (.tableswitch 75 0 2 #[25, 45, 60], 25) := by decide +kernel
theorem dX4_wordsFit_40 : decode cX4_wordsFit 40 = .ok (.iload_n 2, 1) := by decide +kernel
theorem dX4_wordsFit_41 : decode cX4_wordsFit 41 = .ok (.sipush (-1000), 3) := by decide +kernel
theorem dX4_wordsFit_44 : decode cX4_wordsFit 44 = .ok (.if_icmp .lt 14, 3) := by decide +kernel
theorem dX4_wordsFit_47 : decode cX4_wordsFit 47 = .ok (.iload_n 2, 1) := by decide +kernel
theorem dX4_wordsFit_48 : decode cX4_wordsFit 48 = .ok (.sipush 1000, 3) := by decide +kernel
theorem dX4_wordsFit_51 : decode cX4_wordsFit 51 = .ok (.if_icmp .gt 7, 3) := by decide +kernel
theorem dX4_wordsFit_54 : decode cX4_wordsFit 54 = .ok (.iconst 1, 1) := by decide +kernel
theorem dX4_wordsFit_55 : decode cX4_wordsFit 55 = .ok (.goto 4, 3) := by decide +kernel
theorem dX4_wordsFit_58 : decode cX4_wordsFit 58 = .ok (.iconst 0, 1) := by decide +kernel
theorem dX4_wordsFit_59 : decode cX4_wordsFit 59 = .ok (.ireturn, 1) := by decide +kernel
theorem dX4_wordsFit_60 : decode cX4_wordsFit 60 = .ok (.iload_n 2, 1) := by decide +kernel
theorem dX4_wordsFit_61 : decode cX4_wordsFit 61 = .ok (.ifCond .eq 8, 3) := by decide +kernel
theorem dX4_wordsFit_64 : decode cX4_wordsFit 64 = .ok (.iload_n 2, 1) := by decide +kernel
theorem dX4_wordsFit_65 : decode cX4_wordsFit 65 = .ok (.iconst 1, 1) := by decide +kernel
theorem dX4_wordsFit_66 : decode cX4_wordsFit 66 = .ok (.if_icmp .ne 7, 3) := by decide +kernel
theorem dX4_wordsFit_69 : decode cX4_wordsFit 69 = .ok (.iconst 1, 1) := by decide +kernel
theorem dX4_wordsFit_70 : decode cX4_wordsFit 70 = .ok (.goto 4, 3) := by decide +kernel
theorem dX4_wordsFit_73 : decode cX4_wordsFit 73 = .ok (.iconst 0, 1) := by decide +kernel
theorem dX4_wordsFit_74 : decode cX4_wordsFit 74 = .ok (.ireturn, 1) := by decide +kernel
theorem dX4_wordsFit_75 : decode cX4_wordsFit 75 = .ok (.iload_n 2, 1) := by decide +kernel
theorem dX4_wordsFit_76 : decode cX4_wordsFit 76 = .ok (.ifCond .lt 12, 3) := by decide +kernel
theorem dX4_wordsFit_79 : decode cX4_wordsFit 79 = .ok (.iload_n 2, 1) := by decide +kernel
theorem dX4_wordsFit_80 : decode cX4_wordsFit 80 = .ok (.iconst 5, 1) := by decide +kernel
theorem dX4_wordsFit_81 : decode cX4_wordsFit 81 = .ok (.if_icmp .gt 7, 3) := by decide +kernel
theorem dX4_wordsFit_84 : decode cX4_wordsFit 84 = .ok (.iconst 1, 1) := by decide +kernel
theorem dX4_wordsFit_85 : decode cX4_wordsFit 85 = .ok (.goto 4, 3) := by decide +kernel
theorem dX4_wordsFit_88 : decode cX4_wordsFit 88 = .ok (.iconst 0, 1) := by decide +kernel
theorem dX4_wordsFit_89 : decode cX4_wordsFit 89 = .ok (.ireturn, 1) := by decide +kernel
theorem dX4_wordsFit_90 : decode cX4_wordsFit 90 = .ok (.getstatic 39, 3) := by decide +kernel
theorem dX4_wordsFit_93 : decode cX4_wordsFit 93 = .ok (.iload_n 1, 1) := by decide +kernel
theorem dX4_wordsFit_94 : decode cX4_wordsFit 94 = .ok (.iaload, 1) := by decide +kernel
theorem dX4_wordsFit_95 : decode cX4_wordsFit 95 = .ok (.istore 5, 2) := by decide +kernel
theorem dX4_wordsFit_97 : decode cX4_wordsFit 97 = .ok (.aload_n 0, 1) := by decide +kernel
theorem dX4_wordsFit_98 : decode cX4_wordsFit 98 = .ok (.iload_n 2, 1) := by decide +kernel
theorem dX4_wordsFit_99 : decode cX4_wordsFit 99 = .ok (.invokevirtual 35, 3) := by decide +kernel
theorem dX4_wordsFit_102 : decode cX4_wordsFit 102 = .ok (.ifCond .eq 36, 3) := by decide +kernel
theorem dX4_wordsFit_105 : decode cX4_wordsFit 105 = .ok (.iload 5, 2) := by decide +kernel
theorem dX4_wordsFit_107 : decode cX4_wordsFit 107 = .ok (.iconst 2, 1) := by decide +kernel
theorem dX4_wordsFit_108 : decode cX4_wordsFit 108 = .ok (.if_icmp .lt 11, 3) := by decide +kernel
theorem dX4_wordsFit_111 : decode cX4_wordsFit 111 = .ok (.aload_n 0, 1) := by decide +kernel
theorem dX4_wordsFit_112 : decode cX4_wordsFit 112 = .ok (.iload_n 3, 1) := by decide +kernel
theorem dX4_wordsFit_113 : decode cX4_wordsFit 113 = .ok (.invokevirtual 35, 3) := by decide +kernel
theorem dX4_wordsFit_116 : decode cX4_wordsFit 116 = .ok (.ifCond .eq 22, 3) := by decide +kernel
theorem dX4_wordsFit_119 : decode cX4_wordsFit 119 = .ok (.iload 5, 2) := by decide +kernel
theorem dX4_wordsFit_121 : decode cX4_wordsFit 121 = .ok (.iconst 3, 1) := by decide +kernel
theorem dX4_wordsFit_122 : decode cX4_wordsFit 122 = .ok (.if_icmp .lt 12, 3) := by decide +kernel
theorem dX4_wordsFit_125 : decode cX4_wordsFit 125 = .ok (.aload_n 0, 1) := by decide +kernel
theorem dX4_wordsFit_126 : decode cX4_wordsFit 126 = .ok (.iload 4, 2) := by decide +kernel
theorem dX4_wordsFit_128 : decode cX4_wordsFit 128 = .ok (.invokevirtual 35, 3) := by decide +kernel
theorem dX4_wordsFit_131 : decode cX4_wordsFit 131 = .ok (.ifCond .eq 7, 3) := by decide +kernel
theorem dX4_wordsFit_134 : decode cX4_wordsFit 134 = .ok (.iconst 1, 1) := by decide +kernel
theorem dX4_wordsFit_135 : decode cX4_wordsFit 135 = .ok (.goto 4, 3) := by decide +kernel
theorem dX4_wordsFit_138 : decode cX4_wordsFit 138 = .ok (.iconst 0, 1) := by decide +kernel
theorem dX4_wordsFit_139 : decode cX4_wordsFit 139 = .ok (.ireturn, 1) := by decide +kernel
theorem dX4_hasRoomFor_0 : decode cX4_hasRoomFor 0 = .ok (.getstatic 39, 3) := by decide +kernel
theorem dX4_hasRoomFor_3 : decode cX4_hasRoomFor 3 = .ok (.iload_n 1, 1) := by decide +kernel
theorem dX4_hasRoomFor_4 : decode cX4_hasRoomFor 4 = .ok (.iaload, 1) := by decide +kernel
theorem dX4_hasRoomFor_5 : decode cX4_hasRoomFor 5 = .ok (.istore 5, 2) := by decide +kernel
theorem dX4_hasRoomFor_7 : decode cX4_hasRoomFor 7 = .ok (.aload_n 0, 1) := by decide +kernel
theorem dX4_hasRoomFor_8 : decode cX4_hasRoomFor 8 = .ok (.getfield 31, 3) := by decide +kernel
theorem dX4_hasRoomFor_11 : decode cX4_hasRoomFor 11 = .ok (.bipush 60, 2) := by decide +kernel
theorem dX4_hasRoomFor_13 : decode cX4_hasRoomFor 13 = .ok (.if_icmp .ge 37, 3) := by decide +kernel
theorem dX4_hasRoomFor_16 : decode cX4_hasRoomFor 16 = .ok (.aload_n 0, 1) := by decide +kernel
theorem dX4_hasRoomFor_17 : decode cX4_hasRoomFor 17 = .ok (.iload 5, 2) := by decide +kernel
theorem dX4_hasRoomFor_19 : decode cX4_hasRoomFor 19 = .ok (.iload_n 2, 1) := by decide +kernel
theorem dX4_hasRoomFor_20 : decode cX4_hasRoomFor 20 = .ok (.iload_n 3, 1) := by decide +kernel
theorem dX4_hasRoomFor_21 : decode cX4_hasRoomFor 21 = .ok (.iload 4, 2) := by decide +kernel
theorem dX4_hasRoomFor_23 : decode cX4_hasRoomFor 23 = .ok (.invokevirtual 44, 3) := by decide +kernel
theorem dX4_hasRoomFor_26 : decode cX4_hasRoomFor 26 = .ok (.bipush 9, 2) := by decide +kernel
theorem dX4_hasRoomFor_28 : decode cX4_hasRoomFor 28 = .ok (.if_icmp .gt 22, 3) := by decide +kernel
theorem dX4_hasRoomFor_31 : decode cX4_hasRoomFor 31 = .ok (.aload_n 0, 1) := by decide +kernel
theorem dX4_hasRoomFor_32 : decode cX4_hasRoomFor 32 = .ok (.iload 5, 2) := by decide +kernel
theorem dX4_hasRoomFor_34 : decode cX4_hasRoomFor 34 = .ok (.iload_n 2, 1) := by decide +kernel
theorem dX4_hasRoomFor_35 : decode cX4_hasRoomFor 35 = .ok (.iload_n 3, 1) := by decide +kernel
theorem dX4_hasRoomFor_36 : decode cX4_hasRoomFor 36 = .ok (.iload 4, 2) := by decide +kernel
theorem dX4_hasRoomFor_38 : decode cX4_hasRoomFor 38 = .ok (.invokevirtual 48, 3) := by decide +kernel
theorem dX4_hasRoomFor_41 : decode cX4_hasRoomFor 41 = .ok (.bipush 120, 2) := by decide +kernel
theorem dX4_hasRoomFor_43 : decode cX4_hasRoomFor 43 = .ok (.if_icmp .gt 7, 3) := by decide +kernel
theorem dX4_hasRoomFor_46 : decode cX4_hasRoomFor 46 = .ok (.iconst 1, 1) := by decide +kernel
theorem dX4_hasRoomFor_47 : decode cX4_hasRoomFor 47 = .ok (.goto 4, 3) := by decide +kernel
theorem dX4_hasRoomFor_50 : decode cX4_hasRoomFor 50 = .ok (.iconst 0, 1) := by decide +kernel
theorem dX4_hasRoomFor_51 : decode cX4_hasRoomFor 51 = .ok (.ireturn, 1) := by decide +kernel
theorem dX4_add_0 : decode cX4_add 0 = .ok (.getstatic 39, 3) := by decide +kernel
theorem dX4_add_3 : decode cX4_add 3 = .ok (.iload_n 1, 1) := by decide +kernel
theorem dX4_add_4 : decode cX4_add 4 = .ok (.iaload, 1) := by decide +kernel
theorem dX4_add_5 : decode cX4_add 5 = .ok (.istore 5, 2) := by decide +kernel
theorem dX4_add_7 : decode cX4_add 7 = .ok (.aload_n 0, 1) := by decide +kernel
theorem dX4_add_8 : decode cX4_add 8 = .ok (.getfield 31, 3) := by decide +kernel
theorem dX4_add_11 : decode cX4_add 11 = .ok (.istore 6, 2) := by decide +kernel
theorem dX4_add_13 : decode cX4_add 13 = .ok (.aload_n 0, 1) := by decide +kernel
theorem dX4_add_14 : decode cX4_add 14 = .ok (.getfield 9, 3) := by decide +kernel
theorem dX4_add_17 : decode cX4_add 17 = .ok (.iload 6, 2) := by decide +kernel
theorem dX4_add_19 : decode cX4_add 19 = .ok (.iload_n 1, 1) := by decide +kernel
theorem dX4_add_20 : decode cX4_add 20 = .ok (.iastore, 1) := by decide +kernel
theorem dX4_add_21 : decode cX4_add 21 = .ok (.aload_n 0, 1) := by decide +kernel
theorem dX4_add_22 : decode cX4_add 22 = .ok (.getfield 13, 3) := by decide +kernel
theorem dX4_add_25 : decode cX4_add 25 = .ok (.iload 6, 2) := by decide +kernel
theorem dX4_add_27 : decode cX4_add 27 = .ok (.iload_n 2, 1) := by decide +kernel
theorem dX4_add_28 : decode cX4_add 28 = .ok (.iastore, 1) := by decide +kernel
theorem dX4_add_29 : decode cX4_add 29 = .ok (.aload_n 0, 1) := by decide +kernel
theorem dX4_add_30 : decode cX4_add 30 = .ok (.getfield 16, 3) := by decide +kernel
theorem dX4_add_33 : decode cX4_add 33 = .ok (.iload 6, 2) := by decide +kernel
theorem dX4_add_35 : decode cX4_add 35 = .ok (.iload_n 3, 1) := by decide +kernel
theorem dX4_add_36 : decode cX4_add 36 = .ok (.iastore, 1) := by decide +kernel
theorem dX4_add_37 : decode cX4_add 37 = .ok (.aload_n 0, 1) := by decide +kernel
theorem dX4_add_38 : decode cX4_add 38 = .ok (.getfield 19, 3) := by decide +kernel
theorem dX4_add_41 : decode cX4_add 41 = .ok (.iload 6, 2) := by decide +kernel
theorem dX4_add_43 : decode cX4_add 43 = .ok (.iload 4, 2) := by decide +kernel
theorem dX4_add_45 : decode cX4_add 45 = .ok (.iastore, 1) := by decide +kernel
theorem dX4_add_46 : decode cX4_add 46 = .ok (.aload_n 0, 1) := by decide +kernel
theorem dX4_add_47 : decode cX4_add 47 = .ok (.getfield 25, 3) := by decide +kernel
theorem dX4_add_50 : decode cX4_add 50 = .ok (.iload 6, 2) := by decide +kernel
theorem dX4_add_52 : decode cX4_add 52 = .ok (.aload_n 0, 1) := by decide +kernel
theorem dX4_add_53 : decode cX4_add 53 = .ok (.iload 5, 2) := by decide +kernel
theorem dX4_add_55 : decode cX4_add 55 = .ok (.iload_n 2, 1) := by decide +kernel
theorem dX4_add_56 : decode cX4_add 56 = .ok (.iload_n 3, 1) := by decide +kernel
theorem dX4_add_57 : decode cX4_add 57 = .ok (.iload 4, 2) := by decide +kernel
theorem dX4_add_59 : decode cX4_add 59 = .ok (.invokevirtual 44, 3) := by decide +kernel
theorem dX4_add_62 : decode cX4_add 62 = .ok (.iastore, 1) := by decide +kernel
theorem dX4_add_63 : decode cX4_add 63 = .ok (.aload_n 0, 1) := by decide +kernel
theorem dX4_add_64 : decode cX4_add 64 = .ok (.getfield 28, 3) := by decide +kernel
theorem dX4_add_67 : decode cX4_add 67 = .ok (.iload 6, 2) := by decide +kernel
theorem dX4_add_69 : decode cX4_add 69 = .ok (.aload_n 0, 1) := by decide +kernel
theorem dX4_add_70 : decode cX4_add 70 = .ok (.iload 5, 2) := by decide +kernel
theorem dX4_add_72 : decode cX4_add 72 = .ok (.iload_n 2, 1) := by decide +kernel
theorem dX4_add_73 : decode cX4_add 73 = .ok (.iload_n 3, 1) := by decide +kernel
theorem dX4_add_74 : decode cX4_add 74 = .ok (.iload 4, 2) := by decide +kernel
theorem dX4_add_76 : decode cX4_add 76 = .ok (.invokevirtual 48, 3) := by decide +kernel
theorem dX4_add_79 : decode cX4_add 79 = .ok (.iastore, 1) := by decide +kernel
theorem dX4_add_80 : decode cX4_add 80 = .ok (.aload_n 0, 1) := by decide +kernel
theorem dX4_add_81 : decode cX4_add 81 = .ok (.getfield 22, 3) := by decide +kernel
theorem dX4_add_84 : decode cX4_add 84 = .ok (.iload 6, 2) := by decide +kernel
theorem dX4_add_86 : decode cX4_add 86 = .ok (.iload_n 1, 1) := by decide +kernel
theorem dX4_add_87 : decode cX4_add 87 = .ok (.iconst 2, 1) := by decide +kernel
theorem dX4_add_88 : decode cX4_add 88 = .ok (.if_icmp .ne 9, 3) := by decide +kernel
theorem dX4_add_91 : decode cX4_add 91 = .ok (.iload_n 2, 1) := by decide +kernel
theorem dX4_add_92 : decode cX4_add 92 = .ok (.iconst 1, 1) := by decide +kernel
theorem dX4_add_93 : decode cX4_add 93 = .ok (.iadd, 1) := by decide +kernel
theorem dX4_add_94 : decode cX4_add 94 = .ok (.goto 12, 3) := by decide +kernel
theorem dX4_add_97 : decode cX4_add 97 = .ok (.aload_n 0, 1) := by decide +kernel
theorem dX4_add_98 : decode cX4_add 98 = .ok (.iload_n 1, 1) := by decide +kernel
theorem dX4_add_99 : decode cX4_add 99 = .ok (.iload_n 2, 1) := by decide +kernel
theorem dX4_add_100 : decode cX4_add 100 = .ok (.iload_n 3, 1) := by decide +kernel
theorem dX4_add_101 : decode cX4_add 101 = .ok (.iload 4, 2) := by decide +kernel
theorem dX4_add_103 : decode cX4_add 103 = .ok (.invokevirtual 51, 3) := by decide +kernel
theorem dX4_add_106 : decode cX4_add 106 = .ok (.iastore, 1) := by decide +kernel
theorem dX4_add_107 : decode cX4_add 107 = .ok (.aload_n 0, 1) := by decide +kernel
theorem dX4_add_108 : decode cX4_add 108 = .ok (.dup, 1) := by decide +kernel
theorem dX4_add_109 : decode cX4_add 109 = .ok (.getfield 31, 3) := by decide +kernel
theorem dX4_add_112 : decode cX4_add 112 = .ok (.iconst 1, 1) := by decide +kernel
theorem dX4_add_113 : decode cX4_add 113 = .ok (.iadd, 1) := by decide +kernel
theorem dX4_add_114 : decode cX4_add 114 = .ok (.putfield 31, 3) := by decide +kernel
theorem dX4_add_117 : decode cX4_add 117 = .ok (.iload 6, 2) := by decide +kernel
theorem dX4_add_119 : decode cX4_add 119 = .ok (.ireturn, 1) := by decide +kernel
theorem dX4_heightOver_0 : decode cX4_heightOver 0 = .ok (.iload_n 1, 1) := by decide +kernel
theorem dX4_heightOver_1 : decode cX4_heightOver 1 = .ok (.iconst 1, 1) := by decide +kernel
theorem dX4_heightOver_2 : decode cX4_heightOver 2 = .ok (.if_icmp .lt 12, 3) := by decide +kernel
theorem dX4_heightOver_5 : decode cX4_heightOver 5 = .ok (.aload_n 0, 1) := by decide +kernel
theorem dX4_heightOver_6 : decode cX4_heightOver 6 = .ok (.getfield 25, 3) := by decide +kernel
theorem dX4_heightOver_9 : decode cX4_heightOver 9 = .ok (.iload_n 2, 1) := by decide +kernel
theorem dX4_heightOver_10 : decode cX4_heightOver 10 = .ok (.iaload, 1) := by decide +kernel
theorem dX4_heightOver_11 : decode cX4_heightOver 11 = .ok (.goto 4, 3) := by decide +kernel
theorem dX4_heightOver_14 : decode cX4_heightOver 14 = .ok (.iconst 0, 1) := by decide +kernel
theorem dX4_heightOver_15 : decode cX4_heightOver 15 = .ok (.istore 5, 2) := by decide +kernel
theorem dX4_heightOver_17 : decode cX4_heightOver 17 = .ok (.iload_n 1, 1) := by decide +kernel
theorem dX4_heightOver_18 : decode cX4_heightOver 18 = .ok (.iconst 2, 1) := by decide +kernel
theorem dX4_heightOver_19 : decode cX4_heightOver 19 = .ok (.if_icmp .lt 16, 3) := by decide +kernel
theorem dX4_heightOver_22 : decode cX4_heightOver 22 = .ok (.iload 5, 2) := by decide +kernel
theorem dX4_heightOver_24 : decode cX4_heightOver 24 = .ok (.aload_n 0, 1) := by decide +kernel
theorem dX4_heightOver_25 : decode cX4_heightOver 25 = .ok (.getfield 25, 3) := by decide +kernel
theorem dX4_heightOver_28 : decode cX4_heightOver 28 = .ok (.iload_n 3, 1) := by decide +kernel
theorem dX4_heightOver_29 : decode cX4_heightOver 29 = .ok (.iaload, 1) := by decide +kernel
theorem dX4_heightOver_30 : decode cX4_heightOver 30 = .ok (.invokestatic 54, 3) := by decide +kernel
theorem dX4_heightOver_33 : decode cX4_heightOver 33 = .ok (.istore 5, 2) := by decide +kernel
theorem dX4_heightOver_35 : decode cX4_heightOver 35 = .ok (.iload_n 1, 1) := by decide +kernel
theorem dX4_heightOver_36 : decode cX4_heightOver 36 = .ok (.iconst 3, 1) := by decide +kernel
theorem dX4_heightOver_37 : decode cX4_heightOver 37 = .ok (.if_icmp .lt 17, 3) := by decide +kernel
theorem dX4_heightOver_40 : decode cX4_heightOver 40 = .ok (.iload 5, 2) := by decide +kernel
theorem dX4_heightOver_42 : decode cX4_heightOver 42 = .ok (.aload_n 0, 1) := by decide +kernel
theorem dX4_heightOver_43 : decode cX4_heightOver 43 = .ok (.getfield 25, 3) := by decide +kernel
theorem dX4_heightOver_46 : decode cX4_heightOver 46 = .ok (.iload 4, 2) := by decide +kernel
theorem dX4_heightOver_48 : decode cX4_heightOver 48 = .ok (.iaload, 1) := by decide +kernel
theorem dX4_heightOver_49 : decode cX4_heightOver 49 = .ok (.invokestatic 54, 3) := by decide +kernel
theorem dX4_heightOver_52 : decode cX4_heightOver 52 = .ok (.istore 5, 2) := by decide +kernel
theorem dX4_heightOver_54 : decode cX4_heightOver 54 = .ok (.iload 5, 2) := by decide +kernel
theorem dX4_heightOver_56 : decode cX4_heightOver 56 = .ok (.iconst 1, 1) := by decide +kernel
theorem dX4_heightOver_57 : decode cX4_heightOver 57 = .ok (.iadd, 1) := by decide +kernel
theorem dX4_heightOver_58 : decode cX4_heightOver 58 = .ok (.ireturn, 1) := by decide +kernel
theorem dX4_sizeOver_0 : decode cX4_sizeOver 0 = .ok (.iload_n 1, 1) := by decide +kernel
theorem dX4_sizeOver_1 : decode cX4_sizeOver 1 = .ok (.iconst 1, 1) := by decide +kernel
theorem dX4_sizeOver_2 : decode cX4_sizeOver 2 = .ok (.if_icmp .lt 12, 3) := by decide +kernel
theorem dX4_sizeOver_5 : decode cX4_sizeOver 5 = .ok (.aload_n 0, 1) := by decide +kernel
theorem dX4_sizeOver_6 : decode cX4_sizeOver 6 = .ok (.getfield 28, 3) := by decide +kernel
theorem dX4_sizeOver_9 : decode cX4_sizeOver 9 = .ok (.iload_n 2, 1) := by decide +kernel
theorem dX4_sizeOver_10 : decode cX4_sizeOver 10 = .ok (.iaload, 1) := by decide +kernel
theorem dX4_sizeOver_11 : decode cX4_sizeOver 11 = .ok (.goto 4, 3) := by decide +kernel
theorem dX4_sizeOver_14 : decode cX4_sizeOver 14 = .ok (.iconst 0, 1) := by decide +kernel
theorem dX4_sizeOver_15 : decode cX4_sizeOver 15 = .ok (.istore 5, 2) := by decide +kernel
theorem dX4_sizeOver_17 : decode cX4_sizeOver 17 = .ok (.iload_n 1, 1) := by decide +kernel
theorem dX4_sizeOver_18 : decode cX4_sizeOver 18 = .ok (.iconst 2, 1) := by decide +kernel
theorem dX4_sizeOver_19 : decode cX4_sizeOver 19 = .ok (.if_icmp .lt 14, 3) := by decide +kernel
theorem dX4_sizeOver_22 : decode cX4_sizeOver 22 = .ok (.iload 5, 2) := by decide +kernel
theorem dX4_sizeOver_24 : decode cX4_sizeOver 24 = .ok (.aload_n 0, 1) := by decide +kernel
theorem dX4_sizeOver_25 : decode cX4_sizeOver 25 = .ok (.getfield 28, 3) := by decide +kernel
theorem dX4_sizeOver_28 : decode cX4_sizeOver 28 = .ok (.iload_n 3, 1) := by decide +kernel
theorem dX4_sizeOver_29 : decode cX4_sizeOver 29 = .ok (.iaload, 1) := by decide +kernel
theorem dX4_sizeOver_30 : decode cX4_sizeOver 30 = .ok (.iadd, 1) := by decide +kernel
theorem dX4_sizeOver_31 : decode cX4_sizeOver 31 = .ok (.istore 5, 2) := by decide +kernel
theorem dX4_sizeOver_33 : decode cX4_sizeOver 33 = .ok (.iload_n 1, 1) := by decide +kernel
theorem dX4_sizeOver_34 : decode cX4_sizeOver 34 = .ok (.iconst 3, 1) := by decide +kernel
theorem dX4_sizeOver_35 : decode cX4_sizeOver 35 = .ok (.if_icmp .lt 15, 3) := by decide +kernel
theorem dX4_sizeOver_38 : decode cX4_sizeOver 38 = .ok (.iload 5, 2) := by decide +kernel
theorem dX4_sizeOver_40 : decode cX4_sizeOver 40 = .ok (.aload_n 0, 1) := by decide +kernel
theorem dX4_sizeOver_41 : decode cX4_sizeOver 41 = .ok (.getfield 28, 3) := by decide +kernel
theorem dX4_sizeOver_44 : decode cX4_sizeOver 44 = .ok (.iload 4, 2) := by decide +kernel
theorem dX4_sizeOver_46 : decode cX4_sizeOver 46 = .ok (.iaload, 1) := by decide +kernel
theorem dX4_sizeOver_47 : decode cX4_sizeOver 47 = .ok (.iadd, 1) := by decide +kernel
theorem dX4_sizeOver_48 : decode cX4_sizeOver 48 = .ok (.istore 5, 2) := by decide +kernel
theorem dX4_sizeOver_50 : decode cX4_sizeOver 50 = .ok (.iload 5, 2) := by decide +kernel
theorem dX4_sizeOver_52 : decode cX4_sizeOver 52 = .ok (.iconst 1, 1) := by decide +kernel
theorem dX4_sizeOver_53 : decode cX4_sizeOver 53 = .ok (.iadd, 1) := by decide +kernel
theorem dX4_sizeOver_54 : decode cX4_sizeOver 54 = .ok (.ireturn, 1) := by decide +kernel
theorem dX4_neededOver_0 : decode cX4_neededOver 0 = .ok (.getstatic 60, 3) := by decide +kernel
theorem dX4_neededOver_3 : decode cX4_neededOver 3 = .ok (.iload_n 1, 1) := by decide +kernel
theorem dX4_neededOver_4 : decode cX4_neededOver 4 = .ok (.iaload, 1) := by decide +kernel
theorem dX4_neededOver_5 : decode cX4_neededOver 5 = .ok (.istore 5, 2) := by decide +kernel
theorem dX4_neededOver_7 : decode cX4_neededOver 7 = .ok (.getstatic 39, 3) := by decide +kernel
theorem dX4_neededOver_10 : decode cX4_neededOver 10 = .ok (.iload_n 1, 1) := by decide +kernel
theorem dX4_neededOver_11 : decode cX4_neededOver 11 = .ok (.iaload, 1) := by decide +kernel
theorem dX4_neededOver_12 : decode cX4_neededOver 12 = .ok (.tableswitch 87 1 3 #[28, 42, 61], 28) := by decide +kernel
theorem dX4_neededOver_40 : decode cX4_neededOver 40 = .ok (.iconst 0, 1) := by decide +kernel
theorem dX4_neededOver_41 : decode cX4_neededOver 41 = .ok (.aload_n 0, 1) := by decide +kernel
theorem dX4_neededOver_42 : decode cX4_neededOver 42 = .ok (.getfield 22, 3) := by decide +kernel
theorem dX4_neededOver_45 : decode cX4_neededOver 45 = .ok (.iload_n 2, 1) := by decide +kernel
theorem dX4_neededOver_46 : decode cX4_neededOver 46 = .ok (.iaload, 1) := by decide +kernel
theorem dX4_neededOver_47 : decode cX4_neededOver 47 = .ok (.iload 5, 2) := by decide +kernel
theorem dX4_neededOver_49 : decode cX4_neededOver 49 = .ok (.isub, 1) := by decide +kernel
theorem dX4_neededOver_50 : decode cX4_neededOver 50 = .ok (.invokestatic 54, 3) := by decide +kernel
theorem dX4_neededOver_53 : decode cX4_neededOver 53 = .ok (.ireturn, 1) := by decide +kernel
theorem dX4_neededOver_54 : decode cX4_neededOver 54 = .ok (.aload_n 0, 1) := by decide +kernel
theorem dX4_neededOver_55 : decode cX4_neededOver 55 = .ok (.getfield 22, 3) := by decide +kernel
theorem dX4_neededOver_58 : decode cX4_neededOver 58 = .ok (.iload_n 2, 1) := by decide +kernel
theorem dX4_neededOver_59 : decode cX4_neededOver 59 = .ok (.iaload, 1) := by decide +kernel
theorem dX4_neededOver_60 : decode cX4_neededOver 60 = .ok (.aload_n 0, 1) := by decide +kernel
theorem dX4_neededOver_61 : decode cX4_neededOver 61 = .ok (.getfield 22, 3) := by decide +kernel
theorem dX4_neededOver_64 : decode cX4_neededOver 64 = .ok (.iload_n 3, 1) := by decide +kernel
theorem dX4_neededOver_65 : decode cX4_neededOver 65 = .ok (.iaload, 1) := by decide +kernel
theorem dX4_neededOver_66 : decode cX4_neededOver 66 = .ok (.iload 5, 2) := by decide +kernel
theorem dX4_neededOver_68 : decode cX4_neededOver 68 = .ok (.isub, 1) := by decide +kernel
theorem dX4_neededOver_69 : decode cX4_neededOver 69 = .ok (.invokestatic 54, 3) := by decide +kernel
theorem dX4_neededOver_72 : decode cX4_neededOver 72 = .ok (.ireturn, 1) := by decide +kernel
theorem dX4_neededOver_73 : decode cX4_neededOver 73 = .ok (.aload_n 0, 1) := by decide +kernel
theorem dX4_neededOver_74 : decode cX4_neededOver 74 = .ok (.getfield 22, 3) := by decide +kernel
theorem dX4_neededOver_77 : decode cX4_neededOver 77 = .ok (.iload_n 2, 1) := by decide +kernel
theorem dX4_neededOver_78 : decode cX4_neededOver 78 = .ok (.iaload, 1) := by decide +kernel
theorem dX4_neededOver_79 : decode cX4_neededOver 79 = .ok (.aload_n 0, 1) := by decide +kernel
theorem dX4_neededOver_80 : decode cX4_neededOver 80 = .ok (.getfield 22, 3) := by decide +kernel
theorem dX4_neededOver_83 : decode cX4_neededOver 83 = .ok (.iload_n 3, 1) := by decide +kernel
theorem dX4_neededOver_84 : decode cX4_neededOver 84 = .ok (.iaload, 1) := by decide +kernel
theorem dX4_neededOver_85 : decode cX4_neededOver 85 = .ok (.aload_n 0, 1) := by decide +kernel
theorem dX4_neededOver_86 : decode cX4_neededOver 86 = .ok (.getfield 22, 3) := by decide +kernel
theorem dX4_neededOver_89 : decode cX4_neededOver 89 = .ok (.iload 4, 2) := by decide +kernel
theorem dX4_neededOver_91 : decode cX4_neededOver 91 = .ok (.iaload, 1) := by decide +kernel
theorem dX4_neededOver_92 : decode cX4_neededOver 92 = .ok (.invokestatic 54, 3) := by decide +kernel
theorem dX4_neededOver_95 : decode cX4_neededOver 95 = .ok (.invokestatic 54, 3) := by decide +kernel
theorem dX4_neededOver_98 : decode cX4_neededOver 98 = .ok (.ireturn, 1) := by decide +kernel
theorem dX4_neededOver_99 : decode cX4_neededOver 99 = .ok (.iconst 0, 1) := by decide +kernel
theorem dX4_neededOver_100 : decode cX4_neededOver 100 = .ok (.ireturn, 1) := by decide +kernel
theorem dX5_init_0 : decode cX5_init 0 = .ok (.aload_n 0, 1) := by decide +kernel
theorem dX5_init_1 : decode cX5_init 1 = .ok (.invokespecial 7, 3) := by decide +kernel
theorem dX5_init_4 : decode cX5_init 4 = .ok (.aload_n 0, 1) := by decide +kernel
theorem dX5_init_5 : decode cX5_init 5 = .ok (.sipush 604, 3) := by decide +kernel
theorem dX5_init_8 : decode cX5_init 8 = .ok (.newarray .int, 2) := by decide +kernel
theorem dX5_init_10 : decode cX5_init 10 = .ok (.putfield 13, 3) := by decide +kernel
theorem dX5_init_13 : decode cX5_init 13 = .ok (.aload_n 0, 1) := by decide +kernel
theorem dX5_init_14 : decode cX5_init 14 = .ok (.sipush 604, 3) := by decide +kernel
theorem dX5_init_17 : decode cX5_init 17 = .ok (.newarray .int, 2) := by decide +kernel
theorem dX5_init_19 : decode cX5_init 19 = .ok (.putfield 17, 3) := by decide +kernel
theorem dX5_init_22 : decode cX5_init 22 = .ok (.aload_n 0, 1) := by decide +kernel
theorem dX5_init_23 : decode cX5_init 23 = .ok (.sipush 2416, 3) := by decide +kernel
theorem dX5_init_26 : decode cX5_init 26 = .ok (.newarray .int, 2) := by decide +kernel
theorem dX5_init_28 : decode cX5_init 28 = .ok (.putfield 20, 3) := by decide +kernel
theorem dX5_init_31 : decode cX5_init 31 = .ok (.aload_n 0, 1) := by decide +kernel
theorem dX5_init_32 : decode cX5_init 32 = .ok (.sipush 962, 3) := by decide +kernel
theorem dX5_init_35 : decode cX5_init 35 = .ok (.newarray .int, 2) := by decide +kernel
theorem dX5_init_37 : decode cX5_init 37 = .ok (.putfield 23, 3) := by decide +kernel
theorem dX5_init_40 : decode cX5_init 40 = .ok (.aload_n 0, 1) := by decide +kernel
theorem dX5_init_41 : decode cX5_init 41 = .ok (.sipush 604, 3) := by decide +kernel
theorem dX5_init_44 : decode cX5_init 44 = .ok (.newarray .int, 2) := by decide +kernel
theorem dX5_init_46 : decode cX5_init 46 = .ok (.putfield 26, 3) := by decide +kernel
theorem dX5_init_49 : decode cX5_init 49 = .ok (.aload_n 0, 1) := by decide +kernel
theorem dX5_init_50 : decode cX5_init 50 = .ok (.sipush 604, 3) := by decide +kernel
theorem dX5_init_53 : decode cX5_init 53 = .ok (.newarray .int, 2) := by decide +kernel
theorem dX5_init_55 : decode cX5_init 55 = .ok (.putfield 29, 3) := by decide +kernel
theorem dX5_init_58 : decode cX5_init 58 = .ok (.aload_n 0, 1) := by decide +kernel
theorem dX5_init_59 : decode cX5_init 59 = .ok (.sipush 604, 3) := by decide +kernel
theorem dX5_init_62 : decode cX5_init 62 = .ok (.newarray .int, 2) := by decide +kernel
theorem dX5_init_64 : decode cX5_init 64 = .ok (.putfield 32, 3) := by decide +kernel
theorem dX5_init_67 : decode cX5_init 67 = .ok (.return_, 1) := by decide +kernel
theorem dX5_clear_0 : decode cX5_clear 0 = .ok (.aload_n 0, 1) := by decide +kernel
theorem dX5_clear_1 : decode cX5_clear 1 = .ok (.iconst 0, 1) := by decide +kernel
theorem dX5_clear_2 : decode cX5_clear 2 = .ok (.putfield 35, 3) := by decide +kernel
theorem dX5_clear_5 : decode cX5_clear 5 = .ok (.aload_n 0, 1) := by decide +kernel
theorem dX5_clear_6 : decode cX5_clear 6 = .ok (.iconst 0, 1) := by decide +kernel
theorem dX5_clear_7 : decode cX5_clear 7 = .ok (.invokevirtual 39, 3) := by decide +kernel
theorem dX5_clear_10 : decode cX5_clear 10 = .ok (.pop, 1) := by decide +kernel
theorem dX5_clear_11 : decode cX5_clear 11 = .ok (.aload_n 0, 1) := by decide +kernel
theorem dX5_clear_12 : decode cX5_clear 12 = .ok (.iconst 1, 1) := by decide +kernel
theorem dX5_clear_13 : decode cX5_clear 13 = .ok (.invokevirtual 39, 3) := by decide +kernel
theorem dX5_clear_16 : decode cX5_clear 16 = .ok (.pop, 1) := by decide +kernel
theorem dX5_clear_17 : decode cX5_clear 17 = .ok (.return_, 1) := by decide +kernel
theorem dX5_letter_0 : decode cX5_letter 0 = .ok (.aload_n 0, 1) := by decide +kernel
theorem dX5_letter_1 : decode cX5_letter 1 = .ok (.iconst 3, 1) := by decide +kernel
theorem dX5_letter_2 : decode cX5_letter 2 = .ok (.invokevirtual 39, 3) := by decide +kernel
theorem dX5_letter_5 : decode cX5_letter 5 = .ok (.ireturn, 1) := by decide +kernel
theorem dX5_function_0 : decode cX5_function 0 = .ok (.aload_n 0, 1) := by decide +kernel
theorem dX5_function_1 : decode cX5_function 1 = .ok (.iconst 2, 1) := by decide +kernel
theorem dX5_function_2 : decode cX5_function 2 = .ok (.invokevirtual 39, 3) := by decide +kernel
theorem dX5_function_5 : decode cX5_function 5 = .ok (.istore 5, 2) := by decide +kernel
theorem dX5_function_7 : decode cX5_function 7 = .ok (.aload_n 0, 1) := by decide +kernel
theorem dX5_function_8 : decode cX5_function 8 = .ok (.getfield 20, 3) := by decide +kernel
theorem dX5_function_11 : decode cX5_function 11 = .ok (.iconst 4, 1) := by decide +kernel
theorem dX5_function_12 : decode cX5_function 12 = .ok (.iload 5, 2) := by decide +kernel
theorem dX5_function_14 : decode cX5_function 14 = .ok (.imul, 1) := by decide +kernel
theorem dX5_function_15 : decode cX5_function 15 = .ok (.iload_n 1, 1) := by decide +kernel
theorem dX5_function_16 : decode cX5_function 16 = .ok (.iastore, 1) := by decide +kernel
theorem dX5_function_17 : decode cX5_function 17 = .ok (.aload_n 0, 1) := by decide +kernel
theorem dX5_function_18 : decode cX5_function 18 = .ok (.getfield 20, 3) := by decide +kernel
theorem dX5_function_21 : decode cX5_function 21 = .ok (.iconst 4, 1) := by decide +kernel
theorem dX5_function_22 : decode cX5_function 22 = .ok (.iload 5, 2) := by decide +kernel
theorem dX5_function_24 : decode cX5_function 24 = .ok (.imul, 1) := by decide +kernel
theorem dX5_function_25 : decode cX5_function 25 = .ok (.iconst 1, 1) := by decide +kernel
theorem dX5_function_26 : decode cX5_function 26 = .ok (.iadd, 1) := by decide +kernel
theorem dX5_function_27 : decode cX5_function 27 = .ok (.iload_n 2, 1) := by decide +kernel
theorem dX5_function_28 : decode cX5_function 28 = .ok (.iastore, 1) := by decide +kernel
theorem dX5_function_29 : decode cX5_function 29 = .ok (.aload_n 0, 1) := by decide +kernel
theorem dX5_function_30 : decode cX5_function 30 = .ok (.getfield 20, 3) := by decide +kernel
theorem dX5_function_33 : decode cX5_function 33 = .ok (.iconst 4, 1) := by decide +kernel
theorem dX5_function_34 : decode cX5_function 34 = .ok (.iload 5, 2) := by decide +kernel
theorem dX5_function_36 : decode cX5_function 36 = .ok (.imul, 1) := by decide +kernel
theorem dX5_function_37 : decode cX5_function 37 = .ok (.iconst 2, 1) := by decide +kernel
theorem dX5_function_38 : decode cX5_function 38 = .ok (.iadd, 1) := by decide +kernel
theorem dX5_function_39 : decode cX5_function 39 = .ok (.iload_n 3, 1) := by decide +kernel
theorem dX5_function_40 : decode cX5_function 40 = .ok (.iastore, 1) := by decide +kernel
theorem dX5_function_41 : decode cX5_function 41 = .ok (.aload_n 0, 1) := by decide +kernel
theorem dX5_function_42 : decode cX5_function 42 = .ok (.getfield 20, 3) := by decide +kernel
theorem dX5_function_45 : decode cX5_function 45 = .ok (.iconst 4, 1) := by decide +kernel
theorem dX5_function_46 : decode cX5_function 46 = .ok (.iload 5, 2) := by decide +kernel
theorem dX5_function_48 : decode cX5_function 48 = .ok (.imul, 1) := by decide +kernel
theorem dX5_function_49 : decode cX5_function 49 = .ok (.iconst 3, 1) := by decide +kernel
theorem dX5_function_50 : decode cX5_function 50 = .ok (.iadd, 1) := by decide +kernel
theorem dX5_function_51 : decode cX5_function 51 = .ok (.iload 4, 2) := by decide +kernel
theorem dX5_function_53 : decode cX5_function 53 = .ok (.iastore, 1) := by decide +kernel
theorem dX5_function_54 : decode cX5_function 54 = .ok (.iload 5, 2) := by decide +kernel
theorem dX5_function_56 : decode cX5_function 56 = .ok (.ireturn, 1) := by decide +kernel
theorem dX5_chosen_0 : decode cX5_chosen 0 = .ok (.iload_n 1, 1) := by decide +kernel
theorem dX5_chosen_1 : decode cX5_chosen 1 = .ok (.istore_n 2, 1) := by decide +kernel
theorem dX5_chosen_2 : decode cX5_chosen 2 = .ok (.iconst 0, 1) := by decide +kernel
theorem dX5_chosen_3 : decode cX5_chosen 3 = .ok (.istore_n 3, 1) := by decide +kernel
theorem dX5_chosen_4 : decode cX5_chosen 4 = .ok (.iload_n 3, 1) := by decide +kernel
theorem dX5_chosen_5 : decode cX5_chosen 5 = .ok (.aload_n 0, 1) := by decide +kernel
theorem dX5_chosen_6 : decode cX5_chosen 6 = .ok (.getfield 35, 3) := by decide +kernel
theorem dX5_chosen_9 : decode cX5_chosen 9 = .ok (.if_icmp .ge 43, 3) := by decide +kernel
theorem dX5_chosen_12 : decode cX5_chosen 12 = .ok (.aload_n 0, 1) := by decide +kernel
theorem dX5_chosen_13 : decode cX5_chosen 13 = .ok (.getfield 17, 3) := by decide +kernel
theorem dX5_chosen_16 : decode cX5_chosen 16 = .ok (.iload_n 2, 1) := by decide +kernel
theorem dX5_chosen_17 : decode cX5_chosen 17 = .ok (.iaload, 1) := by decide +kernel
theorem dX5_chosen_18 : decode cX5_chosen 18 = .ok (.iload_n 2, 1) := by decide +kernel
theorem dX5_chosen_19 : decode cX5_chosen 19 = .ok (.if_icmp .eq 33, 3) := by decide +kernel
theorem dX5_chosen_22 : decode cX5_chosen 22 = .ok (.aload_n 0, 1) := by decide +kernel
theorem dX5_chosen_23 : decode cX5_chosen 23 = .ok (.getfield 17, 3) := by decide +kernel
theorem dX5_chosen_26 : decode cX5_chosen 26 = .ok (.iload_n 2, 1) := by decide +kernel
theorem dX5_chosen_27 : decode cX5_chosen 27 = .ok (.aload_n 0, 1) := by decide +kernel
theorem dX5_chosen_28 : decode cX5_chosen 28 = .ok (.getfield 17, 3) := by decide +kernel
theorem dX5_chosen_31 : decode cX5_chosen 31 = .ok (.aload_n 0, 1) := by decide +kernel
theorem dX5_chosen_32 : decode cX5_chosen 32 = .ok (.getfield 17, 3) := by decide +kernel
theorem dX5_chosen_35 : decode cX5_chosen 35 = .ok (.iload_n 2, 1) := by decide +kernel
theorem dX5_chosen_36 : decode cX5_chosen 36 = .ok (.iaload, 1) := by decide +kernel
theorem dX5_chosen_37 : decode cX5_chosen 37 = .ok (.iaload, 1) := by decide +kernel
theorem dX5_chosen_38 : decode cX5_chosen 38 = .ok (.iastore, 1) := by decide +kernel
theorem dX5_chosen_39 : decode cX5_chosen 39 = .ok (.aload_n 0, 1) := by decide +kernel
theorem dX5_chosen_40 : decode cX5_chosen 40 = .ok (.getfield 17, 3) := by decide +kernel
theorem dX5_chosen_43 : decode cX5_chosen 43 = .ok (.iload_n 2, 1) := by decide +kernel
theorem dX5_chosen_44 : decode cX5_chosen 44 = .ok (.iaload, 1) := by decide +kernel
theorem dX5_chosen_45 : decode cX5_chosen 45 = .ok (.istore_n 2, 1) := by decide +kernel
end
section
theorem dX5_chosen_46 : decode cX5_chosen 46 = .ok (.iinc 3 1, 3) := by decide +kernel
theorem dX5_chosen_49 : decode cX5_chosen 49 = .ok (.goto (-45), 3) := by decide +kernel
theorem dX5_chosen_52 : decode cX5_chosen 52 = .ok (.iload_n 2, 1) := by decide +kernel
theorem dX5_chosen_53 : decode cX5_chosen 53 = .ok (.ireturn, 1) := by decide +kernel
theorem dX5_chosenPart_0 : decode cX5_chosenPart 0 = .ok (.aload_n 0, 1) := by decide +kernel
theorem dX5_chosenPart_1 : decode cX5_chosenPart 1 = .ok (.aload_n 0, 1) := by decide +kernel
theorem dX5_chosenPart_2 : decode cX5_chosenPart 2 = .ok (.getfield 20, 3) := by decide +kernel
theorem dX5_chosenPart_5 : decode cX5_chosenPart 5 = .ok (.iconst 4, 1) := by decide +kernel
theorem dX5_chosenPart_6 : decode cX5_chosenPart 6 = .ok (.iload_n 1, 1) := by decide +kernel
theorem dX5_chosenPart_7 : decode cX5_chosenPart 7 = .ok (.imul, 1) := by decide +kernel
theorem dX5_chosenPart_8 : decode cX5_chosenPart 8 = .ok (.iload_n 2, 1) := by decide +kernel
theorem dX5_chosenPart_9 : decode cX5_chosenPart 9 = .ok (.iadd, 1) := by decide +kernel
theorem dX5_chosenPart_10 : decode cX5_chosenPart 10 = .ok (.iaload, 1) := by decide +kernel
theorem dX5_chosenPart_11 : decode cX5_chosenPart 11 = .ok (.invokevirtual 43, 3) := by decide +kernel
theorem dX5_chosenPart_14 : decode cX5_chosenPart 14 = .ok (.ireturn, 1) := by decide +kernel
theorem dX5_makeSame_0 : decode cX5_makeSame 0 = .ok (.aload_n 0, 1) := by decide +kernel
theorem dX5_makeSame_1 : decode cX5_makeSame 1 = .ok (.iconst 0, 1) := by decide +kernel
theorem dX5_makeSame_2 : decode cX5_makeSame 2 = .ok (.putfield 46, 3) := by decide +kernel
theorem dX5_makeSame_5 : decode cX5_makeSame 5 = .ok (.aload_n 0, 1) := by decide +kernel
theorem dX5_makeSame_6 : decode cX5_makeSame 6 = .ok (.iload_n 1, 1) := by decide +kernel
theorem dX5_makeSame_7 : decode cX5_makeSame 7 = .ok (.iload_n 2, 1) := by decide +kernel
theorem dX5_makeSame_8 : decode cX5_makeSame 8 = .ok (.invokevirtual 49, 3) := by decide +kernel
theorem dX5_makeSame_11 : decode cX5_makeSame 11 = .ok (.iconst 0, 1) := by decide +kernel
theorem dX5_makeSame_12 : decode cX5_makeSame 12 = .ok (.istore_n 3, 1) := by decide +kernel
theorem dX5_makeSame_13 : decode cX5_makeSame 13 = .ok (.iload_n 3, 1) := by decide +kernel
theorem dX5_makeSame_14 : decode cX5_makeSame 14 = .ok (.sipush 481, 3) := by decide +kernel
theorem dX5_makeSame_17 : decode cX5_makeSame 17 = .ok (.if_icmp .ge 82, 3) := by decide +kernel
theorem dX5_makeSame_20 : decode cX5_makeSame 20 = .ok (.aload_n 0, 1) := by decide +kernel
theorem dX5_makeSame_21 : decode cX5_makeSame 21 = .ok (.getfield 46, 3) := by decide +kernel
theorem dX5_makeSame_24 : decode cX5_makeSame 24 = .ok (.ifCond .le 75, 3) := by decide +kernel
theorem dX5_makeSame_27 : decode cX5_makeSame 27 = .ok (.aload_n 0, 1) := by decide +kernel
theorem dX5_makeSame_28 : decode cX5_makeSame 28 = .ok (.dup, 1) := by decide +kernel
theorem dX5_makeSame_29 : decode cX5_makeSame 29 = .ok (.getfield 46, 3) := by decide +kernel
theorem dX5_makeSame_32 : decode cX5_makeSame 32 = .ok (.iconst 1, 1) := by decide +kernel
theorem dX5_makeSame_33 : decode cX5_makeSame 33 = .ok (.isub, 1) := by decide +kernel
theorem dX5_makeSame_34 : decode cX5_makeSame 34 = .ok (.putfield 46, 3) := by decide +kernel
theorem dX5_makeSame_37 : decode cX5_makeSame 37 = .ok (.aload_n 0, 1) := by decide +kernel
theorem dX5_makeSame_38 : decode cX5_makeSame 38 = .ok (.aload_n 0, 1) := by decide +kernel
theorem dX5_makeSame_39 : decode cX5_makeSame 39 = .ok (.getfield 23, 3) := by decide +kernel
theorem dX5_makeSame_42 : decode cX5_makeSame 42 = .ok (.iconst 2, 1) := by decide +kernel
theorem dX5_makeSame_43 : decode cX5_makeSame 43 = .ok (.aload_n 0, 1) := by decide +kernel
theorem dX5_makeSame_44 : decode cX5_makeSame 44 = .ok (.getfield 46, 3) := by decide +kernel
theorem dX5_makeSame_47 : decode cX5_makeSame 47 = .ok (.imul, 1) := by decide +kernel
theorem dX5_makeSame_48 : decode cX5_makeSame 48 = .ok (.iaload, 1) := by decide +kernel
theorem dX5_makeSame_49 : decode cX5_makeSame 49 = .ok (.invokevirtual 43, 3) := by decide +kernel
theorem dX5_makeSame_52 : decode cX5_makeSame 52 = .ok (.istore 4, 2) := by decide +kernel
theorem dX5_makeSame_54 : decode cX5_makeSame 54 = .ok (.aload_n 0, 1) := by decide +kernel
theorem dX5_makeSame_55 : decode cX5_makeSame 55 = .ok (.aload_n 0, 1) := by decide +kernel
theorem dX5_makeSame_56 : decode cX5_makeSame 56 = .ok (.getfield 23, 3) := by decide +kernel
theorem dX5_makeSame_59 : decode cX5_makeSame 59 = .ok (.iconst 2, 1) := by decide +kernel
theorem dX5_makeSame_60 : decode cX5_makeSame 60 = .ok (.aload_n 0, 1) := by decide +kernel
theorem dX5_makeSame_61 : decode cX5_makeSame 61 = .ok (.getfield 46, 3) := by decide +kernel
theorem dX5_makeSame_64 : decode cX5_makeSame 64 = .ok (.imul, 1) := by decide +kernel
theorem dX5_makeSame_65 : decode cX5_makeSame 65 = .ok (.iconst 1, 1) := by decide +kernel
theorem dX5_makeSame_66 : decode cX5_makeSame 66 = .ok (.iadd, 1) := by decide +kernel
theorem dX5_makeSame_67 : decode cX5_makeSame 67 = .ok (.iaload, 1) := by decide +kernel
theorem dX5_makeSame_68 : decode cX5_makeSame 68 = .ok (.invokevirtual 43, 3) := by decide +kernel
theorem dX5_makeSame_71 : decode cX5_makeSame 71 = .ok (.istore 5, 2) := by decide +kernel
theorem dX5_makeSame_73 : decode cX5_makeSame 73 = .ok (.iload 4, 2) := by decide +kernel
theorem dX5_makeSame_75 : decode cX5_makeSame 75 = .ok (.iload 5, 2) := by decide +kernel
theorem dX5_makeSame_77 : decode cX5_makeSame 77 = .ok (.if_icmp .eq 16, 3) := by decide +kernel
theorem dX5_makeSame_80 : decode cX5_makeSame 80 = .ok (.aload_n 0, 1) := by decide +kernel
theorem dX5_makeSame_81 : decode cX5_makeSame 81 = .ok (.iload 4, 2) := by decide +kernel
theorem dX5_makeSame_83 : decode cX5_makeSame 83 = .ok (.iload 5, 2) := by decide +kernel
theorem dX5_makeSame_85 : decode cX5_makeSame 85 = .ok (.invokevirtual 53, 3) := by decide +kernel
theorem dX5_makeSame_88 : decode cX5_makeSame 88 = .ok (.ifCond .ne 5, 3) := by decide +kernel
theorem dX5_makeSame_91 : decode cX5_makeSame 91 = .ok (.iconst 0, 1) := by decide +kernel
theorem dX5_makeSame_92 : decode cX5_makeSame 92 = .ok (.ireturn, 1) := by decide +kernel
theorem dX5_makeSame_93 : decode cX5_makeSame 93 = .ok (.iinc 3 1, 3) := by decide +kernel
theorem dX5_makeSame_96 : decode cX5_makeSame 96 = .ok (.goto (-83), 3) := by decide +kernel
theorem dX5_makeSame_99 : decode cX5_makeSame 99 = .ok (.iconst 1, 1) := by decide +kernel
theorem dX5_makeSame_100 : decode cX5_makeSame 100 = .ok (.ireturn, 1) := by decide +kernel
theorem dX5_noneContainsItself_0 : decode cX5_noneContainsItself 0 = .ok (.iconst 0, 1) := by decide +kernel
theorem dX5_noneContainsItself_1 : decode cX5_noneContainsItself 1 = .ok (.istore_n 1, 1) := by decide +kernel
theorem dX5_noneContainsItself_2 : decode cX5_noneContainsItself 2 = .ok (.iload_n 1, 1) := by decide +kernel
theorem dX5_noneContainsItself_3 : decode cX5_noneContainsItself 3 = .ok (.aload_n 0, 1) := by decide +kernel
theorem dX5_noneContainsItself_4 : decode cX5_noneContainsItself 4 = .ok (.getfield 35, 3) := by decide +kernel
theorem dX5_noneContainsItself_7 : decode cX5_noneContainsItself 7 = .ok (.if_icmp .ge 44, 3) := by decide +kernel
theorem dX5_noneContainsItself_10 : decode cX5_noneContainsItself 10 = .ok (.aload_n 0, 1) := by decide +kernel
theorem dX5_noneContainsItself_11 : decode cX5_noneContainsItself 11 = .ok (.iload_n 1, 1) := by decide +kernel
theorem dX5_noneContainsItself_12 : decode cX5_noneContainsItself 12 = .ok (.invokevirtual 43, 3) := by decide +kernel
theorem dX5_noneContainsItself_15 : decode cX5_noneContainsItself 15 = .ok (.istore_n 2, 1) := by decide +kernel
theorem dX5_noneContainsItself_16 : decode cX5_noneContainsItself 16 = .ok (.aload_n 0, 1) := by decide +kernel
theorem dX5_noneContainsItself_17 : decode cX5_noneContainsItself 17 = .ok (.getfield 13, 3) := by decide +kernel
theorem dX5_noneContainsItself_20 : decode cX5_noneContainsItself 20 = .ok (.iload_n 2, 1) := by decide +kernel
theorem dX5_noneContainsItself_21 : decode cX5_noneContainsItself 21 = .ok (.iaload, 1) := by decide +kernel
theorem dX5_noneContainsItself_22 : decode cX5_noneContainsItself 22 = .ok (.iconst 2, 1) := by decide +kernel
theorem dX5_noneContainsItself_23 : decode cX5_noneContainsItself 23 = .ok (.if_icmp .ne 22, 3) := by decide +kernel
theorem dX5_noneContainsItself_26 : decode cX5_noneContainsItself 26 = .ok (.aload_n 0, 1) := by decide +kernel
theorem dX5_noneContainsItself_27 : decode cX5_noneContainsItself 27 = .ok (.getfield 26, 3) := by decide +kernel
theorem dX5_noneContainsItself_30 : decode cX5_noneContainsItself 30 = .ok (.iload_n 2, 1) := by decide +kernel
theorem dX5_noneContainsItself_31 : decode cX5_noneContainsItself 31 = .ok (.iaload, 1) := by decide +kernel
theorem dX5_noneContainsItself_32 : decode cX5_noneContainsItself 32 = .ok (.ifCond .ne 13, 3) := by decide +kernel
theorem dX5_noneContainsItself_35 : decode cX5_noneContainsItself 35 = .ok (.aload_n 0, 1) := by decide +kernel
theorem dX5_noneContainsItself_36 : decode cX5_noneContainsItself 36 = .ok (.iload_n 2, 1) := by decide +kernel
theorem dX5_noneContainsItself_37 : decode cX5_noneContainsItself 37 = .ok (.invokevirtual 57, 3) := by decide +kernel
theorem dX5_noneContainsItself_40 : decode cX5_noneContainsItself 40 = .ok (.ifCond .ne 5, 3) := by decide +kernel
theorem dX5_noneContainsItself_43 : decode cX5_noneContainsItself 43 = .ok (.iconst 0, 1) := by decide +kernel
theorem dX5_noneContainsItself_44 : decode cX5_noneContainsItself 44 = .ok (.ireturn, 1) := by decide +kernel
theorem dX5_noneContainsItself_45 : decode cX5_noneContainsItself 45 = .ok (.iinc 1 1, 3) := by decide +kernel
theorem dX5_noneContainsItself_48 : decode cX5_noneContainsItself 48 = .ok (.goto (-46), 3) := by decide +kernel
theorem dX5_noneContainsItself_51 : decode cX5_noneContainsItself 51 = .ok (.iconst 1, 1) := by decide +kernel
theorem dX5_noneContainsItself_52 : decode cX5_noneContainsItself 52 = .ok (.ireturn, 1) := by decide +kernel
theorem dX5_addNode_0 : decode cX5_addNode 0 = .ok (.aload_n 0, 1) := by decide +kernel
theorem dX5_addNode_1 : decode cX5_addNode 1 = .ok (.getfield 13, 3) := by decide +kernel
theorem dX5_addNode_4 : decode cX5_addNode 4 = .ok (.aload_n 0, 1) := by decide +kernel
theorem dX5_addNode_5 : decode cX5_addNode 5 = .ok (.getfield 35, 3) := by decide +kernel
theorem dX5_addNode_8 : decode cX5_addNode 8 = .ok (.iload_n 1, 1) := by decide +kernel
theorem dX5_addNode_9 : decode cX5_addNode 9 = .ok (.iastore, 1) := by decide +kernel
theorem dX5_addNode_10 : decode cX5_addNode 10 = .ok (.aload_n 0, 1) := by decide +kernel
theorem dX5_addNode_11 : decode cX5_addNode 11 = .ok (.getfield 17, 3) := by decide +kernel
theorem dX5_addNode_14 : decode cX5_addNode 14 = .ok (.aload_n 0, 1) := by decide +kernel
theorem dX5_addNode_15 : decode cX5_addNode 15 = .ok (.getfield 35, 3) := by decide +kernel
theorem dX5_addNode_18 : decode cX5_addNode 18 = .ok (.aload_n 0, 1) := by decide +kernel
theorem dX5_addNode_19 : decode cX5_addNode 19 = .ok (.getfield 35, 3) := by decide +kernel
theorem dX5_addNode_22 : decode cX5_addNode 22 = .ok (.iastore, 1) := by decide +kernel
theorem dX5_addNode_23 : decode cX5_addNode 23 = .ok (.aload_n 0, 1) := by decide +kernel
theorem dX5_addNode_24 : decode cX5_addNode 24 = .ok (.getfield 26, 3) := by decide +kernel
theorem dX5_addNode_27 : decode cX5_addNode 27 = .ok (.aload_n 0, 1) := by decide +kernel
theorem dX5_addNode_28 : decode cX5_addNode 28 = .ok (.getfield 35, 3) := by decide +kernel
theorem dX5_addNode_31 : decode cX5_addNode 31 = .ok (.iconst 0, 1) := by decide +kernel
theorem dX5_addNode_32 : decode cX5_addNode 32 = .ok (.iastore, 1) := by decide +kernel
theorem dX5_addNode_33 : decode cX5_addNode 33 = .ok (.aload_n 0, 1) := by decide +kernel
theorem dX5_addNode_34 : decode cX5_addNode 34 = .ok (.getfield 29, 3) := by decide +kernel
theorem dX5_addNode_37 : decode cX5_addNode 37 = .ok (.aload_n 0, 1) := by decide +kernel
theorem dX5_addNode_38 : decode cX5_addNode 38 = .ok (.getfield 35, 3) := by decide +kernel
theorem dX5_addNode_41 : decode cX5_addNode 41 = .ok (.iconst 0, 1) := by decide +kernel
theorem dX5_addNode_42 : decode cX5_addNode 42 = .ok (.iastore, 1) := by decide +kernel
theorem dX5_addNode_43 : decode cX5_addNode 43 = .ok (.aload_n 0, 1) := by decide +kernel
theorem dX5_addNode_44 : decode cX5_addNode 44 = .ok (.dup, 1) := by decide +kernel
theorem dX5_addNode_45 : decode cX5_addNode 45 = .ok (.getfield 35, 3) := by decide +kernel
theorem dX5_addNode_48 : decode cX5_addNode 48 = .ok (.dup_x1, 1) := by decide +kernel
theorem dX5_addNode_49 : decode cX5_addNode 49 = .ok (.iconst 1, 1) := by decide +kernel
theorem dX5_addNode_50 : decode cX5_addNode 50 = .ok (.iadd, 1) := by decide +kernel
theorem dX5_addNode_51 : decode cX5_addNode 51 = .ok (.putfield 35, 3) := by decide +kernel
theorem dX5_addNode_54 : decode cX5_addNode 54 = .ok (.ireturn, 1) := by decide +kernel
theorem dX5_addPair_0 : decode cX5_addPair 0 = .ok (.aload_n 0, 1) := by decide +kernel
theorem dX5_addPair_1 : decode cX5_addPair 1 = .ok (.getfield 23, 3) := by decide +kernel
theorem dX5_addPair_4 : decode cX5_addPair 4 = .ok (.iconst 2, 1) := by decide +kernel
theorem dX5_addPair_5 : decode cX5_addPair 5 = .ok (.aload_n 0, 1) := by decide +kernel
theorem dX5_addPair_6 : decode cX5_addPair 6 = .ok (.getfield 46, 3) := by decide +kernel
theorem dX5_addPair_9 : decode cX5_addPair 9 = .ok (.imul, 1) := by decide +kernel
theorem dX5_addPair_10 : decode cX5_addPair 10 = .ok (.iload_n 1, 1) := by decide +kernel
theorem dX5_addPair_11 : decode cX5_addPair 11 = .ok (.iastore, 1) := by decide +kernel
theorem dX5_addPair_12 : decode cX5_addPair 12 = .ok (.aload_n 0, 1) := by decide +kernel
theorem dX5_addPair_13 : decode cX5_addPair 13 = .ok (.getfield 23, 3) := by decide +kernel
theorem dX5_addPair_16 : decode cX5_addPair 16 = .ok (.iconst 2, 1) := by decide +kernel
theorem dX5_addPair_17 : decode cX5_addPair 17 = .ok (.aload_n 0, 1) := by decide +kernel
theorem dX5_addPair_18 : decode cX5_addPair 18 = .ok (.getfield 46, 3) := by decide +kernel
theorem dX5_addPair_21 : decode cX5_addPair 21 = .ok (.imul, 1) := by decide +kernel
theorem dX5_addPair_22 : decode cX5_addPair 22 = .ok (.iconst 1, 1) := by decide +kernel
theorem dX5_addPair_23 : decode cX5_addPair 23 = .ok (.iadd, 1) := by decide +kernel
theorem dX5_addPair_24 : decode cX5_addPair 24 = .ok (.iload_n 2, 1) := by decide +kernel
theorem dX5_addPair_25 : decode cX5_addPair 25 = .ok (.iastore, 1) := by decide +kernel
theorem dX5_addPair_26 : decode cX5_addPair 26 = .ok (.aload_n 0, 1) := by decide +kernel
theorem dX5_addPair_27 : decode cX5_addPair 27 = .ok (.dup, 1) := by decide +kernel
theorem dX5_addPair_28 : decode cX5_addPair 28 = .ok (.getfield 46, 3) := by decide +kernel
theorem dX5_addPair_31 : decode cX5_addPair 31 = .ok (.iconst 1, 1) := by decide +kernel
theorem dX5_addPair_32 : decode cX5_addPair 32 = .ok (.iadd, 1) := by decide +kernel
theorem dX5_addPair_33 : decode cX5_addPair 33 = .ok (.putfield 46, 3) := by decide +kernel
theorem dX5_addPair_36 : decode cX5_addPair 36 = .ok (.return_, 1) := by decide +kernel
theorem dX5_join_0 : decode cX5_join 0 = .ok (.aload_n 0, 1) := by decide +kernel
theorem dX5_join_1 : decode cX5_join 1 = .ok (.getfield 13, 3) := by decide +kernel
theorem dX5_join_4 : decode cX5_join 4 = .ok (.iload_n 1, 1) := by decide +kernel
theorem dX5_join_5 : decode cX5_join 5 = .ok (.iaload, 1) := by decide +kernel
theorem dX5_join_6 : decode cX5_join 6 = .ok (.iconst 3, 1) := by decide +kernel
theorem dX5_join_7 : decode cX5_join 7 = .ok (.if_icmp .ne 12, 3) := by decide +kernel
theorem dX5_join_10 : decode cX5_join 10 = .ok (.aload_n 0, 1) := by decide +kernel
theorem dX5_join_11 : decode cX5_join 11 = .ok (.getfield 17, 3) := by decide +kernel
theorem dX5_join_14 : decode cX5_join 14 = .ok (.iload_n 1, 1) := by decide +kernel
theorem dX5_join_15 : decode cX5_join 15 = .ok (.iload_n 2, 1) := by decide +kernel
theorem dX5_join_16 : decode cX5_join 16 = .ok (.iastore, 1) := by decide +kernel
theorem dX5_join_17 : decode cX5_join 17 = .ok (.iconst 1, 1) := by decide +kernel
theorem dX5_join_18 : decode cX5_join 18 = .ok (.ireturn, 1) := by decide +kernel
theorem dX5_join_19 : decode cX5_join 19 = .ok (.aload_n 0, 1) := by decide +kernel
theorem dX5_join_20 : decode cX5_join 20 = .ok (.getfield 13, 3) := by decide +kernel
theorem dX5_join_23 : decode cX5_join 23 = .ok (.iload_n 2, 1) := by decide +kernel
theorem dX5_join_24 : decode cX5_join 24 = .ok (.iaload, 1) := by decide +kernel
theorem dX5_join_25 : decode cX5_join 25 = .ok (.iconst 3, 1) := by decide +kernel
theorem dX5_join_26 : decode cX5_join 26 = .ok (.if_icmp .ne 12, 3) := by decide +kernel
theorem dX5_join_29 : decode cX5_join 29 = .ok (.aload_n 0, 1) := by decide +kernel
theorem dX5_join_30 : decode cX5_join 30 = .ok (.getfield 17, 3) := by decide +kernel
theorem dX5_join_33 : decode cX5_join 33 = .ok (.iload_n 2, 1) := by decide +kernel
theorem dX5_join_34 : decode cX5_join 34 = .ok (.iload_n 1, 1) := by decide +kernel
theorem dX5_join_35 : decode cX5_join 35 = .ok (.iastore, 1) := by decide +kernel
theorem dX5_join_36 : decode cX5_join 36 = .ok (.iconst 1, 1) := by decide +kernel
theorem dX5_join_37 : decode cX5_join 37 = .ok (.ireturn, 1) := by decide +kernel
theorem dX5_join_38 : decode cX5_join 38 = .ok (.aload_n 0, 1) := by decide +kernel
theorem dX5_join_39 : decode cX5_join 39 = .ok (.getfield 13, 3) := by decide +kernel
theorem dX5_join_42 : decode cX5_join 42 = .ok (.iload_n 1, 1) := by decide +kernel
theorem dX5_join_43 : decode cX5_join 43 = .ok (.iaload, 1) := by decide +kernel
theorem dX5_join_44 : decode cX5_join 44 = .ok (.iconst 2, 1) := by decide +kernel
theorem dX5_join_45 : decode cX5_join 45 = .ok (.if_icmp .ne 13, 3) := by decide +kernel
theorem dX5_join_48 : decode cX5_join 48 = .ok (.aload_n 0, 1) := by decide +kernel
theorem dX5_join_49 : decode cX5_join 49 = .ok (.getfield 13, 3) := by decide +kernel
theorem dX5_join_52 : decode cX5_join 52 = .ok (.iload_n 2, 1) := by decide +kernel
theorem dX5_join_53 : decode cX5_join 53 = .ok (.iaload, 1) := by decide +kernel
theorem dX5_join_54 : decode cX5_join 54 = .ok (.iconst 2, 1) := by decide +kernel
theorem dX5_join_55 : decode cX5_join 55 = .ok (.if_icmp .eq 5, 3) := by decide +kernel
theorem dX5_join_58 : decode cX5_join 58 = .ok (.iconst 0, 1) := by decide +kernel
theorem dX5_join_59 : decode cX5_join 59 = .ok (.ireturn, 1) := by decide +kernel
theorem dX5_join_60 : decode cX5_join 60 = .ok (.aload_n 0, 1) := by decide +kernel
theorem dX5_join_61 : decode cX5_join 61 = .ok (.getfield 17, 3) := by decide +kernel
theorem dX5_join_64 : decode cX5_join 64 = .ok (.iload_n 1, 1) := by decide +kernel
theorem dX5_join_65 : decode cX5_join 65 = .ok (.iload_n 2, 1) := by decide +kernel
theorem dX5_join_66 : decode cX5_join 66 = .ok (.iastore, 1) := by decide +kernel
theorem dX5_join_67 : decode cX5_join 67 = .ok (.iconst 0, 1) := by decide +kernel
theorem dX5_join_68 : decode cX5_join 68 = .ok (.istore_n 3, 1) := by decide +kernel
theorem dX5_join_69 : decode cX5_join 69 = .ok (.iload_n 3, 1) := by decide +kernel
theorem dX5_join_70 : decode cX5_join 70 = .ok (.iconst 4, 1) := by decide +kernel
theorem dX5_join_71 : decode cX5_join 71 = .ok (.if_icmp .ge 33, 3) := by decide +kernel
theorem dX5_join_74 : decode cX5_join 74 = .ok (.aload_n 0, 1) := by decide +kernel
theorem dX5_join_75 : decode cX5_join 75 = .ok (.aload_n 0, 1) := by decide +kernel
theorem dX5_join_76 : decode cX5_join 76 = .ok (.getfield 20, 3) := by decide +kernel
theorem dX5_join_79 : decode cX5_join 79 = .ok (.iconst 4, 1) := by decide +kernel
theorem dX5_join_80 : decode cX5_join 80 = .ok (.iload_n 1, 1) := by decide +kernel
theorem dX5_join_81 : decode cX5_join 81 = .ok (.imul, 1) := by decide +kernel
theorem dX5_join_82 : decode cX5_join 82 = .ok (.iload_n 3, 1) := by decide +kernel
theorem dX5_join_83 : decode cX5_join 83 = .ok (.iadd, 1) := by decide +kernel
theorem dX5_join_84 : decode cX5_join 84 = .ok (.iaload, 1) := by decide +kernel
theorem dX5_join_85 : decode cX5_join 85 = .ok (.aload_n 0, 1) := by decide +kernel
theorem dX5_join_86 : decode cX5_join 86 = .ok (.getfield 20, 3) := by decide +kernel
theorem dX5_join_89 : decode cX5_join 89 = .ok (.iconst 4, 1) := by decide +kernel
theorem dX5_join_90 : decode cX5_join 90 = .ok (.iload_n 2, 1) := by decide +kernel
theorem dX5_join_91 : decode cX5_join 91 = .ok (.imul, 1) := by decide +kernel
theorem dX5_join_92 : decode cX5_join 92 = .ok (.iload_n 3, 1) := by decide +kernel
theorem dX5_join_93 : decode cX5_join 93 = .ok (.iadd, 1) := by decide +kernel
theorem dX5_join_94 : decode cX5_join 94 = .ok (.iaload, 1) := by decide +kernel
theorem dX5_join_95 : decode cX5_join 95 = .ok (.invokevirtual 49, 3) := by decide +kernel
theorem dX5_join_98 : decode cX5_join 98 = .ok (.iinc 3 1, 3) := by decide +kernel
theorem dX5_join_101 : decode cX5_join 101 = .ok (.goto (-32), 3) := by decide +kernel
theorem dX5_join_104 : decode cX5_join 104 = .ok (.iconst 1, 1) := by decide +kernel
theorem dX5_join_105 : decode cX5_join 105 = .ok (.ireturn, 1) := by decide +kernel
theorem dX5_endsEverywhere_0 : decode cX5_endsEverywhere 0 = .ok (.iconst 1, 1) := by decide +kernel
theorem dX5_endsEverywhere_1 : decode cX5_endsEverywhere 1 = .ok (.istore_n 2, 1) := by decide +kernel
theorem dX5_endsEverywhere_2 : decode cX5_endsEverywhere 2 = .ok (.aload_n 0, 1) := by decide +kernel
theorem dX5_endsEverywhere_3 : decode cX5_endsEverywhere 3 = .ok (.getfield 32, 3) := by decide +kernel
theorem dX5_endsEverywhere_6 : decode cX5_endsEverywhere 6 = .ok (.iconst 0, 1) := by decide +kernel
theorem dX5_endsEverywhere_7 : decode cX5_endsEverywhere 7 = .ok (.iload_n 1, 1) := by decide +kernel
theorem dX5_endsEverywhere_8 : decode cX5_endsEverywhere 8 = .ok (.iastore, 1) := by decide +kernel
theorem dX5_endsEverywhere_9 : decode cX5_endsEverywhere 9 = .ok (.aload_n 0, 1) := by decide +kernel
theorem dX5_endsEverywhere_10 : decode cX5_endsEverywhere 10 = .ok (.getfield 26, 3) := by decide +kernel
theorem dX5_endsEverywhere_13 : decode cX5_endsEverywhere 13 = .ok (.iload_n 1, 1) := by decide +kernel
theorem dX5_endsEverywhere_14 : decode cX5_endsEverywhere 14 = .ok (.iconst 1, 1) := by decide +kernel
theorem dX5_endsEverywhere_15 : decode cX5_endsEverywhere 15 = .ok (.iastore, 1) := by decide +kernel
theorem dX5_endsEverywhere_16 : decode cX5_endsEverywhere 16 = .ok (.iconst 0, 1) := by decide +kernel
theorem dX5_endsEverywhere_17 : decode cX5_endsEverywhere 17 = .ok (.istore_n 3, 1) := by decide +kernel
theorem dX5_endsEverywhere_18 : decode cX5_endsEverywhere 18 = .ok (.iload_n 3, 1) := by decide +kernel
theorem dX5_endsEverywhere_19 : decode cX5_endsEverywhere 19 = .ok (.sipush 3020, 3) := by decide +kernel
theorem dX5_endsEverywhere_22 : decode cX5_endsEverywhere 22 = .ok (.if_icmp .ge 138, 3) := by decide +kernel
theorem dX5_endsEverywhere_25 : decode cX5_endsEverywhere 25 = .ok (.iload_n 2, 1) := by decide +kernel
theorem dX5_endsEverywhere_26 : decode cX5_endsEverywhere 26 = .ok (.ifCond .le 134, 3) := by decide +kernel
theorem dX5_endsEverywhere_29 : decode cX5_endsEverywhere 29 = .ok (.aload_n 0, 1) := by decide +kernel
theorem dX5_endsEverywhere_30 : decode cX5_endsEverywhere 30 = .ok (.getfield 32, 3) := by decide +kernel
theorem dX5_endsEverywhere_33 : decode cX5_endsEverywhere 33 = .ok (.iload_n 2, 1) := by decide +kernel
theorem dX5_endsEverywhere_34 : decode cX5_endsEverywhere 34 = .ok (.iconst 1, 1) := by decide +kernel
theorem dX5_endsEverywhere_35 : decode cX5_endsEverywhere 35 = .ok (.isub, 1) := by decide +kernel
theorem dX5_endsEverywhere_36 : decode cX5_endsEverywhere 36 = .ok (.iaload, 1) := by decide +kernel
theorem dX5_endsEverywhere_37 : decode cX5_endsEverywhere 37 = .ok (.istore 4, 2) := by decide +kernel
theorem dX5_endsEverywhere_39 : decode cX5_endsEverywhere 39 = .ok (.aload_n 0, 1) := by decide +kernel
theorem dX5_endsEverywhere_40 : decode cX5_endsEverywhere 40 = .ok (.getfield 29, 3) := by decide +kernel
theorem dX5_endsEverywhere_43 : decode cX5_endsEverywhere 43 = .ok (.iload 4, 2) := by decide +kernel
theorem dX5_endsEverywhere_45 : decode cX5_endsEverywhere 45 = .ok (.iaload, 1) := by decide +kernel
theorem dX5_endsEverywhere_46 : decode cX5_endsEverywhere 46 = .ok (.iconst 4, 1) := by decide +kernel
theorem dX5_endsEverywhere_47 : decode cX5_endsEverywhere 47 = .ok (.if_icmp .ne 17, 3) := by decide +kernel
theorem dX5_endsEverywhere_50 : decode cX5_endsEverywhere 50 = .ok (.aload_n 0, 1) := by decide +kernel
theorem dX5_endsEverywhere_51 : decode cX5_endsEverywhere 51 = .ok (.getfield 26, 3) := by decide +kernel
theorem dX5_endsEverywhere_54 : decode cX5_endsEverywhere 54 = .ok (.iload 4, 2) := by decide +kernel
theorem dX5_endsEverywhere_56 : decode cX5_endsEverywhere 56 = .ok (.iconst 2, 1) := by decide +kernel
theorem dX5_endsEverywhere_57 : decode cX5_endsEverywhere 57 = .ok (.iastore, 1) := by decide +kernel
theorem dX5_endsEverywhere_58 : decode cX5_endsEverywhere 58 = .ok (.iinc 2 (-1), 3) := by decide +kernel
theorem dX5_endsEverywhere_61 : decode cX5_endsEverywhere 61 = .ok (.goto 93, 3) := by decide +kernel
theorem dX5_endsEverywhere_64 : decode cX5_endsEverywhere 64 = .ok (.aload_n 0, 1) := by decide +kernel
theorem dX5_endsEverywhere_65 : decode cX5_endsEverywhere 65 = .ok (.iload 4, 2) := by decide +kernel
theorem dX5_endsEverywhere_67 : decode cX5_endsEverywhere 67 = .ok (.aload_n 0, 1) := by decide +kernel
theorem dX5_endsEverywhere_68 : decode cX5_endsEverywhere 68 = .ok (.getfield 29, 3) := by decide +kernel
theorem dX5_endsEverywhere_71 : decode cX5_endsEverywhere 71 = .ok (.iload 4, 2) := by decide +kernel
theorem dX5_endsEverywhere_73 : decode cX5_endsEverywhere 73 = .ok (.iaload, 1) := by decide +kernel
theorem dX5_endsEverywhere_74 : decode cX5_endsEverywhere 74 = .ok (.invokevirtual 61, 3) := by decide +kernel
theorem dX5_endsEverywhere_77 : decode cX5_endsEverywhere 77 = .ok (.istore 5, 2) := by decide +kernel
theorem dX5_endsEverywhere_79 : decode cX5_endsEverywhere 79 = .ok (.aload_n 0, 1) := by decide +kernel
theorem dX5_endsEverywhere_80 : decode cX5_endsEverywhere 80 = .ok (.getfield 29, 3) := by decide +kernel
theorem dX5_endsEverywhere_83 : decode cX5_endsEverywhere 83 = .ok (.iload 4, 2) := by decide +kernel
theorem dX5_endsEverywhere_85 : decode cX5_endsEverywhere 85 = .ok (.dup2, 1) := by decide +kernel
theorem dX5_endsEverywhere_86 : decode cX5_endsEverywhere 86 = .ok (.iaload, 1) := by decide +kernel
theorem dX5_endsEverywhere_87 : decode cX5_endsEverywhere 87 = .ok (.iconst 1, 1) := by decide +kernel
theorem dX5_endsEverywhere_88 : decode cX5_endsEverywhere 88 = .ok (.iadd, 1) := by decide +kernel
theorem dX5_endsEverywhere_89 : decode cX5_endsEverywhere 89 = .ok (.iastore, 1) := by decide +kernel
theorem dX5_endsEverywhere_90 : decode cX5_endsEverywhere 90 = .ok (.aload_n 0, 1) := by decide +kernel
theorem dX5_endsEverywhere_91 : decode cX5_endsEverywhere 91 = .ok (.getfield 13, 3) := by decide +kernel
theorem dX5_endsEverywhere_94 : decode cX5_endsEverywhere 94 = .ok (.iload 5, 2) := by decide +kernel
theorem dX5_endsEverywhere_96 : decode cX5_endsEverywhere 96 = .ok (.iaload, 1) := by decide +kernel
theorem dX5_endsEverywhere_97 : decode cX5_endsEverywhere 97 = .ok (.iconst 2, 1) := by decide +kernel
theorem dX5_endsEverywhere_98 : decode cX5_endsEverywhere 98 = .ok (.if_icmp .ne 16, 3) := by decide +kernel
theorem dX5_endsEverywhere_101 : decode cX5_endsEverywhere 101 = .ok (.aload_n 0, 1) := by decide +kernel
theorem dX5_endsEverywhere_102 : decode cX5_endsEverywhere 102 = .ok (.getfield 26, 3) := by decide +kernel
theorem dX5_endsEverywhere_105 : decode cX5_endsEverywhere 105 = .ok (.iload 5, 2) := by decide +kernel
theorem dX5_endsEverywhere_107 : decode cX5_endsEverywhere 107 = .ok (.iaload, 1) := by decide +kernel
theorem dX5_endsEverywhere_108 : decode cX5_endsEverywhere 108 = .ok (.iconst 1, 1) := by decide +kernel
theorem dX5_endsEverywhere_109 : decode cX5_endsEverywhere 109 = .ok (.if_icmp .ne 5, 3) := by decide +kernel
theorem dX5_endsEverywhere_112 : decode cX5_endsEverywhere 112 = .ok (.iconst 0, 1) := by decide +kernel
theorem dX5_endsEverywhere_113 : decode cX5_endsEverywhere 113 = .ok (.ireturn, 1) := by decide +kernel
theorem dX5_endsEverywhere_114 : decode cX5_endsEverywhere 114 = .ok (.aload_n 0, 1) := by decide +kernel
theorem dX5_endsEverywhere_115 : decode cX5_endsEverywhere 115 = .ok (.getfield 13, 3) := by decide +kernel
theorem dX5_endsEverywhere_118 : decode cX5_endsEverywhere 118 = .ok (.iload 5, 2) := by decide +kernel
theorem dX5_endsEverywhere_120 : decode cX5_endsEverywhere 120 = .ok (.iaload, 1) := by decide +kernel
theorem dX5_endsEverywhere_121 : decode cX5_endsEverywhere 121 = .ok (.iconst 2, 1) := by decide +kernel
theorem dX5_endsEverywhere_122 : decode cX5_endsEverywhere 122 = .ok (.if_icmp .ne 32, 3) := by decide +kernel
theorem dX5_endsEverywhere_125 : decode cX5_endsEverywhere 125 = .ok (.aload_n 0, 1) := by decide +kernel
theorem dX5_endsEverywhere_126 : decode cX5_endsEverywhere 126 = .ok (.getfield 26, 3) := by decide +kernel
theorem dX5_endsEverywhere_129 : decode cX5_endsEverywhere 129 = .ok (.iload 5, 2) := by decide +kernel
theorem dX5_endsEverywhere_131 : decode cX5_endsEverywhere 131 = .ok (.iaload, 1) := by decide +kernel
theorem dX5_endsEverywhere_132 : decode cX5_endsEverywhere 132 = .ok (.ifCond .ne 22, 3) := by decide +kernel
theorem dX5_endsEverywhere_135 : decode cX5_endsEverywhere 135 = .ok (.aload_n 0, 1) := by decide +kernel
theorem dX5_endsEverywhere_136 : decode cX5_endsEverywhere 136 = .ok (.getfield 26, 3) := by decide +kernel
theorem dX5_endsEverywhere_139 : decode cX5_endsEverywhere 139 = .ok (.iload 5, 2) := by decide +kernel
theorem dX5_endsEverywhere_141 : decode cX5_endsEverywhere 141 = .ok (.iconst 1, 1) := by decide +kernel
theorem dX5_endsEverywhere_142 : decode cX5_endsEverywhere 142 = .ok (.iastore, 1) := by decide +kernel
theorem dX5_endsEverywhere_143 : decode cX5_endsEverywhere 143 = .ok (.aload_n 0, 1) := by decide +kernel
theorem dX5_endsEverywhere_144 : decode cX5_endsEverywhere 144 = .ok (.getfield 32, 3) := by decide +kernel
theorem dX5_endsEverywhere_147 : decode cX5_endsEverywhere 147 = .ok (.iload_n 2, 1) := by decide +kernel
theorem dX5_endsEverywhere_148 : decode cX5_endsEverywhere 148 = .ok (.iload 5, 2) := by decide +kernel
theorem dX5_endsEverywhere_150 : decode cX5_endsEverywhere 150 = .ok (.iastore, 1) := by decide +kernel
theorem dX5_endsEverywhere_151 : decode cX5_endsEverywhere 151 = .ok (.iinc 2 1, 3) := by decide +kernel
theorem dX5_endsEverywhere_154 : decode cX5_endsEverywhere 154 = .ok (.iinc 3 1, 3) := by decide +kernel
theorem dX5_endsEverywhere_157 : decode cX5_endsEverywhere 157 = .ok (.goto (-139), 3) := by decide +kernel
theorem dX5_endsEverywhere_160 : decode cX5_endsEverywhere 160 = .ok (.iconst 1, 1) := by decide +kernel
theorem dX5_endsEverywhere_161 : decode cX5_endsEverywhere 161 = .ok (.ireturn, 1) := by decide +kernel
theorem dX6_init_0 : decode cX6_init 0 = .ok (.aload_n 0, 1) := by decide +kernel
theorem dX6_init_1 : decode cX6_init 1 = .ok (.invokespecial 5, 3) := by decide +kernel
theorem dX6_init_4 : decode cX6_init 4 = .ok (.aload_n 0, 1) := by decide +kernel
theorem dX6_init_5 : decode cX6_init 5 = .ok (.new 11, 3) := by decide +kernel
theorem dX6_init_8 : decode cX6_init 8 = .ok (.dup, 1) := by decide +kernel
theorem dX6_init_9 : decode cX6_init 9 = .ok (.invokespecial 13, 3) := by decide +kernel
theorem dX6_init_12 : decode cX6_init 12 = .ok (.putfield 14, 3) := by decide +kernel
theorem dX6_init_15 : decode cX6_init 15 = .ok (.aload_n 0, 1) := by decide +kernel
theorem dX6_init_16 : decode cX6_init 16 = .ok (.bipush 18, 2) := by decide +kernel
theorem dX6_init_18 : decode cX6_init 18 = .ok (.newarray .int, 2) := by decide +kernel
theorem dX6_init_20 : decode cX6_init 20 = .ok (.putfield 20, 3) := by decide +kernel
theorem dX6_init_23 : decode cX6_init 23 = .ok (.aload_n 0, 1) := by decide +kernel
theorem dX6_init_24 : decode cX6_init 24 = .ok (.bipush 18, 2) := by decide +kernel
theorem dX6_init_26 : decode cX6_init 26 = .ok (.newarray .int, 2) := by decide +kernel
theorem dX6_init_28 : decode cX6_init 28 = .ok (.putfield 24, 3) := by decide +kernel
theorem dX6_init_31 : decode cX6_init 31 = .ok (.aload_n 0, 1) := by decide +kernel
theorem dX6_init_32 : decode cX6_init 32 = .ok (.aload_n 1, 1) := by decide +kernel
theorem dX6_init_33 : decode cX6_init 33 = .ok (.putfield 27, 3) := by decide +kernel
theorem dX6_init_36 : decode cX6_init 36 = .ok (.return_, 1) := by decide +kernel
theorem dX6_typeOfWhole_0 : decode cX6_typeOfWhole 0 = .ok (.aload_n 0, 1) := by decide +kernel
theorem dX6_typeOfWhole_1 : decode cX6_typeOfWhole 1 = .ok (.getfield 14, 3) := by decide +kernel
theorem dX6_typeOfWhole_4 : decode cX6_typeOfWhole 4 = .ok (.invokevirtual 31, 3) := by decide +kernel
theorem dX6_typeOfWhole_7 : decode cX6_typeOfWhole 7 = .ok (.aload_n 0, 1) := by decide +kernel
theorem dX6_typeOfWhole_8 : decode cX6_typeOfWhole 8 = .ok (.iconst 0, 1) := by decide +kernel
theorem dX6_typeOfWhole_9 : decode cX6_typeOfWhole 9 = .ok (.putfield 34, 3) := by decide +kernel
theorem dX6_typeOfWhole_12 : decode cX6_typeOfWhole 12 = .ok (.aload_n 0, 1) := by decide +kernel
theorem dX6_typeOfWhole_13 : decode cX6_typeOfWhole 13 = .ok (.getfield 14, 3) := by decide +kernel
theorem dX6_typeOfWhole_16 : decode cX6_typeOfWhole 16 = .ok (.invokevirtual 38, 3) := by decide +kernel
theorem dX6_typeOfWhole_19 : decode cX6_typeOfWhole 19 = .ok (.istore_n 2, 1) := by decide +kernel
theorem dX6_typeOfWhole_20 : decode cX6_typeOfWhole 20 = .ok (.aload_n 0, 1) := by decide +kernel
theorem dX6_typeOfWhole_21 : decode cX6_typeOfWhole 21 = .ok (.getfield 14, 3) := by decide +kernel
theorem dX6_typeOfWhole_24 : decode cX6_typeOfWhole 24 = .ok (.invokevirtual 38, 3) := by decide +kernel
theorem dX6_typeOfWhole_27 : decode cX6_typeOfWhole 27 = .ok (.istore_n 3, 1) := by decide +kernel
theorem dX6_typeOfWhole_28 : decode cX6_typeOfWhole 28 = .ok (.aload_n 0, 1) := by decide +kernel
theorem dX6_typeOfWhole_29 : decode cX6_typeOfWhole 29 = .ok (.iload_n 1, 1) := by decide +kernel
theorem dX6_typeOfWhole_30 : decode cX6_typeOfWhole 30 = .ok (.iload_n 2, 1) := by decide +kernel
theorem dX6_typeOfWhole_31 : decode cX6_typeOfWhole 31 = .ok (.iload_n 2, 1) := by decide +kernel
theorem dX6_typeOfWhole_32 : decode cX6_typeOfWhole 32 = .ok (.iload_n 3, 1) := by decide +kernel
theorem dX6_typeOfWhole_33 : decode cX6_typeOfWhole 33 = .ok (.iconst 1, 1) := by decide +kernel
theorem dX6_typeOfWhole_34 : decode cX6_typeOfWhole 34 = .ok (.invokevirtual 42, 3) := by decide +kernel
theorem dX6_typeOfWhole_37 : decode cX6_typeOfWhole 37 = .ok (.ifCond .eq 13, 3) := by decide +kernel
theorem dX6_typeOfWhole_40 : decode cX6_typeOfWhole 40 = .ok (.aload_n 0, 1) := by decide +kernel
theorem dX6_typeOfWhole_41 : decode cX6_typeOfWhole 41 = .ok (.getfield 14, 3) := by decide +kernel
theorem dX6_typeOfWhole_44 : decode cX6_typeOfWhole 44 = .ok (.invokevirtual 46, 3) := by decide +kernel
theorem dX6_typeOfWhole_47 : decode cX6_typeOfWhole 47 = .ok (.ifCond .ne 5, 3) := by decide +kernel
theorem dX6_typeOfWhole_50 : decode cX6_typeOfWhole 50 = .ok (.iconst (-1), 1) := by decide +kernel
theorem dX6_typeOfWhole_51 : decode cX6_typeOfWhole 51 = .ok (.ireturn, 1) := by decide +kernel
theorem dX6_typeOfWhole_52 : decode cX6_typeOfWhole 52 = .ok (.iload_n 3, 1) := by decide +kernel
theorem dX6_typeOfWhole_53 : decode cX6_typeOfWhole 53 = .ok (.ireturn, 1) := by decide +kernel
theorem dX6_holds_0 : decode cX6_holds 0 = .ok (.iload 5, 2) := by decide +kernel
theorem dX6_holds_2 : decode cX6_holds 2 = .ok (.bipush 9, 2) := by decide +kernel
theorem dX6_holds_4 : decode cX6_holds 4 = .ok (.if_icmp .le 5, 3) := by decide +kernel
theorem dX6_holds_7 : decode cX6_holds 7 = .ok (.iconst 0, 1) := by decide +kernel
theorem dX6_holds_8 : decode cX6_holds 8 = .ok (.ireturn, 1) := by decide +kernel
theorem dX6_holds_9 : decode cX6_holds 9 = .ok (.aload_n 0, 1) := by decide +kernel
theorem dX6_holds_10 : decode cX6_holds 10 = .ok (.getfield 27, 3) := by decide +kernel
theorem dX6_holds_13 : decode cX6_holds 13 = .ok (.getfield 50, 3) := by decide +kernel
theorem dX6_holds_16 : decode cX6_holds 16 = .ok (.iload_n 1, 1) := by decide +kernel
theorem dX6_holds_17 : decode cX6_holds 17 = .ok (.iaload, 1) := by decide +kernel
theorem dX6_holds_18 : decode cX6_holds 18 = .ok (.istore 6, 2) := by decide +kernel
theorem dX6_holds_20 : decode cX6_holds 20 = .ok (.aload_n 0, 1) := by decide +kernel
theorem dX6_holds_21 : decode cX6_holds 21 = .ok (.getfield 27, 3) := by decide +kernel
theorem dX6_holds_24 : decode cX6_holds 24 = .ok (.getfield 53, 3) := by decide +kernel
theorem dX6_holds_27 : decode cX6_holds 27 = .ok (.iload_n 1, 1) := by decide +kernel
theorem dX6_holds_28 : decode cX6_holds 28 = .ok (.iaload, 1) := by decide +kernel
theorem dX6_holds_29 : decode cX6_holds 29 = .ok (.tableswitch 320 0 11 #[63, 94, 125, 161, 191, 203, 234, 265, 277, 289, 320, 161], 63) := by decide +kernel
theorem dX6_holds_92 : decode cX6_holds 92 = .ok (.aload_n 0, 1) := by decide +kernel
theorem dX6_holds_93 : decode cX6_holds 93 = .ok (.getfield 14, 3) := by decide +kernel
theorem dX6_holds_96 : decode cX6_holds 96 = .ok (.iload_n 2, 1) := by decide +kernel
theorem dX6_holds_97 : decode cX6_holds 97 = .ok (.iconst 0, 1) := by decide +kernel
theorem dX6_holds_98 : decode cX6_holds 98 = .ok (.invokevirtual 56, 3) := by decide +kernel
theorem dX6_holds_101 : decode cX6_holds 101 = .ok (.ifCond .eq 20, 3) := by decide +kernel
theorem dX6_holds_104 : decode cX6_holds 104 = .ok (.aload_n 0, 1) := by decide +kernel
theorem dX6_holds_105 : decode cX6_holds 105 = .ok (.getfield 14, 3) := by decide +kernel
theorem dX6_holds_108 : decode cX6_holds 108 = .ok (.iload_n 3, 1) := by decide +kernel
theorem dX6_holds_109 : decode cX6_holds 109 = .ok (.iload 4, 2) := by decide +kernel
theorem dX6_holds_111 : decode cX6_holds 111 = .ok (.invokevirtual 56, 3) := by decide +kernel
theorem dX6_holds_114 : decode cX6_holds 114 = .ok (.ifCond .eq 7, 3) := by decide +kernel
theorem dX6_holds_117 : decode cX6_holds 117 = .ok (.iconst 1, 1) := by decide +kernel
theorem dX6_holds_118 : decode cX6_holds 118 = .ok (.goto 4, 3) := by decide +kernel
theorem dX6_holds_121 : decode cX6_holds 121 = .ok (.iconst 0, 1) := by decide +kernel
theorem dX6_holds_122 : decode cX6_holds 122 = .ok (.ireturn, 1) := by decide +kernel
theorem dX6_holds_123 : decode cX6_holds 123 = .ok (.aload_n 0, 1) := by decide +kernel
theorem dX6_holds_124 : decode cX6_holds 124 = .ok (.getfield 14, 3) := by decide +kernel
theorem dX6_holds_127 : decode cX6_holds 127 = .ok (.iload_n 2, 1) := by decide +kernel
theorem dX6_holds_128 : decode cX6_holds 128 = .ok (.iconst 1, 1) := by decide +kernel
theorem dX6_holds_129 : decode cX6_holds 129 = .ok (.invokevirtual 56, 3) := by decide +kernel
theorem dX6_holds_132 : decode cX6_holds 132 = .ok (.ifCond .eq 20, 3) := by decide +kernel
theorem dX6_holds_135 : decode cX6_holds 135 = .ok (.aload_n 0, 1) := by decide +kernel
theorem dX6_holds_136 : decode cX6_holds 136 = .ok (.getfield 14, 3) := by decide +kernel
theorem dX6_holds_139 : decode cX6_holds 139 = .ok (.iload_n 3, 1) := by decide +kernel
theorem dX6_holds_140 : decode cX6_holds 140 = .ok (.iload 4, 2) := by decide +kernel
theorem dX6_holds_142 : decode cX6_holds 142 = .ok (.invokevirtual 56, 3) := by decide +kernel
theorem dX6_holds_145 : decode cX6_holds 145 = .ok (.ifCond .eq 7, 3) := by decide +kernel
theorem dX6_holds_148 : decode cX6_holds 148 = .ok (.iconst 1, 1) := by decide +kernel
theorem dX6_holds_149 : decode cX6_holds 149 = .ok (.goto 4, 3) := by decide +kernel
theorem dX6_holds_152 : decode cX6_holds 152 = .ok (.iconst 0, 1) := by decide +kernel
theorem dX6_holds_153 : decode cX6_holds 153 = .ok (.ireturn, 1) := by decide +kernel
theorem dX6_holds_154 : decode cX6_holds 154 = .ok (.aload_n 0, 1) := by decide +kernel
theorem dX6_holds_155 : decode cX6_holds 155 = .ok (.getfield 14, 3) := by decide +kernel
theorem dX6_holds_158 : decode cX6_holds 158 = .ok (.iload_n 2, 1) := by decide +kernel
theorem dX6_holds_159 : decode cX6_holds 159 = .ok (.aload_n 0, 1) := by decide +kernel
theorem dX6_holds_160 : decode cX6_holds 160 = .ok (.iload 6, 2) := by decide +kernel
theorem dX6_holds_162 : decode cX6_holds 162 = .ok (.invokevirtual 60, 3) := by decide +kernel
theorem dX6_holds_165 : decode cX6_holds 165 = .ok (.invokevirtual 56, 3) := by decide +kernel
theorem dX6_holds_168 : decode cX6_holds 168 = .ok (.ifCond .eq 20, 3) := by decide +kernel
theorem dX6_holds_171 : decode cX6_holds 171 = .ok (.aload_n 0, 1) := by decide +kernel
theorem dX6_holds_172 : decode cX6_holds 172 = .ok (.getfield 14, 3) := by decide +kernel
theorem dX6_holds_175 : decode cX6_holds 175 = .ok (.iload_n 3, 1) := by decide +kernel
theorem dX6_holds_176 : decode cX6_holds 176 = .ok (.iload 4, 2) := by decide +kernel
theorem dX6_holds_178 : decode cX6_holds 178 = .ok (.invokevirtual 56, 3) := by decide +kernel
theorem dX6_holds_181 : decode cX6_holds 181 = .ok (.ifCond .eq 7, 3) := by decide +kernel
theorem dX6_holds_184 : decode cX6_holds 184 = .ok (.iconst 1, 1) := by decide +kernel
theorem dX6_holds_185 : decode cX6_holds 185 = .ok (.goto 4, 3) := by decide +kernel
theorem dX6_holds_188 : decode cX6_holds 188 = .ok (.iconst 0, 1) := by decide +kernel
theorem dX6_holds_189 : decode cX6_holds 189 = .ok (.ireturn, 1) := by decide +kernel
theorem dX6_holds_190 : decode cX6_holds 190 = .ok (.aload_n 0, 1) := by decide +kernel
theorem dX6_holds_191 : decode cX6_holds 191 = .ok (.getfield 14, 3) := by decide +kernel
theorem dX6_holds_194 : decode cX6_holds 194 = .ok (.iload_n 3, 1) := by decide +kernel
theorem dX6_holds_195 : decode cX6_holds 195 = .ok (.iload 4, 2) := by decide +kernel
theorem dX6_holds_197 : decode cX6_holds 197 = .ok (.invokevirtual 56, 3) := by decide +kernel
theorem dX6_holds_200 : decode cX6_holds 200 = .ok (.ifCond .eq 18, 3) := by decide +kernel
theorem dX6_holds_203 : decode cX6_holds 203 = .ok (.aload_n 0, 1) := by decide +kernel
theorem dX6_holds_204 : decode cX6_holds 204 = .ok (.iload_n 1, 1) := by decide +kernel
theorem dX6_holds_205 : decode cX6_holds 205 = .ok (.iload_n 2, 1) := by decide +kernel
theorem dX6_holds_206 : decode cX6_holds 206 = .ok (.iload 5, 2) := by decide +kernel
theorem dX6_holds_208 : decode cX6_holds 208 = .ok (.invokevirtual 64, 3) := by decide +kernel
theorem dX6_holds_211 : decode cX6_holds 211 = .ok (.ifCond .eq 7, 3) := by decide +kernel
theorem dX6_holds_214 : decode cX6_holds 214 = .ok (.iconst 1, 1) := by decide +kernel
theorem dX6_holds_215 : decode cX6_holds 215 = .ok (.goto 4, 3) := by decide +kernel
theorem dX6_holds_218 : decode cX6_holds 218 = .ok (.iconst 0, 1) := by decide +kernel
theorem dX6_holds_219 : decode cX6_holds 219 = .ok (.ireturn, 1) := by decide +kernel
theorem dX6_holds_220 : decode cX6_holds 220 = .ok (.aload_n 0, 1) := by decide +kernel
theorem dX6_holds_221 : decode cX6_holds 221 = .ok (.iload_n 1, 1) := by decide +kernel
theorem dX6_holds_222 : decode cX6_holds 222 = .ok (.iload_n 2, 1) := by decide +kernel
theorem dX6_holds_223 : decode cX6_holds 223 = .ok (.iload_n 3, 1) := by decide +kernel
theorem dX6_holds_224 : decode cX6_holds 224 = .ok (.iload 4, 2) := by decide +kernel
theorem dX6_holds_226 : decode cX6_holds 226 = .ok (.iload 5, 2) := by decide +kernel
theorem dX6_holds_228 : decode cX6_holds 228 = .ok (.invokevirtual 68, 3) := by decide +kernel
theorem dX6_holds_231 : decode cX6_holds 231 = .ok (.ireturn, 1) := by decide +kernel
theorem dX6_holds_232 : decode cX6_holds 232 = .ok (.aload_n 0, 1) := by decide +kernel
theorem dX6_holds_233 : decode cX6_holds 233 = .ok (.getfield 14, 3) := by decide +kernel
theorem dX6_holds_236 : decode cX6_holds 236 = .ok (.iload_n 2, 1) := by decide +kernel
theorem dX6_holds_237 : decode cX6_holds 237 = .ok (.iconst 0, 1) := by decide +kernel
theorem dX6_holds_238 : decode cX6_holds 238 = .ok (.invokevirtual 56, 3) := by decide +kernel
theorem dX6_holds_241 : decode cX6_holds 241 = .ok (.ifCond .eq 20, 3) := by decide +kernel
theorem dX6_holds_244 : decode cX6_holds 244 = .ok (.aload_n 0, 1) := by decide +kernel
theorem dX6_holds_245 : decode cX6_holds 245 = .ok (.iload_n 1, 1) := by decide +kernel
theorem dX6_holds_246 : decode cX6_holds 246 = .ok (.iload_n 3, 1) := by decide +kernel
theorem dX6_holds_247 : decode cX6_holds 247 = .ok (.iload 4, 2) := by decide +kernel
theorem dX6_holds_249 : decode cX6_holds 249 = .ok (.iload 5, 2) := by decide +kernel
theorem dX6_holds_251 : decode cX6_holds 251 = .ok (.invokevirtual 71, 3) := by decide +kernel
theorem dX6_holds_254 : decode cX6_holds 254 = .ok (.ifCond .eq 7, 3) := by decide +kernel
theorem dX6_holds_257 : decode cX6_holds 257 = .ok (.iconst 1, 1) := by decide +kernel
theorem dX6_holds_258 : decode cX6_holds 258 = .ok (.goto 4, 3) := by decide +kernel
theorem dX6_holds_261 : decode cX6_holds 261 = .ok (.iconst 0, 1) := by decide +kernel
theorem dX6_holds_262 : decode cX6_holds 262 = .ok (.ireturn, 1) := by decide +kernel
theorem dX6_holds_263 : decode cX6_holds 263 = .ok (.aload_n 0, 1) := by decide +kernel
theorem dX6_holds_264 : decode cX6_holds 264 = .ok (.getfield 14, 3) := by decide +kernel
theorem dX6_holds_267 : decode cX6_holds 267 = .ok (.iload_n 2, 1) := by decide +kernel
theorem dX6_holds_268 : decode cX6_holds 268 = .ok (.iconst 1, 1) := by decide +kernel
theorem dX6_holds_269 : decode cX6_holds 269 = .ok (.invokevirtual 56, 3) := by decide +kernel
theorem dX6_holds_272 : decode cX6_holds 272 = .ok (.ifCond .eq 20, 3) := by decide +kernel
theorem dX6_holds_275 : decode cX6_holds 275 = .ok (.aload_n 0, 1) := by decide +kernel
theorem dX6_holds_276 : decode cX6_holds 276 = .ok (.iload_n 1, 1) := by decide +kernel
theorem dX6_holds_277 : decode cX6_holds 277 = .ok (.iload_n 3, 1) := by decide +kernel
theorem dX6_holds_278 : decode cX6_holds 278 = .ok (.iload 4, 2) := by decide +kernel
theorem dX6_holds_280 : decode cX6_holds 280 = .ok (.iload 5, 2) := by decide +kernel
theorem dX6_holds_282 : decode cX6_holds 282 = .ok (.invokevirtual 71, 3) := by decide +kernel
theorem dX6_holds_285 : decode cX6_holds 285 = .ok (.ifCond .eq 7, 3) := by decide +kernel
theorem dX6_holds_288 : decode cX6_holds 288 = .ok (.iconst 1, 1) := by decide +kernel
theorem dX6_holds_289 : decode cX6_holds 289 = .ok (.goto 4, 3) := by decide +kernel
theorem dX6_holds_292 : decode cX6_holds 292 = .ok (.iconst 0, 1) := by decide +kernel
theorem dX6_holds_293 : decode cX6_holds 293 = .ok (.ireturn, 1) := by decide +kernel
theorem dX6_holds_294 : decode cX6_holds 294 = .ok (.aload_n 0, 1) := by decide +kernel
theorem dX6_holds_295 : decode cX6_holds 295 = .ok (.iload_n 1, 1) := by decide +kernel
theorem dX6_holds_296 : decode cX6_holds 296 = .ok (.iload_n 2, 1) := by decide +kernel
theorem dX6_holds_297 : decode cX6_holds 297 = .ok (.iload_n 3, 1) := by decide +kernel
theorem dX6_holds_298 : decode cX6_holds 298 = .ok (.iload 4, 2) := by decide +kernel
theorem dX6_holds_300 : decode cX6_holds 300 = .ok (.iload 5, 2) := by decide +kernel
theorem dX6_holds_302 : decode cX6_holds 302 = .ok (.invokevirtual 75, 3) := by decide +kernel
theorem dX6_holds_305 : decode cX6_holds 305 = .ok (.ireturn, 1) := by decide +kernel
theorem dX6_holds_306 : decode cX6_holds 306 = .ok (.aload_n 0, 1) := by decide +kernel
theorem dX6_holds_307 : decode cX6_holds 307 = .ok (.iload_n 1, 1) := by decide +kernel
theorem dX6_holds_308 : decode cX6_holds 308 = .ok (.iload_n 2, 1) := by decide +kernel
theorem dX6_holds_309 : decode cX6_holds 309 = .ok (.iload_n 3, 1) := by decide +kernel
theorem dX6_holds_310 : decode cX6_holds 310 = .ok (.iload 4, 2) := by decide +kernel
theorem dX6_holds_312 : decode cX6_holds 312 = .ok (.iload 5, 2) := by decide +kernel
theorem dX6_holds_314 : decode cX6_holds 314 = .ok (.invokevirtual 78, 3) := by decide +kernel
theorem dX6_holds_317 : decode cX6_holds 317 = .ok (.ireturn, 1) := by decide +kernel
theorem dX6_holds_318 : decode cX6_holds 318 = .ok (.aload_n 0, 1) := by decide +kernel
theorem dX6_holds_319 : decode cX6_holds 319 = .ok (.getfield 14, 3) := by decide +kernel
theorem dX6_holds_322 : decode cX6_holds 322 = .ok (.iload_n 3, 1) := by decide +kernel
theorem dX6_holds_323 : decode cX6_holds 323 = .ok (.iload 4, 2) := by decide +kernel
theorem dX6_holds_325 : decode cX6_holds 325 = .ok (.invokevirtual 56, 3) := by decide +kernel
theorem dX6_holds_328 : decode cX6_holds 328 = .ok (.ifCond .eq 19, 3) := by decide +kernel
theorem dX6_holds_331 : decode cX6_holds 331 = .ok (.aload_n 0, 1) := by decide +kernel
theorem dX6_holds_332 : decode cX6_holds 332 = .ok (.iload 6, 2) := by decide +kernel
theorem dX6_holds_334 : decode cX6_holds 334 = .ok (.iload_n 2, 1) := by decide +kernel
theorem dX6_holds_335 : decode cX6_holds 335 = .ok (.iload 5, 2) := by decide +kernel
theorem dX6_holds_337 : decode cX6_holds 337 = .ok (.invokevirtual 81, 3) := by decide +kernel
theorem dX6_holds_340 : decode cX6_holds 340 = .ok (.ifCond .eq 7, 3) := by decide +kernel
theorem dX6_holds_343 : decode cX6_holds 343 = .ok (.iconst 1, 1) := by decide +kernel
theorem dX6_holds_344 : decode cX6_holds 344 = .ok (.goto 4, 3) := by decide +kernel
theorem dX6_holds_347 : decode cX6_holds 347 = .ok (.iconst 0, 1) := by decide +kernel
theorem dX6_holds_348 : decode cX6_holds 348 = .ok (.ireturn, 1) := by decide +kernel
theorem dX6_holds_349 : decode cX6_holds 349 = .ok (.aload_n 0, 1) := by decide +kernel
theorem dX6_holds_350 : decode cX6_holds 350 = .ok (.iload 6, 2) := by decide +kernel
theorem dX6_holds_352 : decode cX6_holds 352 = .ok (.iload_n 2, 1) := by decide +kernel
theorem dX6_holds_353 : decode cX6_holds 353 = .ok (.iload_n 3, 1) := by decide +kernel
theorem dX6_holds_354 : decode cX6_holds 354 = .ok (.iload 4, 2) := by decide +kernel
theorem dX6_holds_356 : decode cX6_holds 356 = .ok (.iload 5, 2) := by decide +kernel
theorem dX6_holds_358 : decode cX6_holds 358 = .ok (.invokevirtual 84, 3) := by decide +kernel
theorem dX6_holds_361 : decode cX6_holds 361 = .ok (.ireturn, 1) := by decide +kernel
theorem dX6_typeOfVariable_0 : decode cX6_typeOfVariable 0 = .ok (.aload_n 0, 1) := by decide +kernel
theorem dX6_typeOfVariable_1 : decode cX6_typeOfVariable 1 = .ok (.getfield 34, 3) := by decide +kernel
theorem dX6_typeOfVariable_4 : decode cX6_typeOfVariable 4 = .ok (.iconst 1, 1) := by decide +kernel
theorem dX6_typeOfVariable_5 : decode cX6_typeOfVariable 5 = .ok (.isub, 1) := by decide +kernel
theorem dX6_typeOfVariable_6 : decode cX6_typeOfVariable 6 = .ok (.iload_n 1, 1) := by decide +kernel
theorem dX6_typeOfVariable_7 : decode cX6_typeOfVariable 7 = .ok (.isub, 1) := by decide +kernel
theorem dX6_typeOfVariable_8 : decode cX6_typeOfVariable 8 = .ok (.istore_n 2, 1) := by decide +kernel
theorem dX6_typeOfVariable_9 : decode cX6_typeOfVariable 9 = .ok (.iload_n 2, 1) := by decide +kernel
theorem dX6_typeOfVariable_10 : decode cX6_typeOfVariable 10 = .ok (.ifCond .ge 11, 3) := by decide +kernel
theorem dX6_typeOfVariable_13 : decode cX6_typeOfVariable 13 = .ok (.aload_n 0, 1) := by decide +kernel
theorem dX6_typeOfVariable_14 : decode cX6_typeOfVariable 14 = .ok (.getfield 14, 3) := by decide +kernel
theorem dX6_typeOfVariable_17 : decode cX6_typeOfVariable 17 = .ok (.invokevirtual 38, 3) := by decide +kernel
theorem dX6_typeOfVariable_20 : decode cX6_typeOfVariable 20 = .ok (.ireturn, 1) := by decide +kernel
theorem dX6_typeOfVariable_21 : decode cX6_typeOfVariable 21 = .ok (.aload_n 0, 1) := by decide +kernel
theorem dX6_typeOfVariable_22 : decode cX6_typeOfVariable 22 = .ok (.getfield 24, 3) := by decide +kernel
theorem dX6_typeOfVariable_25 : decode cX6_typeOfVariable 25 = .ok (.iload_n 2, 1) := by decide +kernel
theorem dX6_typeOfVariable_26 : decode cX6_typeOfVariable 26 = .ok (.iaload, 1) := by decide +kernel
theorem dX6_typeOfVariable_27 : decode cX6_typeOfVariable 27 = .ok (.iconst (-1), 1) := by decide +kernel
theorem dX6_typeOfVariable_28 : decode cX6_typeOfVariable 28 = .ok (.if_icmp .ne 10, 3) := by decide +kernel
theorem dX6_typeOfVariable_31 : decode cX6_typeOfVariable 31 = .ok (.aload_n 0, 1) := by decide +kernel
theorem dX6_typeOfVariable_32 : decode cX6_typeOfVariable 32 = .ok (.getfield 20, 3) := by decide +kernel
theorem dX6_typeOfVariable_35 : decode cX6_typeOfVariable 35 = .ok (.iload_n 2, 1) := by decide +kernel
theorem dX6_typeOfVariable_36 : decode cX6_typeOfVariable 36 = .ok (.iaload, 1) := by decide +kernel
theorem dX6_typeOfVariable_37 : decode cX6_typeOfVariable 37 = .ok (.ireturn, 1) := by decide +kernel
theorem dX6_typeOfVariable_38 : decode cX6_typeOfVariable 38 = .ok (.aload_n 0, 1) := by decide +kernel
theorem dX6_typeOfVariable_39 : decode cX6_typeOfVariable 39 = .ok (.getfield 14, 3) := by decide +kernel
theorem dX6_typeOfVariable_42 : decode cX6_typeOfVariable 42 = .ok (.invokevirtual 38, 3) := by decide +kernel
theorem dX6_typeOfVariable_45 : decode cX6_typeOfVariable 45 = .ok (.istore_n 3, 1) := by decide +kernel
theorem dX6_typeOfVariable_46 : decode cX6_typeOfVariable 46 = .ok (.aload_n 0, 1) := by decide +kernel
theorem dX6_typeOfVariable_47 : decode cX6_typeOfVariable 47 = .ok (.getfield 14, 3) := by decide +kernel
theorem dX6_typeOfVariable_50 : decode cX6_typeOfVariable 50 = .ok (.aload_n 0, 1) := by decide +kernel
theorem dX6_typeOfVariable_51 : decode cX6_typeOfVariable 51 = .ok (.getfield 20, 3) := by decide +kernel
theorem dX6_typeOfVariable_54 : decode cX6_typeOfVariable 54 = .ok (.iload_n 2, 1) := by decide +kernel
theorem dX6_typeOfVariable_55 : decode cX6_typeOfVariable 55 = .ok (.iaload, 1) := by decide +kernel
theorem dX6_typeOfVariable_56 : decode cX6_typeOfVariable 56 = .ok (.iload_n 3, 1) := by decide +kernel
theorem dX6_typeOfVariable_57 : decode cX6_typeOfVariable 57 = .ok (.aload_n 0, 1) := by decide +kernel
theorem dX6_typeOfVariable_58 : decode cX6_typeOfVariable 58 = .ok (.getfield 24, 3) := by decide +kernel
theorem dX6_typeOfVariable_61 : decode cX6_typeOfVariable 61 = .ok (.iload_n 2, 1) := by decide +kernel
theorem dX6_typeOfVariable_62 : decode cX6_typeOfVariable 62 = .ok (.iaload, 1) := by decide +kernel
theorem dX6_typeOfVariable_63 : decode cX6_typeOfVariable 63 = .ok (.iload_n 3, 1) := by decide +kernel
theorem dX6_typeOfVariable_64 : decode cX6_typeOfVariable 64 = .ok (.invokevirtual 87, 3) := by decide +kernel
theorem dX6_typeOfVariable_67 : decode cX6_typeOfVariable 67 = .ok (.ireturn, 1) := by decide +kernel
theorem dX6_bind_0 : decode cX6_bind 0 = .ok (.aload_n 0, 1) := by decide +kernel
theorem dX6_bind_1 : decode cX6_bind 1 = .ok (.getfield 20, 3) := by decide +kernel
theorem dX6_bind_4 : decode cX6_bind 4 = .ok (.aload_n 0, 1) := by decide +kernel
theorem dX6_bind_5 : decode cX6_bind 5 = .ok (.getfield 34, 3) := by decide +kernel
theorem dX6_bind_8 : decode cX6_bind 8 = .ok (.iload_n 1, 1) := by decide +kernel
theorem dX6_bind_9 : decode cX6_bind 9 = .ok (.iastore, 1) := by decide +kernel
theorem dX6_bind_10 : decode cX6_bind 10 = .ok (.aload_n 0, 1) := by decide +kernel
theorem dX6_bind_11 : decode cX6_bind 11 = .ok (.getfield 24, 3) := by decide +kernel
theorem dX6_bind_14 : decode cX6_bind 14 = .ok (.aload_n 0, 1) := by decide +kernel
theorem dX6_bind_15 : decode cX6_bind 15 = .ok (.getfield 34, 3) := by decide +kernel
theorem dX6_bind_18 : decode cX6_bind 18 = .ok (.iload_n 2, 1) := by decide +kernel
theorem dX6_bind_19 : decode cX6_bind 19 = .ok (.iastore, 1) := by decide +kernel
theorem dX6_bind_20 : decode cX6_bind 20 = .ok (.aload_n 0, 1) := by decide +kernel
theorem dX6_bind_21 : decode cX6_bind 21 = .ok (.dup, 1) := by decide +kernel
theorem dX6_bind_22 : decode cX6_bind 22 = .ok (.getfield 34, 3) := by decide +kernel
theorem dX6_bind_25 : decode cX6_bind 25 = .ok (.iconst 1, 1) := by decide +kernel
theorem dX6_bind_26 : decode cX6_bind 26 = .ok (.iadd, 1) := by decide +kernel
theorem dX6_bind_27 : decode cX6_bind 27 = .ok (.putfield 34, 3) := by decide +kernel
theorem dX6_bind_30 : decode cX6_bind 30 = .ok (.return_, 1) := by decide +kernel
theorem dX6_functionHolds_0 : decode cX6_functionHolds 0 = .ok (.aload_n 0, 1) := by decide +kernel
theorem dX6_functionHolds_1 : decode cX6_functionHolds 1 = .ok (.getfield 14, 3) := by decide +kernel
theorem dX6_functionHolds_4 : decode cX6_functionHolds 4 = .ok (.invokevirtual 38, 3) := by decide +kernel
theorem dX6_functionHolds_7 : decode cX6_functionHolds 7 = .ok (.istore 4, 2) := by decide +kernel
theorem dX6_functionHolds_9 : decode cX6_functionHolds 9 = .ok (.aload_n 0, 1) := by decide +kernel
theorem dX6_functionHolds_10 : decode cX6_functionHolds 10 = .ok (.getfield 14, 3) := by decide +kernel
theorem dX6_functionHolds_13 : decode cX6_functionHolds 13 = .ok (.invokevirtual 38, 3) := by decide +kernel
theorem dX6_functionHolds_16 : decode cX6_functionHolds 16 = .ok (.istore 5, 2) := by decide +kernel
theorem dX6_functionHolds_18 : decode cX6_functionHolds 18 = .ok (.aload_n 0, 1) := by decide +kernel
theorem dX6_functionHolds_19 : decode cX6_functionHolds 19 = .ok (.getfield 14, 3) := by decide +kernel
theorem dX6_functionHolds_22 : decode cX6_functionHolds 22 = .ok (.invokevirtual 38, 3) := by decide +kernel
theorem dX6_functionHolds_25 : decode cX6_functionHolds 25 = .ok (.istore 6, 2) := by decide +kernel
theorem dX6_functionHolds_27 : decode cX6_functionHolds 27 = .ok (.aload_n 0, 1) := by decide +kernel
theorem dX6_functionHolds_28 : decode cX6_functionHolds 28 = .ok (.getfield 14, 3) := by decide +kernel
theorem dX6_functionHolds_31 : decode cX6_functionHolds 31 = .ok (.invokevirtual 38, 3) := by decide +kernel
theorem dX6_functionHolds_34 : decode cX6_functionHolds 34 = .ok (.istore 7, 2) := by decide +kernel
theorem dX6_functionHolds_36 : decode cX6_functionHolds 36 = .ok (.aload_n 0, 1) := by decide +kernel
theorem dX6_functionHolds_37 : decode cX6_functionHolds 37 = .ok (.getfield 14, 3) := by decide +kernel
theorem dX6_functionHolds_40 : decode cX6_functionHolds 40 = .ok (.iload 4, 2) := by decide +kernel
theorem dX6_functionHolds_42 : decode cX6_functionHolds 42 = .ok (.iload 5, 2) := by decide +kernel
theorem dX6_functionHolds_44 : decode cX6_functionHolds 44 = .ok (.iload 6, 2) := by decide +kernel
theorem dX6_functionHolds_46 : decode cX6_functionHolds 46 = .ok (.iload 7, 2) := by decide +kernel
theorem dX6_functionHolds_48 : decode cX6_functionHolds 48 = .ok (.invokevirtual 87, 3) := by decide +kernel
theorem dX6_functionHolds_51 : decode cX6_functionHolds 51 = .ok (.istore 8, 2) := by decide +kernel
theorem dX6_functionHolds_53 : decode cX6_functionHolds 53 = .ok (.aload_n 0, 1) := by decide +kernel
theorem dX6_functionHolds_54 : decode cX6_functionHolds 54 = .ok (.getfield 34, 3) := by decide +kernel
theorem dX6_functionHolds_57 : decode cX6_functionHolds 57 = .ok (.istore 9, 2) := by decide +kernel
theorem dX6_functionHolds_59 : decode cX6_functionHolds 59 = .ok (.aload_n 0, 1) := by decide +kernel
theorem dX6_functionHolds_60 : decode cX6_functionHolds 60 = .ok (.getfield 27, 3) := by decide +kernel
theorem dX6_functionHolds_63 : decode cX6_functionHolds 63 = .ok (.getfield 53, 3) := by decide +kernel
theorem dX6_functionHolds_66 : decode cX6_functionHolds 66 = .ok (.iload_n 1, 1) := by decide +kernel
theorem dX6_functionHolds_67 : decode cX6_functionHolds 67 = .ok (.iaload, 1) := by decide +kernel
theorem dX6_functionHolds_68 : decode cX6_functionHolds 68 = .ok (.bipush 11, 2) := by decide +kernel
theorem dX6_functionHolds_70 : decode cX6_functionHolds 70 = .ok (.if_icmp .ne 10, 3) := by decide +kernel
theorem dX6_functionHolds_73 : decode cX6_functionHolds 73 = .ok (.aload_n 0, 1) := by decide +kernel
theorem dX6_functionHolds_74 : decode cX6_functionHolds 74 = .ok (.iload 8, 2) := by decide +kernel
theorem dX6_functionHolds_76 : decode cX6_functionHolds 76 = .ok (.iconst (-1), 1) := by decide +kernel
theorem dX6_functionHolds_77 : decode cX6_functionHolds 77 = .ok (.invokevirtual 93, 3) := by decide +kernel
theorem dX6_functionHolds_80 : decode cX6_functionHolds 80 = .ok (.aload_n 0, 1) := by decide +kernel
theorem dX6_functionHolds_81 : decode cX6_functionHolds 81 = .ok (.iload 4, 2) := by decide +kernel
theorem dX6_functionHolds_83 : decode cX6_functionHolds 83 = .ok (.iconst (-1), 1) := by decide +kernel
theorem dX6_functionHolds_84 : decode cX6_functionHolds 84 = .ok (.invokevirtual 93, 3) := by decide +kernel
theorem dX6_functionHolds_87 : decode cX6_functionHolds 87 = .ok (.aload_n 0, 1) := by decide +kernel
theorem dX6_functionHolds_88 : decode cX6_functionHolds 88 = .ok (.aload_n 0, 1) := by decide +kernel
theorem dX6_functionHolds_89 : decode cX6_functionHolds 89 = .ok (.getfield 27, 3) := by decide +kernel
theorem dX6_functionHolds_92 : decode cX6_functionHolds 92 = .ok (.getfield 50, 3) := by decide +kernel
theorem dX6_functionHolds_95 : decode cX6_functionHolds 95 = .ok (.iload_n 1, 1) := by decide +kernel
theorem dX6_functionHolds_96 : decode cX6_functionHolds 96 = .ok (.iaload, 1) := by decide +kernel
theorem dX6_functionHolds_97 : decode cX6_functionHolds 97 = .ok (.iload 6, 2) := by decide +kernel
theorem dX6_functionHolds_99 : decode cX6_functionHolds 99 = .ok (.iload 5, 2) := by decide +kernel
theorem dX6_functionHolds_101 : decode cX6_functionHolds 101 = .ok (.iload 7, 2) := by decide +kernel
theorem dX6_functionHolds_103 : decode cX6_functionHolds 103 = .ok (.iload_n 3, 1) := by decide +kernel
theorem dX6_functionHolds_104 : decode cX6_functionHolds 104 = .ok (.iconst 1, 1) := by decide +kernel
theorem dX6_functionHolds_105 : decode cX6_functionHolds 105 = .ok (.iadd, 1) := by decide +kernel
theorem dX6_functionHolds_106 : decode cX6_functionHolds 106 = .ok (.invokevirtual 42, 3) := by decide +kernel
theorem dX6_functionHolds_109 : decode cX6_functionHolds 109 = .ok (.istore 10, 2) := by decide +kernel
theorem dX6_functionHolds_111 : decode cX6_functionHolds 111 = .ok (.aload_n 0, 1) := by decide +kernel
theorem dX6_functionHolds_112 : decode cX6_functionHolds 112 = .ok (.iload 9, 2) := by decide +kernel
theorem dX6_functionHolds_114 : decode cX6_functionHolds 114 = .ok (.putfield 34, 3) := by decide +kernel
theorem dX6_functionHolds_117 : decode cX6_functionHolds 117 = .ok (.iload 10, 2) := by decide +kernel
theorem dX6_functionHolds_119 : decode cX6_functionHolds 119 = .ok (.ifCond .eq 20, 3) := by decide +kernel
theorem dX6_functionHolds_122 : decode cX6_functionHolds 122 = .ok (.aload_n 0, 1) := by decide +kernel
theorem dX6_functionHolds_123 : decode cX6_functionHolds 123 = .ok (.getfield 14, 3) := by decide +kernel
theorem dX6_functionHolds_126 : decode cX6_functionHolds 126 = .ok (.iload_n 2, 1) := by decide +kernel
theorem dX6_functionHolds_127 : decode cX6_functionHolds 127 = .ok (.iload 8, 2) := by decide +kernel
theorem dX6_functionHolds_129 : decode cX6_functionHolds 129 = .ok (.invokevirtual 56, 3) := by decide +kernel
theorem dX6_functionHolds_132 : decode cX6_functionHolds 132 = .ok (.ifCond .eq 7, 3) := by decide +kernel
theorem dX6_functionHolds_135 : decode cX6_functionHolds 135 = .ok (.iconst 1, 1) := by decide +kernel
theorem dX6_functionHolds_136 : decode cX6_functionHolds 136 = .ok (.goto 4, 3) := by decide +kernel
theorem dX6_functionHolds_139 : decode cX6_functionHolds 139 = .ok (.iconst 0, 1) := by decide +kernel
theorem dX6_functionHolds_140 : decode cX6_functionHolds 140 = .ok (.ireturn, 1) := by decide +kernel
theorem dX6_callHolds_0 : decode cX6_callHolds 0 = .ok (.aload_n 0, 1) := by decide +kernel
theorem dX6_callHolds_1 : decode cX6_callHolds 1 = .ok (.getfield 14, 3) := by decide +kernel
theorem dX6_callHolds_4 : decode cX6_callHolds 4 = .ok (.invokevirtual 38, 3) := by decide +kernel
theorem dX6_callHolds_7 : decode cX6_callHolds 7 = .ok (.istore 6, 2) := by decide +kernel
theorem dX6_callHolds_9 : decode cX6_callHolds 9 = .ok (.aload_n 0, 1) := by decide +kernel
theorem dX6_callHolds_10 : decode cX6_callHolds 10 = .ok (.getfield 14, 3) := by decide +kernel
theorem dX6_callHolds_13 : decode cX6_callHolds 13 = .ok (.invokevirtual 38, 3) := by decide +kernel
theorem dX6_callHolds_16 : decode cX6_callHolds 16 = .ok (.istore 7, 2) := by decide +kernel
theorem dX6_callHolds_18 : decode cX6_callHolds 18 = .ok (.aload_n 0, 1) := by decide +kernel
theorem dX6_callHolds_19 : decode cX6_callHolds 19 = .ok (.getfield 14, 3) := by decide +kernel
theorem dX6_callHolds_22 : decode cX6_callHolds 22 = .ok (.invokevirtual 38, 3) := by decide +kernel
theorem dX6_callHolds_25 : decode cX6_callHolds 25 = .ok (.istore 8, 2) := by decide +kernel
theorem dX6_callHolds_27 : decode cX6_callHolds 27 = .ok (.aload_n 0, 1) := by decide +kernel
theorem dX6_callHolds_28 : decode cX6_callHolds 28 = .ok (.getfield 14, 3) := by decide +kernel
theorem dX6_callHolds_31 : decode cX6_callHolds 31 = .ok (.iload 6, 2) := by decide +kernel
theorem dX6_callHolds_33 : decode cX6_callHolds 33 = .ok (.iload_n 3, 1) := by decide +kernel
theorem dX6_callHolds_34 : decode cX6_callHolds 34 = .ok (.iload_n 2, 1) := by decide +kernel
theorem dX6_callHolds_35 : decode cX6_callHolds 35 = .ok (.iload 7, 2) := by decide +kernel
theorem dX6_callHolds_37 : decode cX6_callHolds 37 = .ok (.invokevirtual 87, 3) := by decide +kernel
theorem dX6_callHolds_40 : decode cX6_callHolds 40 = .ok (.istore 9, 2) := by decide +kernel
theorem dX6_callHolds_42 : decode cX6_callHolds 42 = .ok (.aload_n 0, 1) := by decide +kernel
theorem dX6_callHolds_43 : decode cX6_callHolds 43 = .ok (.aload_n 0, 1) := by decide +kernel
theorem dX6_callHolds_44 : decode cX6_callHolds 44 = .ok (.getfield 27, 3) := by decide +kernel
theorem dX6_callHolds_47 : decode cX6_callHolds 47 = .ok (.getfield 50, 3) := by decide +kernel
theorem dX6_callHolds_50 : decode cX6_callHolds 50 = .ok (.iload_n 1, 1) := by decide +kernel
theorem dX6_callHolds_51 : decode cX6_callHolds 51 = .ok (.iaload, 1) := by decide +kernel
theorem dX6_callHolds_52 : decode cX6_callHolds 52 = .ok (.iload 9, 2) := by decide +kernel
theorem dX6_callHolds_54 : decode cX6_callHolds 54 = .ok (.iload 8, 2) := by decide +kernel
theorem dX6_callHolds_56 : decode cX6_callHolds 56 = .ok (.iload 4, 2) := by decide +kernel
theorem dX6_callHolds_58 : decode cX6_callHolds 58 = .ok (.iload 5, 2) := by decide +kernel
theorem dX6_callHolds_60 : decode cX6_callHolds 60 = .ok (.iconst 1, 1) := by decide +kernel
theorem dX6_callHolds_61 : decode cX6_callHolds 61 = .ok (.iadd, 1) := by decide +kernel
theorem dX6_callHolds_62 : decode cX6_callHolds 62 = .ok (.invokevirtual 42, 3) := by decide +kernel
theorem dX6_callHolds_65 : decode cX6_callHolds 65 = .ok (.ifCond .eq 33, 3) := by decide +kernel
theorem dX6_callHolds_68 : decode cX6_callHolds 68 = .ok (.aload_n 0, 1) := by decide +kernel
theorem dX6_callHolds_69 : decode cX6_callHolds 69 = .ok (.aload_n 0, 1) := by decide +kernel
theorem dX6_callHolds_70 : decode cX6_callHolds 70 = .ok (.getfield 27, 3) := by decide +kernel
theorem dX6_callHolds_73 : decode cX6_callHolds 73 = .ok (.getfield 97, 3) := by decide +kernel
theorem dX6_callHolds_76 : decode cX6_callHolds 76 = .ok (.iload_n 1, 1) := by decide +kernel
theorem dX6_callHolds_77 : decode cX6_callHolds 77 = .ok (.iaload, 1) := by decide +kernel
theorem dX6_callHolds_78 : decode cX6_callHolds 78 = .ok (.iload 6, 2) := by decide +kernel
theorem dX6_callHolds_80 : decode cX6_callHolds 80 = .ok (.iload 7, 2) := by decide +kernel
theorem dX6_callHolds_82 : decode cX6_callHolds 82 = .ok (.iload 8, 2) := by decide +kernel
theorem dX6_callHolds_84 : decode cX6_callHolds 84 = .ok (.iload 5, 2) := by decide +kernel
theorem dX6_callHolds_86 : decode cX6_callHolds 86 = .ok (.iconst 1, 1) := by decide +kernel
theorem dX6_callHolds_87 : decode cX6_callHolds 87 = .ok (.iadd, 1) := by decide +kernel
theorem dX6_callHolds_88 : decode cX6_callHolds 88 = .ok (.invokevirtual 42, 3) := by decide +kernel
theorem dX6_callHolds_91 : decode cX6_callHolds 91 = .ok (.ifCond .eq 7, 3) := by decide +kernel
theorem dX6_callHolds_94 : decode cX6_callHolds 94 = .ok (.iconst 1, 1) := by decide +kernel
theorem dX6_callHolds_95 : decode cX6_callHolds 95 = .ok (.goto 4, 3) := by decide +kernel
theorem dX6_callHolds_98 : decode cX6_callHolds 98 = .ok (.iconst 0, 1) := by decide +kernel
theorem dX6_callHolds_99 : decode cX6_callHolds 99 = .ok (.ireturn, 1) := by decide +kernel
theorem dX6_numbersHold_0 : decode cX6_numbersHold 0 = .ok (.aload_n 0, 1) := by decide +kernel
theorem dX6_numbersHold_1 : decode cX6_numbersHold 1 = .ok (.getfield 14, 3) := by decide +kernel
theorem dX6_numbersHold_4 : decode cX6_numbersHold 4 = .ok (.invokevirtual 38, 3) := by decide +kernel
theorem dX6_numbersHold_7 : decode cX6_numbersHold 7 = .ok (.istore 5, 2) := by decide +kernel
theorem dX6_numbersHold_9 : decode cX6_numbersHold 9 = .ok (.aload_n 0, 1) := by decide +kernel
theorem dX6_numbersHold_10 : decode cX6_numbersHold 10 = .ok (.aload_n 0, 1) := by decide +kernel
theorem dX6_numbersHold_11 : decode cX6_numbersHold 11 = .ok (.getfield 27, 3) := by decide +kernel
theorem dX6_numbersHold_14 : decode cX6_numbersHold 14 = .ok (.getfield 50, 3) := by decide +kernel
theorem dX6_numbersHold_17 : decode cX6_numbersHold 17 = .ok (.iload_n 1, 1) := by decide +kernel
theorem dX6_numbersHold_18 : decode cX6_numbersHold 18 = .ok (.iaload, 1) := by decide +kernel
theorem dX6_numbersHold_19 : decode cX6_numbersHold 19 = .ok (.iconst 0, 1) := by decide +kernel
theorem dX6_numbersHold_20 : decode cX6_numbersHold 20 = .ok (.iload 5, 2) := by decide +kernel
theorem dX6_numbersHold_22 : decode cX6_numbersHold 22 = .ok (.iload_n 3, 1) := by decide +kernel
theorem dX6_numbersHold_23 : decode cX6_numbersHold 23 = .ok (.iload 4, 2) := by decide +kernel
theorem dX6_numbersHold_25 : decode cX6_numbersHold 25 = .ok (.iconst 1, 1) := by decide +kernel
theorem dX6_numbersHold_26 : decode cX6_numbersHold 26 = .ok (.iadd, 1) := by decide +kernel
theorem dX6_numbersHold_27 : decode cX6_numbersHold 27 = .ok (.invokevirtual 42, 3) := by decide +kernel
theorem dX6_numbersHold_30 : decode cX6_numbersHold 30 = .ok (.ifCond .eq 31, 3) := by decide +kernel
theorem dX6_numbersHold_33 : decode cX6_numbersHold 33 = .ok (.aload_n 0, 1) := by decide +kernel
theorem dX6_numbersHold_34 : decode cX6_numbersHold 34 = .ok (.aload_n 0, 1) := by decide +kernel
theorem dX6_numbersHold_35 : decode cX6_numbersHold 35 = .ok (.getfield 27, 3) := by decide +kernel
theorem dX6_numbersHold_38 : decode cX6_numbersHold 38 = .ok (.getfield 97, 3) := by decide +kernel
theorem dX6_numbersHold_41 : decode cX6_numbersHold 41 = .ok (.iload_n 1, 1) := by decide +kernel
theorem dX6_numbersHold_42 : decode cX6_numbersHold 42 = .ok (.iaload, 1) := by decide +kernel
theorem dX6_numbersHold_43 : decode cX6_numbersHold 43 = .ok (.iconst 0, 1) := by decide +kernel
theorem dX6_numbersHold_44 : decode cX6_numbersHold 44 = .ok (.iload_n 2, 1) := by decide +kernel
theorem dX6_numbersHold_45 : decode cX6_numbersHold 45 = .ok (.iload 5, 2) := by decide +kernel
theorem dX6_numbersHold_47 : decode cX6_numbersHold 47 = .ok (.iload 4, 2) := by decide +kernel
theorem dX6_numbersHold_49 : decode cX6_numbersHold 49 = .ok (.iconst 1, 1) := by decide +kernel
theorem dX6_numbersHold_50 : decode cX6_numbersHold 50 = .ok (.iadd, 1) := by decide +kernel
theorem dX6_numbersHold_51 : decode cX6_numbersHold 51 = .ok (.invokevirtual 42, 3) := by decide +kernel
theorem dX6_numbersHold_54 : decode cX6_numbersHold 54 = .ok (.ifCond .eq 7, 3) := by decide +kernel
theorem dX6_numbersHold_57 : decode cX6_numbersHold 57 = .ok (.iconst 1, 1) := by decide +kernel
theorem dX6_numbersHold_58 : decode cX6_numbersHold 58 = .ok (.goto 4, 3) := by decide +kernel
theorem dX6_numbersHold_61 : decode cX6_numbersHold 61 = .ok (.iconst 0, 1) := by decide +kernel
theorem dX6_numbersHold_62 : decode cX6_numbersHold 62 = .ok (.ireturn, 1) := by decide +kernel
theorem dX6_ifHolds_0 : decode cX6_ifHolds 0 = .ok (.aload_n 0, 1) := by decide +kernel
theorem dX6_ifHolds_1 : decode cX6_ifHolds 1 = .ok (.getfield 14, 3) := by decide +kernel
theorem dX6_ifHolds_4 : decode cX6_ifHolds 4 = .ok (.invokevirtual 38, 3) := by decide +kernel
theorem dX6_ifHolds_7 : decode cX6_ifHolds 7 = .ok (.istore 6, 2) := by decide +kernel
theorem dX6_ifHolds_9 : decode cX6_ifHolds 9 = .ok (.aload_n 0, 1) := by decide +kernel
theorem dX6_ifHolds_10 : decode cX6_ifHolds 10 = .ok (.aload_n 0, 1) := by decide +kernel
theorem dX6_ifHolds_11 : decode cX6_ifHolds 11 = .ok (.getfield 27, 3) := by decide +kernel
theorem dX6_ifHolds_14 : decode cX6_ifHolds 14 = .ok (.getfield 50, 3) := by decide +kernel
theorem dX6_ifHolds_17 : decode cX6_ifHolds 17 = .ok (.iload_n 1, 1) := by decide +kernel
theorem dX6_ifHolds_18 : decode cX6_ifHolds 18 = .ok (.iaload, 1) := by decide +kernel
theorem dX6_ifHolds_19 : decode cX6_ifHolds 19 = .ok (.iconst 1, 1) := by decide +kernel
theorem dX6_ifHolds_20 : decode cX6_ifHolds 20 = .ok (.iload 6, 2) := by decide +kernel
theorem dX6_ifHolds_22 : decode cX6_ifHolds 22 = .ok (.iload 4, 2) := by decide +kernel
theorem dX6_ifHolds_24 : decode cX6_ifHolds 24 = .ok (.iload 5, 2) := by decide +kernel
theorem dX6_ifHolds_26 : decode cX6_ifHolds 26 = .ok (.iconst 1, 1) := by decide +kernel
theorem dX6_ifHolds_27 : decode cX6_ifHolds 27 = .ok (.iadd, 1) := by decide +kernel
theorem dX6_ifHolds_28 : decode cX6_ifHolds 28 = .ok (.invokevirtual 42, 3) := by decide +kernel
theorem dX6_ifHolds_31 : decode cX6_ifHolds 31 = .ok (.ifCond .eq 55, 3) := by decide +kernel
theorem dX6_ifHolds_34 : decode cX6_ifHolds 34 = .ok (.aload_n 0, 1) := by decide +kernel
theorem dX6_ifHolds_35 : decode cX6_ifHolds 35 = .ok (.aload_n 0, 1) := by decide +kernel
theorem dX6_ifHolds_36 : decode cX6_ifHolds 36 = .ok (.getfield 27, 3) := by decide +kernel
theorem dX6_ifHolds_39 : decode cX6_ifHolds 39 = .ok (.getfield 97, 3) := by decide +kernel
theorem dX6_ifHolds_42 : decode cX6_ifHolds 42 = .ok (.iload_n 1, 1) := by decide +kernel
theorem dX6_ifHolds_43 : decode cX6_ifHolds 43 = .ok (.iaload, 1) := by decide +kernel
theorem dX6_ifHolds_44 : decode cX6_ifHolds 44 = .ok (.iload_n 2, 1) := by decide +kernel
theorem dX6_ifHolds_45 : decode cX6_ifHolds 45 = .ok (.iload_n 3, 1) := by decide +kernel
theorem dX6_ifHolds_46 : decode cX6_ifHolds 46 = .ok (.iload 6, 2) := by decide +kernel
theorem dX6_ifHolds_48 : decode cX6_ifHolds 48 = .ok (.iload 5, 2) := by decide +kernel
theorem dX6_ifHolds_50 : decode cX6_ifHolds 50 = .ok (.iconst 1, 1) := by decide +kernel
theorem dX6_ifHolds_51 : decode cX6_ifHolds 51 = .ok (.iadd, 1) := by decide +kernel
theorem dX6_ifHolds_52 : decode cX6_ifHolds 52 = .ok (.invokevirtual 42, 3) := by decide +kernel
theorem dX6_ifHolds_55 : decode cX6_ifHolds 55 = .ok (.ifCond .eq 31, 3) := by decide +kernel
theorem dX6_ifHolds_58 : decode cX6_ifHolds 58 = .ok (.aload_n 0, 1) := by decide +kernel
theorem dX6_ifHolds_59 : decode cX6_ifHolds 59 = .ok (.aload_n 0, 1) := by decide +kernel
theorem dX6_ifHolds_60 : decode cX6_ifHolds 60 = .ok (.getfield 27, 3) := by decide +kernel
theorem dX6_ifHolds_63 : decode cX6_ifHolds 63 = .ok (.getfield 100, 3) := by decide +kernel
theorem dX6_ifHolds_66 : decode cX6_ifHolds 66 = .ok (.iload_n 1, 1) := by decide +kernel
theorem dX6_ifHolds_67 : decode cX6_ifHolds 67 = .ok (.iaload, 1) := by decide +kernel
theorem dX6_ifHolds_68 : decode cX6_ifHolds 68 = .ok (.iload_n 2, 1) := by decide +kernel
theorem dX6_ifHolds_69 : decode cX6_ifHolds 69 = .ok (.iload_n 3, 1) := by decide +kernel
theorem dX6_ifHolds_70 : decode cX6_ifHolds 70 = .ok (.iload 6, 2) := by decide +kernel
theorem dX6_ifHolds_72 : decode cX6_ifHolds 72 = .ok (.iload 5, 2) := by decide +kernel
theorem dX6_ifHolds_74 : decode cX6_ifHolds 74 = .ok (.iconst 1, 1) := by decide +kernel
theorem dX6_ifHolds_75 : decode cX6_ifHolds 75 = .ok (.iadd, 1) := by decide +kernel
theorem dX6_ifHolds_76 : decode cX6_ifHolds 76 = .ok (.invokevirtual 42, 3) := by decide +kernel
theorem dX6_ifHolds_79 : decode cX6_ifHolds 79 = .ok (.ifCond .eq 7, 3) := by decide +kernel
theorem dX6_ifHolds_82 : decode cX6_ifHolds 82 = .ok (.iconst 1, 1) := by decide +kernel
theorem dX6_ifHolds_83 : decode cX6_ifHolds 83 = .ok (.goto 4, 3) := by decide +kernel
theorem dX6_ifHolds_86 : decode cX6_ifHolds 86 = .ok (.iconst 0, 1) := by decide +kernel
theorem dX6_ifHolds_87 : decode cX6_ifHolds 87 = .ok (.ireturn, 1) := by decide +kernel
theorem dX6_letHolds_0 : decode cX6_letHolds 0 = .ok (.aload_n 0, 1) := by decide +kernel
theorem dX6_letHolds_1 : decode cX6_letHolds 1 = .ok (.getfield 14, 3) := by decide +kernel
theorem dX6_letHolds_4 : decode cX6_letHolds 4 = .ok (.invokevirtual 38, 3) := by decide +kernel
theorem dX6_letHolds_7 : decode cX6_letHolds 7 = .ok (.istore 6, 2) := by decide +kernel
theorem dX6_letHolds_9 : decode cX6_letHolds 9 = .ok (.aload_n 0, 1) := by decide +kernel
theorem dX6_letHolds_10 : decode cX6_letHolds 10 = .ok (.getfield 14, 3) := by decide +kernel
theorem dX6_letHolds_13 : decode cX6_letHolds 13 = .ok (.invokevirtual 38, 3) := by decide +kernel
theorem dX6_letHolds_16 : decode cX6_letHolds 16 = .ok (.istore 7, 2) := by decide +kernel
theorem dX6_letHolds_18 : decode cX6_letHolds 18 = .ok (.aload_n 0, 1) := by decide +kernel
theorem dX6_letHolds_19 : decode cX6_letHolds 19 = .ok (.aload_n 0, 1) := by decide +kernel
theorem dX6_letHolds_20 : decode cX6_letHolds 20 = .ok (.getfield 27, 3) := by decide +kernel
theorem dX6_letHolds_23 : decode cX6_letHolds 23 = .ok (.getfield 50, 3) := by decide +kernel
theorem dX6_letHolds_26 : decode cX6_letHolds 26 = .ok (.iload_n 1, 1) := by decide +kernel
theorem dX6_letHolds_27 : decode cX6_letHolds 27 = .ok (.iaload, 1) := by decide +kernel
theorem dX6_letHolds_28 : decode cX6_letHolds 28 = .ok (.iload 6, 2) := by decide +kernel
theorem dX6_letHolds_30 : decode cX6_letHolds 30 = .ok (.iload 7, 2) := by decide +kernel
theorem dX6_letHolds_32 : decode cX6_letHolds 32 = .ok (.iload 4, 2) := by decide +kernel
theorem dX6_letHolds_34 : decode cX6_letHolds 34 = .ok (.iload 5, 2) := by decide +kernel
theorem dX6_letHolds_36 : decode cX6_letHolds 36 = .ok (.iconst 1, 1) := by decide +kernel
theorem dX6_letHolds_37 : decode cX6_letHolds 37 = .ok (.iadd, 1) := by decide +kernel
theorem dX6_letHolds_38 : decode cX6_letHolds 38 = .ok (.invokevirtual 42, 3) := by decide +kernel
theorem dX6_letHolds_41 : decode cX6_letHolds 41 = .ok (.ifCond .ne 5, 3) := by decide +kernel
theorem dX6_letHolds_44 : decode cX6_letHolds 44 = .ok (.iconst 0, 1) := by decide +kernel
theorem dX6_letHolds_45 : decode cX6_letHolds 45 = .ok (.ireturn, 1) := by decide +kernel
theorem dX6_letHolds_46 : decode cX6_letHolds 46 = .ok (.aload_n 0, 1) := by decide +kernel
theorem dX6_letHolds_47 : decode cX6_letHolds 47 = .ok (.iload 6, 2) := by decide +kernel
theorem dX6_letHolds_49 : decode cX6_letHolds 49 = .ok (.iconst (-1), 1) := by decide +kernel
theorem dX6_letHolds_50 : decode cX6_letHolds 50 = .ok (.invokevirtual 93, 3) := by decide +kernel
theorem dX6_letHolds_53 : decode cX6_letHolds 53 = .ok (.aload_n 0, 1) := by decide +kernel
theorem dX6_letHolds_54 : decode cX6_letHolds 54 = .ok (.aload_n 0, 1) := by decide +kernel
theorem dX6_letHolds_55 : decode cX6_letHolds 55 = .ok (.getfield 27, 3) := by decide +kernel
theorem dX6_letHolds_58 : decode cX6_letHolds 58 = .ok (.getfield 97, 3) := by decide +kernel
theorem dX6_letHolds_61 : decode cX6_letHolds 61 = .ok (.iload_n 1, 1) := by decide +kernel
theorem dX6_letHolds_62 : decode cX6_letHolds 62 = .ok (.iaload, 1) := by decide +kernel
theorem dX6_letHolds_63 : decode cX6_letHolds 63 = .ok (.iload_n 2, 1) := by decide +kernel
theorem dX6_letHolds_64 : decode cX6_letHolds 64 = .ok (.iload_n 3, 1) := by decide +kernel
theorem dX6_letHolds_65 : decode cX6_letHolds 65 = .ok (.iload 7, 2) := by decide +kernel
theorem dX6_letHolds_67 : decode cX6_letHolds 67 = .ok (.iload 5, 2) := by decide +kernel
theorem dX6_letHolds_69 : decode cX6_letHolds 69 = .ok (.iconst 1, 1) := by decide +kernel
theorem dX6_letHolds_70 : decode cX6_letHolds 70 = .ok (.iadd, 1) := by decide +kernel
theorem dX6_letHolds_71 : decode cX6_letHolds 71 = .ok (.invokevirtual 42, 3) := by decide +kernel
theorem dX6_letHolds_74 : decode cX6_letHolds 74 = .ok (.istore 8, 2) := by decide +kernel
theorem dX6_letHolds_76 : decode cX6_letHolds 76 = .ok (.aload_n 0, 1) := by decide +kernel
theorem dX6_letHolds_77 : decode cX6_letHolds 77 = .ok (.dup, 1) := by decide +kernel
theorem dX6_letHolds_78 : decode cX6_letHolds 78 = .ok (.getfield 34, 3) := by decide +kernel
theorem dX6_letHolds_81 : decode cX6_letHolds 81 = .ok (.iconst 1, 1) := by decide +kernel
theorem dX6_letHolds_82 : decode cX6_letHolds 82 = .ok (.isub, 1) := by decide +kernel
theorem dX6_letHolds_83 : decode cX6_letHolds 83 = .ok (.putfield 34, 3) := by decide +kernel
theorem dX6_letHolds_86 : decode cX6_letHolds 86 = .ok (.iload 8, 2) := by decide +kernel
theorem dX6_letHolds_88 : decode cX6_letHolds 88 = .ok (.ireturn, 1) := by decide +kernel
theorem dX6_takeHolds_0 : decode cX6_takeHolds 0 = .ok (.aload_n 0, 1) := by decide +kernel
theorem dX6_takeHolds_1 : decode cX6_takeHolds 1 = .ok (.iload_n 2, 1) := by decide +kernel
theorem dX6_takeHolds_2 : decode cX6_takeHolds 2 = .ok (.iload_n 3, 1) := by decide +kernel
theorem dX6_takeHolds_3 : decode cX6_takeHolds 3 = .ok (.invokevirtual 93, 3) := by decide +kernel
theorem dX6_takeHolds_6 : decode cX6_takeHolds 6 = .ok (.aload_n 0, 1) := by decide +kernel
theorem dX6_takeHolds_7 : decode cX6_takeHolds 7 = .ok (.iload_n 1, 1) := by decide +kernel
theorem dX6_takeHolds_8 : decode cX6_takeHolds 8 = .ok (.iload 4, 2) := by decide +kernel
theorem dX6_takeHolds_10 : decode cX6_takeHolds 10 = .ok (.iload 5, 2) := by decide +kernel
theorem dX6_takeHolds_12 : decode cX6_takeHolds 12 = .ok (.invokevirtual 81, 3) := by decide +kernel
theorem dX6_takeHolds_15 : decode cX6_takeHolds 15 = .ok (.istore 6, 2) := by decide +kernel
theorem dX6_takeHolds_17 : decode cX6_takeHolds 17 = .ok (.aload_n 0, 1) := by decide +kernel
theorem dX6_takeHolds_18 : decode cX6_takeHolds 18 = .ok (.dup, 1) := by decide +kernel
theorem dX6_takeHolds_19 : decode cX6_takeHolds 19 = .ok (.getfield 34, 3) := by decide +kernel
theorem dX6_takeHolds_22 : decode cX6_takeHolds 22 = .ok (.iconst 1, 1) := by decide +kernel
theorem dX6_takeHolds_23 : decode cX6_takeHolds 23 = .ok (.isub, 1) := by decide +kernel
theorem dX6_takeHolds_24 : decode cX6_takeHolds 24 = .ok (.putfield 34, 3) := by decide +kernel
theorem dX6_takeHolds_27 : decode cX6_takeHolds 27 = .ok (.iload 6, 2) := by decide +kernel
theorem dX6_takeHolds_29 : decode cX6_takeHolds 29 = .ok (.ireturn, 1) := by decide +kernel
theorem dX6_wholeHolds_0 : decode cX6_wholeHolds 0 = .ok (.aload_n 0, 1) := by decide +kernel
theorem dX6_wholeHolds_1 : decode cX6_wholeHolds 1 = .ok (.getfield 14, 3) := by decide +kernel
theorem dX6_wholeHolds_4 : decode cX6_wholeHolds 4 = .ok (.invokevirtual 38, 3) := by decide +kernel
theorem dX6_wholeHolds_7 : decode cX6_wholeHolds 7 = .ok (.istore 4, 2) := by decide +kernel
theorem dX6_wholeHolds_9 : decode cX6_wholeHolds 9 = .ok (.aload_n 0, 1) := by decide +kernel
theorem dX6_wholeHolds_10 : decode cX6_wholeHolds 10 = .ok (.iload_n 1, 1) := by decide +kernel
theorem dX6_wholeHolds_11 : decode cX6_wholeHolds 11 = .ok (.iload 4, 2) := by decide +kernel
theorem dX6_wholeHolds_13 : decode cX6_wholeHolds 13 = .ok (.iload 4, 2) := by decide +kernel
theorem dX6_wholeHolds_15 : decode cX6_wholeHolds 15 = .ok (.iload_n 2, 1) := by decide +kernel
theorem dX6_wholeHolds_16 : decode cX6_wholeHolds 16 = .ok (.iload_n 3, 1) := by decide +kernel
theorem dX6_wholeHolds_17 : decode cX6_wholeHolds 17 = .ok (.iconst 1, 1) := by decide +kernel
theorem dX6_wholeHolds_18 : decode cX6_wholeHolds 18 = .ok (.iadd, 1) := by decide +kernel
theorem dX6_wholeHolds_19 : decode cX6_wholeHolds 19 = .ok (.invokevirtual 42, 3) := by decide +kernel
theorem dX6_wholeHolds_22 : decode cX6_wholeHolds 22 = .ok (.ireturn, 1) := by decide +kernel
theorem dX7_init_0 : decode cX7_init 0 = .ok (.aload_n 0, 1) := by decide +kernel
theorem dX7_init_1 : decode cX7_init 1 = .ok (.invokespecial 1, 3) := by decide +kernel
theorem dX7_init_4 : decode cX7_init 4 = .ok (.aload_n 0, 1) := by decide +kernel
theorem dX7_init_5 : decode cX7_init 5 = .ok (.sipush 200, 3) := by decide +kernel
theorem dX7_init_8 : decode cX7_init 8 = .ok (.newarray .int, 2) := by decide +kernel
theorem dX7_init_10 : decode cX7_init 10 = .ok (.putfield 9, 3) := by decide +kernel
theorem dX7_init_13 : decode cX7_init 13 = .ok (.aload_n 0, 1) := by decide +kernel
theorem dX7_init_14 : decode cX7_init 14 = .ok (.sipush 200, 3) := by decide +kernel
theorem dX7_init_17 : decode cX7_init 17 = .ok (.newarray .int, 2) := by decide +kernel
theorem dX7_init_19 : decode cX7_init 19 = .ok (.putfield 15, 3) := by decide +kernel
theorem dX7_init_22 : decode cX7_init 22 = .ok (.aload_n 0, 1) := by decide +kernel
theorem dX7_init_23 : decode cX7_init 23 = .ok (.sipush 200, 3) := by decide +kernel
theorem dX7_init_26 : decode cX7_init 26 = .ok (.newarray .int, 2) := by decide +kernel
theorem dX7_init_28 : decode cX7_init 28 = .ok (.putfield 18, 3) := by decide +kernel
theorem dX7_init_31 : decode cX7_init 31 = .ok (.return_, 1) := by decide +kernel
theorem dX7_clear_0 : decode cX7_clear 0 = .ok (.aload_n 0, 1) := by decide +kernel
theorem dX7_clear_1 : decode cX7_clear 1 = .ok (.iconst 0, 1) := by decide +kernel
theorem dX7_clear_2 : decode cX7_clear 2 = .ok (.putfield 21, 3) := by decide +kernel
theorem dX7_clear_5 : decode cX7_clear 5 = .ok (.return_, 1) := by decide +kernel
theorem dX7_add_0 : decode cX7_add 0 = .ok (.aload_n 0, 1) := by decide +kernel
theorem dX7_add_1 : decode cX7_add 1 = .ok (.getfield 9, 3) := by decide +kernel
theorem dX7_add_4 : decode cX7_add 4 = .ok (.aload_n 0, 1) := by decide +kernel
theorem dX7_add_5 : decode cX7_add 5 = .ok (.getfield 21, 3) := by decide +kernel
theorem dX7_add_8 : decode cX7_add 8 = .ok (.iload_n 1, 1) := by decide +kernel
theorem dX7_add_9 : decode cX7_add 9 = .ok (.iastore, 1) := by decide +kernel
theorem dX7_add_10 : decode cX7_add 10 = .ok (.aload_n 0, 1) := by decide +kernel
theorem dX7_add_11 : decode cX7_add 11 = .ok (.getfield 15, 3) := by decide +kernel
theorem dX7_add_14 : decode cX7_add 14 = .ok (.aload_n 0, 1) := by decide +kernel
theorem dX7_add_15 : decode cX7_add 15 = .ok (.getfield 21, 3) := by decide +kernel
theorem dX7_add_18 : decode cX7_add 18 = .ok (.iload_n 2, 1) := by decide +kernel
theorem dX7_add_19 : decode cX7_add 19 = .ok (.iastore, 1) := by decide +kernel
theorem dX7_add_20 : decode cX7_add 20 = .ok (.aload_n 0, 1) := by decide +kernel
theorem dX7_add_21 : decode cX7_add 21 = .ok (.getfield 18, 3) := by decide +kernel
theorem dX7_add_24 : decode cX7_add 24 = .ok (.aload_n 0, 1) := by decide +kernel
theorem dX7_add_25 : decode cX7_add 25 = .ok (.getfield 21, 3) := by decide +kernel
theorem dX7_add_28 : decode cX7_add 28 = .ok (.iload_n 3, 1) := by decide +kernel
theorem dX7_add_29 : decode cX7_add 29 = .ok (.iastore, 1) := by decide +kernel
theorem dX7_add_30 : decode cX7_add 30 = .ok (.aload_n 0, 1) := by decide +kernel
theorem dX7_add_31 : decode cX7_add 31 = .ok (.dup, 1) := by decide +kernel
theorem dX7_add_32 : decode cX7_add 32 = .ok (.getfield 21, 3) := by decide +kernel
theorem dX7_add_35 : decode cX7_add 35 = .ok (.dup_x1, 1) := by decide +kernel
theorem dX7_add_36 : decode cX7_add 36 = .ok (.iconst 1, 1) := by decide +kernel
theorem dX7_add_37 : decode cX7_add 37 = .ok (.iadd, 1) := by decide +kernel
theorem dX7_add_38 : decode cX7_add 38 = .ok (.putfield 21, 3) := by decide +kernel
theorem dX7_add_41 : decode cX7_add 41 = .ok (.ireturn, 1) := by decide +kernel
theorem dX8_init_0 : decode cX8_init 0 = .ok (.aload_n 0, 1) := by decide +kernel
theorem dX8_init_1 : decode cX8_init 1 = .ok (.invokespecial 1, 3) := by decide +kernel
theorem dX8_init_4 : decode cX8_init 4 = .ok (.aload_n 0, 1) := by decide +kernel
theorem dX8_init_5 : decode cX8_init 5 = .ok (.sipush 200, 3) := by decide +kernel
theorem dX8_init_8 : decode cX8_init 8 = .ok (.newarray .int, 2) := by decide +kernel
theorem dX8_init_10 : decode cX8_init 10 = .ok (.putfield 9, 3) := by decide +kernel
theorem dX8_init_13 : decode cX8_init 13 = .ok (.aload_n 0, 1) := by decide +kernel
theorem dX8_init_14 : decode cX8_init 14 = .ok (.sipush 200, 3) := by decide +kernel
theorem dX8_init_17 : decode cX8_init 17 = .ok (.newarray .int, 2) := by decide +kernel
theorem dX8_init_19 : decode cX8_init 19 = .ok (.putfield 15, 3) := by decide +kernel
theorem dX8_init_22 : decode cX8_init 22 = .ok (.aload_n 0, 1) := by decide +kernel
theorem dX8_init_23 : decode cX8_init 23 = .ok (.sipush 200, 3) := by decide +kernel
theorem dX8_init_26 : decode cX8_init 26 = .ok (.newarray .int, 2) := by decide +kernel
theorem dX8_init_28 : decode cX8_init 28 = .ok (.putfield 18, 3) := by decide +kernel
theorem dX8_init_31 : decode cX8_init 31 = .ok (.aload_n 0, 1) := by decide +kernel
theorem dX8_init_32 : decode cX8_init 32 = .ok (.sipush 200, 3) := by decide +kernel
theorem dX8_init_35 : decode cX8_init 35 = .ok (.newarray .int, 2) := by decide +kernel
theorem dX8_init_37 : decode cX8_init 37 = .ok (.putfield 21, 3) := by decide +kernel
theorem dX8_init_40 : decode cX8_init 40 = .ok (.return_, 1) := by decide +kernel
theorem dX8_clear_0 : decode cX8_clear 0 = .ok (.aload_n 0, 1) := by decide +kernel
theorem dX8_clear_1 : decode cX8_clear 1 = .ok (.iconst 0, 1) := by decide +kernel
theorem dX8_clear_2 : decode cX8_clear 2 = .ok (.putfield 24, 3) := by decide +kernel
theorem dX8_clear_5 : decode cX8_clear 5 = .ok (.return_, 1) := by decide +kernel
theorem dX8_add_0 : decode cX8_add 0 = .ok (.aload_n 0, 1) := by decide +kernel
theorem dX8_add_1 : decode cX8_add 1 = .ok (.getfield 9, 3) := by decide +kernel
theorem dX8_add_4 : decode cX8_add 4 = .ok (.aload_n 0, 1) := by decide +kernel
theorem dX8_add_5 : decode cX8_add 5 = .ok (.getfield 24, 3) := by decide +kernel
theorem dX8_add_8 : decode cX8_add 8 = .ok (.iload_n 1, 1) := by decide +kernel
theorem dX8_add_9 : decode cX8_add 9 = .ok (.iastore, 1) := by decide +kernel
theorem dX8_add_10 : decode cX8_add 10 = .ok (.aload_n 0, 1) := by decide +kernel
theorem dX8_add_11 : decode cX8_add 11 = .ok (.getfield 15, 3) := by decide +kernel
theorem dX8_add_14 : decode cX8_add 14 = .ok (.aload_n 0, 1) := by decide +kernel
theorem dX8_add_15 : decode cX8_add 15 = .ok (.getfield 24, 3) := by decide +kernel
theorem dX8_add_18 : decode cX8_add 18 = .ok (.iload_n 2, 1) := by decide +kernel
theorem dX8_add_19 : decode cX8_add 19 = .ok (.iastore, 1) := by decide +kernel
theorem dX8_add_20 : decode cX8_add 20 = .ok (.aload_n 0, 1) := by decide +kernel
theorem dX8_add_21 : decode cX8_add 21 = .ok (.getfield 18, 3) := by decide +kernel
theorem dX8_add_24 : decode cX8_add 24 = .ok (.aload_n 0, 1) := by decide +kernel
theorem dX8_add_25 : decode cX8_add 25 = .ok (.getfield 24, 3) := by decide +kernel
theorem dX8_add_28 : decode cX8_add 28 = .ok (.iload_n 3, 1) := by decide +kernel
theorem dX8_add_29 : decode cX8_add 29 = .ok (.iastore, 1) := by decide +kernel
theorem dX8_add_30 : decode cX8_add 30 = .ok (.aload_n 0, 1) := by decide +kernel
theorem dX8_add_31 : decode cX8_add 31 = .ok (.getfield 21, 3) := by decide +kernel
theorem dX8_add_34 : decode cX8_add 34 = .ok (.aload_n 0, 1) := by decide +kernel
theorem dX8_add_35 : decode cX8_add 35 = .ok (.getfield 24, 3) := by decide +kernel
theorem dX8_add_38 : decode cX8_add 38 = .ok (.iload 4, 2) := by decide +kernel
theorem dX8_add_40 : decode cX8_add 40 = .ok (.iastore, 1) := by decide +kernel
theorem dX8_add_41 : decode cX8_add 41 = .ok (.aload_n 0, 1) := by decide +kernel
theorem dX8_add_42 : decode cX8_add 42 = .ok (.dup, 1) := by decide +kernel
theorem dX8_add_43 : decode cX8_add 43 = .ok (.getfield 24, 3) := by decide +kernel
theorem dX8_add_46 : decode cX8_add 46 = .ok (.dup_x1, 1) := by decide +kernel
theorem dX8_add_47 : decode cX8_add 47 = .ok (.iconst 1, 1) := by decide +kernel
theorem dX8_add_48 : decode cX8_add 48 = .ok (.iadd, 1) := by decide +kernel
theorem dX8_add_49 : decode cX8_add 49 = .ok (.putfield 24, 3) := by decide +kernel
theorem dX8_add_52 : decode cX8_add 52 = .ok (.ireturn, 1) := by decide +kernel
theorem dX9_init_0 : decode cX9_init 0 = .ok (.aload_n 0, 1) := by decide +kernel
theorem dX9_init_1 : decode cX9_init 1 = .ok (.invokespecial 1, 3) := by decide +kernel
theorem dX9_init_4 : decode cX9_init 4 = .ok (.new 7, 3) := by decide +kernel
theorem dX9_init_7 : decode cX9_init 7 = .ok (.dup, 1) := by decide +kernel
theorem dX9_init_8 : decode cX9_init 8 = .ok (.invokespecial 9, 3) := by decide +kernel
theorem dX9_init_11 : decode cX9_init 11 = .ok (.astore_n 1, 1) := by decide +kernel
theorem dX9_init_12 : decode cX9_init 12 = .ok (.aload_n 0, 1) := by decide +kernel
theorem dX9_init_13 : decode cX9_init 13 = .ok (.aload_n 1, 1) := by decide +kernel
theorem dX9_init_14 : decode cX9_init 14 = .ok (.putfield 10, 3) := by decide +kernel
theorem dX9_init_17 : decode cX9_init 17 = .ok (.aload_n 0, 1) := by decide +kernel
theorem dX9_init_18 : decode cX9_init 18 = .ok (.new 16, 3) := by decide +kernel
theorem dX9_init_21 : decode cX9_init 21 = .ok (.dup, 1) := by decide +kernel
theorem dX9_init_22 : decode cX9_init 22 = .ok (.aload_n 1, 1) := by decide +kernel
theorem dX9_init_23 : decode cX9_init 23 = .ok (.invokespecial 18, 3) := by decide +kernel
theorem dX9_init_26 : decode cX9_init 26 = .ok (.putfield 21, 3) := by decide +kernel
theorem dX9_init_29 : decode cX9_init 29 = .ok (.aload_n 0, 1) := by decide +kernel
theorem dX9_init_30 : decode cX9_init 30 = .ok (.new 25, 3) := by decide +kernel
theorem dX9_init_33 : decode cX9_init 33 = .ok (.dup, 1) := by decide +kernel
theorem dX9_init_34 : decode cX9_init 34 = .ok (.aload_n 1, 1) := by decide +kernel
theorem dX9_init_35 : decode cX9_init 35 = .ok (.invokespecial 27, 3) := by decide +kernel
theorem dX9_init_38 : decode cX9_init 38 = .ok (.putfield 28, 3) := by decide +kernel
theorem dX9_init_41 : decode cX9_init 41 = .ok (.aload_n 0, 1) := by decide +kernel
theorem dX9_init_42 : decode cX9_init 42 = .ok (.new 32, 3) := by decide +kernel
theorem dX9_init_45 : decode cX9_init 45 = .ok (.dup, 1) := by decide +kernel
theorem dX9_init_46 : decode cX9_init 46 = .ok (.invokespecial 34, 3) := by decide +kernel
theorem dX9_init_49 : decode cX9_init 49 = .ok (.putfield 35, 3) := by decide +kernel
theorem dX9_init_52 : decode cX9_init 52 = .ok (.return_, 1) := by decide +kernel
theorem dX9_make_0 : decode cX9_make 0 = .ok (.aload_n 0, 1) := by decide +kernel
theorem dX9_make_1 : decode cX9_make 1 = .ok (.getfield 10, 3) := by decide +kernel
theorem dX9_make_4 : decode cX9_make 4 = .ok (.iload_n 1, 1) := by decide +kernel
theorem dX9_make_5 : decode cX9_make 5 = .ok (.iload_n 2, 1) := by decide +kernel
theorem dX9_make_6 : decode cX9_make 6 = .ok (.iload_n 3, 1) := by decide +kernel
theorem dX9_make_7 : decode cX9_make 7 = .ok (.iload 4, 2) := by decide +kernel
theorem dX9_make_9 : decode cX9_make 9 = .ok (.invokevirtual 39, 3) := by decide +kernel
theorem dX9_make_12 : decode cX9_make 12 = .ok (.ifCond .ne 11, 3) := by decide +kernel
theorem dX9_make_15 : decode cX9_make 15 = .ok (.new 43, 3) := by decide +kernel
theorem dX9_make_18 : decode cX9_make 18 = .ok (.dup, 1) := by decide +kernel
theorem dX9_make_19 : decode cX9_make 19 = .ok (.invokespecial 45, 3) := by decide +kernel
theorem dX9_make_22 : decode cX9_make 22 = .ok (.athrow, 1) := by decide +kernel
theorem dX9_make_23 : decode cX9_make 23 = .ok (.aload_n 0, 1) := by decide +kernel
theorem dX9_make_24 : decode cX9_make 24 = .ok (.getfield 10, 3) := by decide +kernel
theorem dX9_make_27 : decode cX9_make 27 = .ok (.iload_n 1, 1) := by decide +kernel
theorem dX9_make_28 : decode cX9_make 28 = .ok (.iload_n 2, 1) := by decide +kernel
theorem dX9_make_29 : decode cX9_make 29 = .ok (.iload_n 3, 1) := by decide +kernel
theorem dX9_make_30 : decode cX9_make 30 = .ok (.iload 4, 2) := by decide +kernel
theorem dX9_make_32 : decode cX9_make 32 = .ok (.invokevirtual 46, 3) := by decide +kernel
theorem dX9_make_35 : decode cX9_make 35 = .ok (.ifCond .ne 11, 3) := by decide +kernel
theorem dX9_make_38 : decode cX9_make 38 = .ok (.new 49, 3) := by decide +kernel
theorem dX9_make_41 : decode cX9_make 41 = .ok (.dup, 1) := by decide +kernel
theorem dX9_make_42 : decode cX9_make 42 = .ok (.invokespecial 51, 3) := by decide +kernel
theorem dX9_make_45 : decode cX9_make 45 = .ok (.athrow, 1) := by decide +kernel
theorem dX9_make_46 : decode cX9_make 46 = .ok (.aload_n 0, 1) := by decide +kernel
theorem dX9_make_47 : decode cX9_make 47 = .ok (.getfield 10, 3) := by decide +kernel
theorem dX9_make_50 : decode cX9_make 50 = .ok (.iload_n 1, 1) := by decide +kernel
theorem dX9_make_51 : decode cX9_make 51 = .ok (.iload_n 2, 1) := by decide +kernel
theorem dX9_make_52 : decode cX9_make 52 = .ok (.iload_n 3, 1) := by decide +kernel
theorem dX9_make_53 : decode cX9_make 53 = .ok (.iload 4, 2) := by decide +kernel
theorem dX9_make_55 : decode cX9_make 55 = .ok (.invokevirtual 52, 3) := by decide +kernel
theorem dX9_make_58 : decode cX9_make 58 = .ok (.ireturn, 1) := by decide +kernel
theorem dX9_open_0 : decode cX9_open 0 = .ok (.aload_n 0, 1) := by decide +kernel
theorem dX9_open_1 : decode cX9_open 1 = .ok (.getfield 10, 3) := by decide +kernel
theorem dX9_open_4 : decode cX9_open 4 = .ok (.iload_n 1, 1) := by decide +kernel
theorem dX9_open_5 : decode cX9_open 5 = .ok (.invokevirtual 56, 3) := by decide +kernel
theorem dX9_open_8 : decode cX9_open 8 = .ok (.ifCond .ne 11, 3) := by decide +kernel
theorem dX9_open_11 : decode cX9_open 11 = .ok (.new 60, 3) := by decide +kernel
theorem dX9_open_14 : decode cX9_open 14 = .ok (.dup, 1) := by decide +kernel
theorem dX9_open_15 : decode cX9_open 15 = .ok (.invokespecial 62, 3) := by decide +kernel
theorem dX9_open_18 : decode cX9_open 18 = .ok (.athrow, 1) := by decide +kernel
theorem dX9_open_19 : decode cX9_open 19 = .ok (.aload_n 0, 1) := by decide +kernel
theorem dX9_open_20 : decode cX9_open 20 = .ok (.getfield 10, 3) := by decide +kernel
theorem dX9_open_23 : decode cX9_open 23 = .ok (.getfield 63, 3) := by decide +kernel
theorem dX9_open_26 : decode cX9_open 26 = .ok (.iload_n 1, 1) := by decide +kernel
theorem dX9_open_27 : decode cX9_open 27 = .ok (.iaload, 1) := by decide +kernel
theorem dX9_open_28 : decode cX9_open 28 = .ok (.ireturn, 1) := by decide +kernel
theorem dX9_work_0 : decode cX9_work 0 = .ok (.aload_n 0, 1) := by decide +kernel
theorem dX9_work_1 : decode cX9_work 1 = .ok (.getfield 10, 3) := by decide +kernel
theorem dX9_work_4 : decode cX9_work 4 = .ok (.iload_n 1, 1) := by decide +kernel
theorem dX9_work_5 : decode cX9_work 5 = .ok (.invokevirtual 67, 3) := by decide +kernel
theorem dX9_work_8 : decode cX9_work 8 = .ok (.ifCond .ne 11, 3) := by decide +kernel
theorem dX9_work_11 : decode cX9_work 11 = .ok (.new 60, 3) := by decide +kernel
theorem dX9_work_14 : decode cX9_work 14 = .ok (.dup, 1) := by decide +kernel
theorem dX9_work_15 : decode cX9_work 15 = .ok (.invokespecial 62, 3) := by decide +kernel
theorem dX9_work_18 : decode cX9_work 18 = .ok (.athrow, 1) := by decide +kernel
theorem dX9_work_19 : decode cX9_work 19 = .ok (.iload_n 2, 1) := by decide +kernel
theorem dX9_work_20 : decode cX9_work 20 = .ok (.iconst 1, 1) := by decide +kernel
theorem dX9_work_21 : decode cX9_work 21 = .ok (.if_icmp .lt 10, 3) := by decide +kernel
theorem dX9_work_24 : decode cX9_work 24 = .ok (.iload_n 2, 1) := by decide +kernel
theorem dX9_work_25 : decode cX9_work 25 = .ok (.sipush 200, 3) := by decide +kernel
theorem dX9_work_28 : decode cX9_work 28 = .ok (.if_icmp .le 11, 3) := by decide +kernel
theorem dX9_work_31 : decode cX9_work 31 = .ok (.new 70, 3) := by decide +kernel
theorem dX9_work_34 : decode cX9_work 34 = .ok (.dup, 1) := by decide +kernel
theorem dX9_work_35 : decode cX9_work 35 = .ok (.invokespecial 72, 3) := by decide +kernel
theorem dX9_work_38 : decode cX9_work 38 = .ok (.athrow, 1) := by decide +kernel
theorem dX9_work_39 : decode cX9_work 39 = .ok (.aload_n 0, 1) := by decide +kernel
theorem dX9_work_40 : decode cX9_work 40 = .ok (.getfield 21, 3) := by decide +kernel
theorem dX9_work_43 : decode cX9_work 43 = .ok (.iload_n 1, 1) := by decide +kernel
theorem dX9_work_44 : decode cX9_work 44 = .ok (.iload_n 2, 1) := by decide +kernel
theorem dX9_work_45 : decode cX9_work 45 = .ok (.invokevirtual 73, 3) := by decide +kernel
theorem dX9_work_48 : decode cX9_work 48 = .ok (.istore_n 3, 1) := by decide +kernel
theorem dX9_work_49 : decode cX9_work 49 = .ok (.iload_n 3, 1) := by decide +kernel
theorem dX9_work_50 : decode cX9_work 50 = .ok (.iconst 1, 1) := by decide +kernel
theorem dX9_work_51 : decode cX9_work 51 = .ok (.if_icmp .ne 21, 3) := by decide +kernel
theorem dX9_work_54 : decode cX9_work 54 = .ok (.aload_n 0, 1) := by decide +kernel
theorem dX9_work_55 : decode cX9_work 55 = .ok (.dup, 1) := by decide +kernel
theorem dX9_work_56 : decode cX9_work 56 = .ok (.getfield 77, 3) := by decide +kernel
theorem dX9_work_59 : decode cX9_work 59 = .ok (.iconst 1, 1) := by decide +kernel
theorem dX9_work_60 : decode cX9_work 60 = .ok (.iadd, 1) := by decide +kernel
theorem dX9_work_61 : decode cX9_work 61 = .ok (.putfield 77, 3) := by decide +kernel
theorem dX9_work_64 : decode cX9_work 64 = .ok (.new 43, 3) := by decide +kernel
theorem dX9_work_67 : decode cX9_work 67 = .ok (.dup, 1) := by decide +kernel
theorem dX9_work_68 : decode cX9_work 68 = .ok (.invokespecial 45, 3) := by decide +kernel
theorem dX9_work_71 : decode cX9_work 71 = .ok (.athrow, 1) := by decide +kernel
theorem dX9_work_72 : decode cX9_work 72 = .ok (.iload_n 3, 1) := by decide +kernel
theorem dX9_work_73 : decode cX9_work 73 = .ok (.ifCond .eq 21, 3) := by decide +kernel
theorem dX9_work_76 : decode cX9_work 76 = .ok (.aload_n 0, 1) := by decide +kernel
theorem dX9_work_77 : decode cX9_work 77 = .ok (.dup, 1) := by decide +kernel
theorem dX9_work_78 : decode cX9_work 78 = .ok (.getfield 81, 3) := by decide +kernel
theorem dX9_work_81 : decode cX9_work 81 = .ok (.iconst 1, 1) := by decide +kernel
theorem dX9_work_82 : decode cX9_work 82 = .ok (.iadd, 1) := by decide +kernel
theorem dX9_work_83 : decode cX9_work 83 = .ok (.putfield 81, 3) := by decide +kernel
theorem dX9_work_86 : decode cX9_work 86 = .ok (.new 49, 3) := by decide +kernel
theorem dX9_work_89 : decode cX9_work 89 = .ok (.dup, 1) := by decide +kernel
theorem dX9_work_90 : decode cX9_work 90 = .ok (.invokespecial 51, 3) := by decide +kernel
theorem dX9_work_93 : decode cX9_work 93 = .ok (.athrow, 1) := by decide +kernel
theorem dX9_work_94 : decode cX9_work 94 = .ok (.aload_n 0, 1) := by decide +kernel
theorem dX9_work_95 : decode cX9_work 95 = .ok (.invokevirtual 84, 3) := by decide +kernel
theorem dX9_work_98 : decode cX9_work 98 = .ok (.ireturn, 1) := by decide +kernel
theorem dX9_value_0 : decode cX9_value 0 = .ok (.aload_n 0, 1) := by decide +kernel
theorem dX9_value_1 : decode cX9_value 1 = .ok (.getfield 88, 3) := by decide +kernel
theorem dX9_value_4 : decode cX9_value 4 = .ok (.ireturn, 1) := by decide +kernel
theorem dX9_steps_0 : decode cX9_steps 0 = .ok (.aload_n 0, 1) := by decide +kernel
theorem dX9_steps_1 : decode cX9_steps 1 = .ok (.getfield 91, 3) := by decide +kernel
theorem dX9_steps_4 : decode cX9_steps 4 = .ok (.ireturn, 1) := by decide +kernel
theorem dX9_type_0 : decode cX9_type 0 = .ok (.aload_n 0, 1) := by decide +kernel
theorem dX9_type_1 : decode cX9_type 1 = .ok (.getfield 10, 3) := by decide +kernel
theorem dX9_type_4 : decode cX9_type 4 = .ok (.iload_n 1, 1) := by decide +kernel
theorem dX9_type_5 : decode cX9_type 5 = .ok (.invokevirtual 67, 3) := by decide +kernel
theorem dX9_type_8 : decode cX9_type 8 = .ok (.ifCond .ne 11, 3) := by decide +kernel
theorem dX9_type_11 : decode cX9_type 11 = .ok (.new 60, 3) := by decide +kernel
theorem dX9_type_14 : decode cX9_type 14 = .ok (.dup, 1) := by decide +kernel
theorem dX9_type_15 : decode cX9_type 15 = .ok (.invokespecial 62, 3) := by decide +kernel
theorem dX9_type_18 : decode cX9_type 18 = .ok (.athrow, 1) := by decide +kernel
theorem dX9_type_19 : decode cX9_type 19 = .ok (.aload_n 0, 1) := by decide +kernel
theorem dX9_type_20 : decode cX9_type 20 = .ok (.getfield 28, 3) := by decide +kernel
theorem dX9_type_23 : decode cX9_type 23 = .ok (.iload_n 1, 1) := by decide +kernel
theorem dX9_type_24 : decode cX9_type 24 = .ok (.invokevirtual 94, 3) := by decide +kernel
theorem dX9_type_27 : decode cX9_type 27 = .ok (.istore_n 2, 1) := by decide +kernel
theorem dX9_type_28 : decode cX9_type 28 = .ok (.iload_n 2, 1) := by decide +kernel
theorem dX9_type_29 : decode cX9_type 29 = .ok (.iconst (-1), 1) := by decide +kernel
theorem dX9_type_30 : decode cX9_type 30 = .ok (.if_icmp .ne 21, 3) := by decide +kernel
theorem dX9_type_33 : decode cX9_type 33 = .ok (.aload_n 0, 1) := by decide +kernel
theorem dX9_type_34 : decode cX9_type 34 = .ok (.dup, 1) := by decide +kernel
theorem dX9_type_35 : decode cX9_type 35 = .ok (.getfield 98, 3) := by decide +kernel
theorem dX9_type_38 : decode cX9_type 38 = .ok (.iconst 1, 1) := by decide +kernel
theorem dX9_type_39 : decode cX9_type 39 = .ok (.iadd, 1) := by decide +kernel
theorem dX9_type_40 : decode cX9_type 40 = .ok (.putfield 98, 3) := by decide +kernel
theorem dX9_type_43 : decode cX9_type 43 = .ok (.new 43, 3) := by decide +kernel
theorem dX9_type_46 : decode cX9_type 46 = .ok (.dup, 1) := by decide +kernel
theorem dX9_type_47 : decode cX9_type 47 = .ok (.invokespecial 45, 3) := by decide +kernel
theorem dX9_type_50 : decode cX9_type 50 = .ok (.athrow, 1) := by decide +kernel
theorem dX9_type_51 : decode cX9_type 51 = .ok (.aload_n 0, 1) := by decide +kernel
theorem dX9_type_52 : decode cX9_type 52 = .ok (.dup, 1) := by decide +kernel
theorem dX9_type_53 : decode cX9_type 53 = .ok (.getfield 101, 3) := by decide +kernel
theorem dX9_type_56 : decode cX9_type 56 = .ok (.iconst 1, 1) := by decide +kernel
theorem dX9_type_57 : decode cX9_type 57 = .ok (.iadd, 1) := by decide +kernel
theorem dX9_type_58 : decode cX9_type 58 = .ok (.putfield 101, 3) := by decide +kernel
theorem dX9_type_61 : decode cX9_type 61 = .ok (.aload_n 0, 1) := by decide +kernel
theorem dX9_type_62 : decode cX9_type 62 = .ok (.getfield 35, 3) := by decide +kernel
theorem dX9_type_65 : decode cX9_type 65 = .ok (.aload_n 0, 1) := by decide +kernel
theorem dX9_type_66 : decode cX9_type 66 = .ok (.getfield 28, 3) := by decide +kernel
theorem dX9_type_69 : decode cX9_type 69 = .ok (.getfield 104, 3) := by decide +kernel
theorem dX9_type_72 : decode cX9_type 72 = .ok (.iload_n 2, 1) := by decide +kernel
theorem dX9_type_73 : decode cX9_type 73 = .ok (.invokevirtual 108, 3) := by decide +kernel
theorem dX9_type_76 : decode cX9_type 76 = .ok (.aload_n 0, 1) := by decide +kernel
theorem dX9_type_77 : decode cX9_type 77 = .ok (.getfield 35, 3) := by decide +kernel
theorem dX9_type_80 : decode cX9_type 80 = .ok (.iconst 0, 1) := by decide +kernel
theorem dX9_type_81 : decode cX9_type 81 = .ok (.invokevirtual 112, 3) := by decide +kernel
theorem dX9_type_84 : decode cX9_type 84 = .ok (.ireturn, 1) := by decide +kernel
theorem dX9_part_0 : decode cX9_part 0 = .ok (.aload_n 0, 1) := by decide +kernel
theorem dX9_part_1 : decode cX9_part 1 = .ok (.getfield 35, 3) := by decide +kernel
theorem dX9_part_4 : decode cX9_part 4 = .ok (.iload_n 1, 1) := by decide +kernel
theorem dX9_part_5 : decode cX9_part 5 = .ok (.invokevirtual 112, 3) := by decide +kernel
theorem dX9_part_8 : decode cX9_part 8 = .ok (.ireturn, 1) := by decide +kernel
theorem dX9_count_0 : decode cX9_count 0 = .ok (.iload_n 1, 1) := by decide +kernel
theorem dX9_count_1 : decode cX9_count 1 = .ok (.tableswitch 72 0 5 #[39, 47, 52, 57, 62, 67], 39) := by decide +kernel
theorem dX9_count_40 : decode cX9_count 40 = .ok (.aload_n 0, 1) := by decide +kernel
theorem dX9_count_41 : decode cX9_count 41 = .ok (.getfield 10, 3) := by decide +kernel
theorem dX9_count_44 : decode cX9_count 44 = .ok (.getfield 115, 3) := by decide +kernel
theorem dX9_count_47 : decode cX9_count 47 = .ok (.ireturn, 1) := by decide +kernel
theorem dX9_count_48 : decode cX9_count 48 = .ok (.aload_n 0, 1) := by decide +kernel
theorem dX9_count_49 : decode cX9_count 49 = .ok (.getfield 118, 3) := by decide +kernel
theorem dX9_count_52 : decode cX9_count 52 = .ok (.ireturn, 1) := by decide +kernel
theorem dX9_count_53 : decode cX9_count 53 = .ok (.aload_n 0, 1) := by decide +kernel
theorem dX9_count_54 : decode cX9_count 54 = .ok (.getfield 77, 3) := by decide +kernel
theorem dX9_count_57 : decode cX9_count 57 = .ok (.ireturn, 1) := by decide +kernel
theorem dX9_count_58 : decode cX9_count 58 = .ok (.aload_n 0, 1) := by decide +kernel
theorem dX9_count_59 : decode cX9_count 59 = .ok (.getfield 81, 3) := by decide +kernel
theorem dX9_count_62 : decode cX9_count 62 = .ok (.ireturn, 1) := by decide +kernel
theorem dX9_count_63 : decode cX9_count 63 = .ok (.aload_n 0, 1) := by decide +kernel
theorem dX9_count_64 : decode cX9_count 64 = .ok (.getfield 101, 3) := by decide +kernel
theorem dX9_count_67 : decode cX9_count 67 = .ok (.ireturn, 1) := by decide +kernel
theorem dX9_count_68 : decode cX9_count 68 = .ok (.aload_n 0, 1) := by decide +kernel
theorem dX9_count_69 : decode cX9_count 69 = .ok (.getfield 98, 3) := by decide +kernel
theorem dX9_count_72 : decode cX9_count 72 = .ok (.ireturn, 1) := by decide +kernel
theorem dX9_count_73 : decode cX9_count 73 = .ok (.iconst (-1), 1) := by decide +kernel
theorem dX9_count_74 : decode cX9_count 74 = .ok (.ireturn, 1) := by decide +kernel
theorem dX9_mean_0 : decode cX9_mean 0 = .ok (.aload_n 0, 1) := by decide +kernel
theorem dX9_mean_1 : decode cX9_mean 1 = .ok (.getfield 118, 3) := by decide +kernel
theorem dX9_mean_4 : decode cX9_mean 4 = .ok (.ifCond .ne 5, 3) := by decide +kernel
theorem dX9_mean_7 : decode cX9_mean 7 = .ok (.fconst 0, 1) := by decide +kernel
theorem dX9_mean_8 : decode cX9_mean 8 = .ok (.freturn, 1) := by decide +kernel
theorem dX9_mean_9 : decode cX9_mean 9 = .ok (.aload_n 0, 1) := by decide +kernel
theorem dX9_mean_10 : decode cX9_mean 10 = .ok (.getfield 121, 3) := by decide +kernel
theorem dX9_mean_13 : decode cX9_mean 13 = .ok (.l2f, 1) := by decide +kernel
theorem dX9_mean_14 : decode cX9_mean 14 = .ok (.aload_n 0, 1) := by decide +kernel
theorem dX9_mean_15 : decode cX9_mean 15 = .ok (.getfield 118, 3) := by decide +kernel
theorem dX9_mean_18 : decode cX9_mean 18 = .ok (.i2f, 1) := by decide +kernel
theorem dX9_mean_19 : decode cX9_mean 19 = .ok (.fdiv, 1) := by decide +kernel
theorem dX9_mean_20 : decode cX9_mean 20 = .ok (.freturn, 1) := by decide +kernel
theorem dX9_keepValue_0 : decode cX9_keepValue 0 = .ok (.aload_n 0, 1) := by decide +kernel
theorem dX9_keepValue_1 : decode cX9_keepValue 1 = .ok (.aload_n 0, 1) := by decide +kernel
theorem dX9_keepValue_2 : decode cX9_keepValue 2 = .ok (.getfield 21, 3) := by decide +kernel
theorem dX9_keepValue_5 : decode cX9_keepValue 5 = .ok (.invokevirtual 125, 3) := by decide +kernel
theorem dX9_keepValue_8 : decode cX9_keepValue 8 = .ok (.putfield 88, 3) := by decide +kernel
theorem dX9_keepValue_11 : decode cX9_keepValue 11 = .ok (.aload_n 0, 1) := by decide +kernel
theorem dX9_keepValue_12 : decode cX9_keepValue 12 = .ok (.aload_n 0, 1) := by decide +kernel
theorem dX9_keepValue_13 : decode cX9_keepValue 13 = .ok (.getfield 21, 3) := by decide +kernel
theorem dX9_keepValue_16 : decode cX9_keepValue 16 = .ok (.getfield 128, 3) := by decide +kernel
theorem dX9_keepValue_19 : decode cX9_keepValue 19 = .ok (.putfield 91, 3) := by decide +kernel
theorem dX9_keepValue_22 : decode cX9_keepValue 22 = .ok (.aload_n 0, 1) := by decide +kernel
theorem dX9_keepValue_23 : decode cX9_keepValue 23 = .ok (.dup, 1) := by decide +kernel
theorem dX9_keepValue_24 : decode cX9_keepValue 24 = .ok (.getfield 121, 3) := by decide +kernel
theorem dX9_keepValue_27 : decode cX9_keepValue 27 = .ok (.aload_n 0, 1) := by decide +kernel
theorem dX9_keepValue_28 : decode cX9_keepValue 28 = .ok (.getfield 91, 3) := by decide +kernel
theorem dX9_keepValue_31 : decode cX9_keepValue 31 = .ok (.i2l, 1) := by decide +kernel
theorem dX9_keepValue_32 : decode cX9_keepValue 32 = .ok (.ladd, 1) := by decide +kernel
theorem dX9_keepValue_33 : decode cX9_keepValue 33 = .ok (.putfield 121, 3) := by decide +kernel
theorem dX9_keepValue_36 : decode cX9_keepValue 36 = .ok (.aload_n 0, 1) := by decide +kernel
theorem dX9_keepValue_37 : decode cX9_keepValue 37 = .ok (.dup, 1) := by decide +kernel
theorem dX9_keepValue_38 : decode cX9_keepValue 38 = .ok (.getfield 118, 3) := by decide +kernel
theorem dX9_keepValue_41 : decode cX9_keepValue 41 = .ok (.iconst 1, 1) := by decide +kernel
theorem dX9_keepValue_42 : decode cX9_keepValue 42 = .ok (.iadd, 1) := by decide +kernel
theorem dX9_keepValue_43 : decode cX9_keepValue 43 = .ok (.putfield 118, 3) := by decide +kernel
theorem dX9_keepValue_46 : decode cX9_keepValue 46 = .ok (.aload_n 0, 1) := by decide +kernel
theorem dX9_keepValue_47 : decode cX9_keepValue 47 = .ok (.getfield 21, 3) := by decide +kernel
theorem dX9_keepValue_50 : decode cX9_keepValue 50 = .ok (.invokevirtual 131, 3) := by decide +kernel
theorem dX9_keepValue_53 : decode cX9_keepValue 53 = .ok (.ireturn, 1) := by decide +kernel
theorem dJ9_max_7cf53_0 : decode cJ9_max_7cf53 0 = .ok (.iload_n 0, 1) := by decide +kernel
theorem dJ9_max_7cf53_1 : decode cJ9_max_7cf53 1 = .ok (.iload_n 1, 1) := by decide +kernel
theorem dJ9_max_7cf53_2 : decode cJ9_max_7cf53 2 = .ok (.if_icmp .lt 7, 3) := by decide +kernel
theorem dJ9_max_7cf53_5 : decode cJ9_max_7cf53 5 = .ok (.iload_n 0, 1) := by decide +kernel
theorem dJ9_max_7cf53_6 : decode cJ9_max_7cf53 6 = .ok (.goto 4, 3) := by decide +kernel
theorem dJ9_max_7cf53_9 : decode cJ9_max_7cf53 9 = .ok (.iload_n 1, 1) := by decide +kernel
theorem dJ9_max_7cf53_10 : decode cJ9_max_7cf53 10 = .ok (.ireturn, 1) := by decide +kernel
theorem dJ9_min_7cf53_0 : decode cJ9_min_7cf53 0 = .ok (.iload_n 0, 1) := by decide +kernel
theorem dJ9_min_7cf53_1 : decode cJ9_min_7cf53 1 = .ok (.iload_n 1, 1) := by decide +kernel
theorem dJ9_min_7cf53_2 : decode cJ9_min_7cf53 2 = .ok (.if_icmp .gt 7, 3) := by decide +kernel
theorem dJ9_min_7cf53_5 : decode cJ9_min_7cf53 5 = .ok (.iload_n 0, 1) := by decide +kernel
theorem dJ9_min_7cf53_6 : decode cJ9_min_7cf53 6 = .ok (.goto 4, 3) := by decide +kernel
theorem dJ9_min_7cf53_9 : decode cJ9_min_7cf53 9 = .ok (.iload_n 1, 1) := by decide +kernel
theorem dJ9_min_7cf53_10 : decode cJ9_min_7cf53 10 = .ok (.ireturn, 1) := by decide +kernel
theorem dJ7_fill_53178_0 : decode cJ7_fill_53178 0 = .ok (.iconst 0, 1) := by decide +kernel
theorem dJ7_fill_53178_1 : decode cJ7_fill_53178 1 = .ok (.istore_n 2, 1) := by decide +kernel
theorem dJ7_fill_53178_2 : decode cJ7_fill_53178 2 = .ok (.aload_n 0, 1) := by decide +kernel
theorem dJ7_fill_53178_3 : decode cJ7_fill_53178 3 = .ok (.arraylength, 1) := by decide +kernel
theorem dJ7_fill_53178_4 : decode cJ7_fill_53178 4 = .ok (.istore_n 3, 1) := by decide +kernel
theorem dJ7_fill_53178_5 : decode cJ7_fill_53178 5 = .ok (.iload_n 2, 1) := by decide +kernel
theorem dJ7_fill_53178_6 : decode cJ7_fill_53178 6 = .ok (.iload_n 3, 1) := by decide +kernel
theorem dJ7_fill_53178_7 : decode cJ7_fill_53178 7 = .ok (.if_icmp .ge 13, 3) := by decide +kernel
theorem dJ7_fill_53178_10 : decode cJ7_fill_53178 10 = .ok (.aload_n 0, 1) := by decide +kernel
theorem dJ7_fill_53178_11 : decode cJ7_fill_53178 11 = .ok (.iload_n 2, 1) := by decide +kernel
theorem dJ7_fill_53178_12 : decode cJ7_fill_53178 12 = .ok (.iload_n 1, 1) := by decide +kernel
theorem dJ7_fill_53178_13 : decode cJ7_fill_53178 13 = .ok (.iastore, 1) := by decide +kernel
theorem dJ7_fill_53178_14 : decode cJ7_fill_53178 14 = .ok (.iinc 2 1, 3) := by decide +kernel
theorem dJ7_fill_53178_17 : decode cJ7_fill_53178 17 = .ok (.goto (-12), 3) := by decide +kernel
theorem dJ7_fill_53178_20 : decode cJ7_fill_53178 20 = .ok (.return_, 1) := by decide +kernel
end
section
set_option maxRecDepth 20000 in
theorem ggX1_keep_X5_chosen : GoodIn wsX1_keep wsX5_chosen := goodIn_r _ [9, 10, 11, 34, 35, 36, 37, 38, 39, 40, 41, 42] (by decide +kernel) (by decide +kernel)
set_option maxRecDepth 20000 in
theorem gX1_keep_X5_chosen : GoodIn wsX1_keep (wsV RX1 29 RX5 yX5_chosen wsX5_chosen) := goodIn_app (goodIn_of _ (by decide +kernel)) ggX1_keep_X5_chosen
set_option maxRecDepth 20000 in
theorem ggX1_keep_J7_fill_53178 : GoodIn wsX1_keep wsJ7_fill_53178 := goodIn_r _ [15] (by decide +kernel) (by decide +kernel)
set_option maxRecDepth 20000 in
theorem gX1_keep_J7_fill_53178 : GoodIn wsX1_keep (va_wsS RX1 36 yJ7_fill_53178 wsJ7_fill_53178) := goodIn_app (goodIn_of _ (by decide +kernel)) ggX1_keep_J7_fill_53178
set_option maxRecDepth 20000 in
theorem ggX1_keep_X1_keepNode : GoodIn wsX1_keep wsX1_keepNode := goodIn_r _ [20, 3, 21, 2, 22, 4, 23, 24, 25, 8, 26, 27, 28, 6, 7, 9, 10, 11, 29, 30, 31, 32, 33, 34, 35, 36, 37, 38, 39, 40, 41, 42] (by decide +kernel) (by decide +kernel)
set_option maxRecDepth 20000 in
theorem gX1_keep_X1_keepNode : GoodIn wsX1_keep (wsV RX1 42 RX1 yX1_keepNode wsX1_keepNode) := goodIn_app (goodIn_of _ (by decide +kernel)) ggX1_keep_X1_keepNode
set_option maxRecDepth 20000 in
theorem ggX1_keepNode_X5_chosenPart : GoodIn wsX1_keepNode wsX5_chosenPart := goodIn_r _ [10, 11, 12, 13, 14, 9, 15, 16, 17, 23, 24, 25, 26, 27, 28, 29, 30, 31] (by decide +kernel) (by decide +kernel)
set_option maxRecDepth 20000 in
theorem gX1_keepNode_X5_chosenPart : GoodIn wsX1_keepNode (wsV RX1 49 RX5 yX5_chosenPart wsX5_chosenPart) := goodIn_app (goodIn_of _ (by decide +kernel)) ggX1_keepNode_X5_chosenPart
set_option maxRecDepth 20000 in
theorem ggX2_init_X7_init : GoodIn wsX2_init wsX7_init := goodIn_r _ [20, 21, 2, 3, 16, 22, 23, 24, 37, 38, 39, 40] (by decide +kernel) (by decide +kernel)
set_option maxRecDepth 20000 in
theorem gX2_init_X7_init_n13 : GoodIn wsX2_init (wsX7_init) := ggX2_init_X7_init
set_option maxRecDepth 20000 in
theorem ggX2_init_X3_init : GoodIn wsX2_init wsX3_init := goodIn_r _ [26, 27, 2, 3, 16, 28, 29, 54, 55, 56] (by decide +kernel) (by decide +kernel)
set_option maxRecDepth 20000 in
theorem gX2_init_X3_init_n20 : GoodIn wsX2_init (wsX3_init) := ggX2_init_X3_init
set_option maxRecDepth 20000 in
theorem ggX2_init_X8_init : GoodIn wsX2_init wsX8_init := goodIn_r _ [31, 32, 2, 3, 16, 33, 34, 35, 36, 57, 58, 59, 60, 61] (by decide +kernel) (by decide +kernel)
set_option maxRecDepth 20000 in
theorem gX2_init_X8_init_n27 : GoodIn wsX2_init (wsX8_init) := ggX2_init_X8_init
set_option maxRecDepth 20000 in
theorem ggX2_workOut_X7_clear : GoodIn wsX2_workOut wsX7_clear := goodIn_r _ [13, 14, 118, 119, 120, 121] (by decide +kernel) (by decide +kernel)
set_option maxRecDepth 20000 in
theorem gX2_workOut_X7_clear : GoodIn wsX2_workOut (wsV RX2 40 RX7 yX7_clear wsX7_clear) := goodIn_app (goodIn_of _ (by decide +kernel)) ggX2_workOut_X7_clear
set_option maxRecDepth 20000 in
theorem ggX2_workOut_X3_clear : GoodIn wsX2_workOut wsX3_clear := goodIn_r _ [19, 20, 122, 123, 124] (by decide +kernel) (by decide +kernel)
set_option maxRecDepth 20000 in
theorem gX2_workOut_X3_clear : GoodIn wsX2_workOut (wsV RX2 43 RX3 yX3_clear wsX3_clear) := goodIn_app (goodIn_of _ (by decide +kernel)) ggX2_workOut_X3_clear
set_option maxRecDepth 20000 in
theorem ggX2_workOut_X8_clear : GoodIn wsX2_workOut wsX8_clear := goodIn_r _ [25, 26, 125, 126, 127, 128, 129] (by decide +kernel) (by decide +kernel)
set_option maxRecDepth 20000 in
theorem gX2_workOut_X8_clear : GoodIn wsX2_workOut (wsV RX2 44 RX8 yX8_clear wsX8_clear) := goodIn_app (goodIn_of _ (by decide +kernel)) ggX2_workOut_X8_clear
set_option maxRecDepth 20000 in
theorem ggX2_workOut_X2_goTo : GoodIn wsX2_workOut wsX2_goTo := goodIn_r _ [31, 32, 33, 34, 105, 106, 107, 108, 109, 110, 111, 112, 113, 114, 115, 116, 117] (by decide +kernel) (by decide +kernel)
set_option maxRecDepth 20000 in
theorem gX2_workOut_X2_goTo : GoodIn wsX2_workOut (wsV RX2 61 RX2 yX2_goTo wsX2_goTo) := goodIn_app (goodIn_of _ (by decide +kernel)) ggX2_workOut_X2_goTo
set_option maxRecDepth 20000 in
theorem ggX2_workOut_X2_doRound : GoodIn wsX2_workOut wsX2_doRound := goodIn_r _ [38, 34, 5, 6, 8, 7, 39, 40, 41, 30, 42, 4, 43, 44, 45, 46, 47, 48, 49, 32, 50, 1, 2, 33, 3, 51, 52, 53, 12, 54, 55, 14, 56, 57, 58, 59, 60, 18, 61, 62, 63, 64, 65, 66, 67, 68, 69, 70, 71, 20, 72, 73, 74, 24, 75, 76, 26, 77, 78, 79, 80, 81, 82, 83, 84, 85, 86, 87, 88, 89, 90, 91, 92, 93, 94, 95, 27, 28, 29, 31, 96, 97, 98, 99, 100, 101, 102, 103, 104, 105, 106, 107, 108, 109, 110, 111, 112, 113, 114, 115, 116, 117, 130, 131, 132, 133, 134, 135, 136, 137, 118, 119, 120, 121, 122, 123, 124, 125, 126, 127, 128, 129] (by decide +kernel) (by decide +kernel)
set_option maxRecDepth 20000 in
theorem gX2_workOut_X2_doRound : GoodIn wsX2_workOut (wsV RX2 65 RX2 yX2_doRound wsX2_doRound) := goodIn_app (goodIn_of _ (by decide +kernel)) ggX2_workOut_X2_doRound
set_option maxRecDepth 20000 in
theorem ggX2_plainResult_X2_resultForm : GoodIn wsX2_plainResult wsX2_resultForm := goodIn_r _ [8, 1, 9, 3, 10, 11, 12, 13, 14, 15, 16, 17, 18, 19, 20, 21, 22, 23, 24, 25, 26, 27, 28, 29, 30] (by decide +kernel) (by decide +kernel)
set_option maxRecDepth 20000 in
theorem gX2_plainResult_X2_resultForm : GoodIn wsX2_plainResult (wsV RX2 80 RX2 yX2_resultForm wsX2_resultForm) := goodIn_app (goodIn_of _ (by decide +kernel)) ggX2_plainResult_X2_resultForm
set_option maxRecDepth 20000 in
theorem ggX2_doRound_X2_leaveMark : GoodIn wsX2_doRound wsX2_leaveMark := goodIn_r _ [10, 11, 4, 12, 2, 89, 90, 91, 92, 93, 94, 95, 96, 97, 98, 99, 100, 101] (by decide +kernel) (by decide +kernel)
set_option maxRecDepth 20000 in
theorem gX2_doRound_X2_leaveMark : GoodIn wsX2_doRound (wsV RX2 87 RX2 yX2_leaveMark wsX2_leaveMark) := goodIn_app (goodIn_of _ (by decide +kernel)) ggX2_doRound_X2_leaveMark
set_option maxRecDepth 20000 in
theorem ggX2_doRound_X2_beginTerm : GoodIn wsX2_doRound wsX2_beginTerm := goodIn_r _ [16, 17, 18, 19, 20, 21, 1, 22, 23, 2, 24, 25, 26, 27, 28, 29, 30, 31, 32, 33, 34, 35, 36, 37, 38, 39, 40, 41, 42, 43, 9, 44, 12, 11, 45, 46, 47, 48, 49, 50, 51, 52, 53, 54, 55, 56, 57, 58, 59, 89, 90, 91, 92, 93, 94, 95, 96, 97, 98, 99, 100, 101, 102, 103, 104, 105, 106, 107, 108, 109, 110, 111, 112, 113, 114, 115, 116, 117, 118, 119, 120, 121] (by decide +kernel) (by decide +kernel)
set_option maxRecDepth 20000 in
theorem gX2_doRound_X2_beginTerm : GoodIn wsX2_doRound (wsV RX2 90 RX2 yX2_beginTerm wsX2_beginTerm) := goodIn_app (goodIn_of _ (by decide +kernel)) ggX2_doRound_X2_beginTerm
set_option maxRecDepth 20000 in
theorem ggX2_doRound_X2_bringValue : GoodIn wsX2_doRound wsX2_bringValue := goodIn_r _ [63, 2, 24, 64, 17, 20, 65, 66, 67, 22, 1, 68, 69, 70, 71, 9, 72, 21, 73, 4, 74, 75, 76, 77, 78, 79, 19, 23, 45, 46, 47, 37, 48, 40, 49, 39, 50, 51, 52, 53, 54, 55, 56, 57, 58, 59, 80, 81, 82, 83, 84, 18, 41, 42, 43, 44, 12, 11, 85, 86, 87, 88, 25, 26, 27, 28, 29, 30, 31, 32, 33, 89, 90, 91, 92, 93, 94, 95, 96, 97, 98, 99, 100, 101, 117, 118, 119, 120, 121, 102, 103, 104, 105, 106, 107, 108, 109, 110, 111, 112, 113, 114, 115, 116] (by decide +kernel) (by decide +kernel)
set_option maxRecDepth 20000 in
theorem gX2_doRound_X2_bringValue : GoodIn wsX2_doRound (wsV RX2 93 RX2 yX2_bringValue wsX2_bringValue) := goodIn_app (goodIn_of _ (by decide +kernel)) ggX2_doRound_X2_bringValue
set_option maxRecDepth 20000 in
theorem ggX2_beginTerm_X7_add : GoodIn wsX2_beginTerm wsX7_add := goodIn_r _ [15, 16, 17, 18, 19, 70, 71, 72, 73] (by decide +kernel) (by decide +kernel)
set_option maxRecDepth 20000 in
theorem gX2_beginTerm_X7_add : GoodIn wsX2_beginTerm (wsV RX2 110 RX7 yX7_add wsX7_add) := goodIn_app (goodIn_of _ (by decide +kernel)) ggX2_beginTerm_X7_add
set_option maxRecDepth 20000 in
theorem ggX2_beginTerm_X3_look : GoodIn wsX2_beginTerm wsX3_look := goodIn_r _ [24, 25, 26, 74, 75, 76] (by decide +kernel) (by decide +kernel)
set_option maxRecDepth 20000 in
theorem gX2_beginTerm_X3_look : GoodIn wsX2_beginTerm (wsV RX2 114 RX3 yX3_look wsX3_look) := goodIn_app (goodIn_of _ (by decide +kernel)) ggX2_beginTerm_X3_look
set_option maxRecDepth 20000 in
theorem ggX2_beginTerm_X2_enterMark : GoodIn wsX2_beginTerm wsX2_enterMark := goodIn_r _ [31, 32, 33, 9, 49, 50, 51, 52, 53, 54, 55, 56, 57, 58, 59, 60, 61] (by decide +kernel) (by decide +kernel)
set_option maxRecDepth 20000 in
theorem gX2_beginTerm_X2_enterMark : GoodIn wsX2_beginTerm (wsV RX2 117 RX2 yX2_enterMark wsX2_enterMark) := goodIn_app (goodIn_of _ (by decide +kernel)) ggX2_beginTerm_X2_enterMark
set_option maxRecDepth 20000 in
theorem ggX2_beginTerm_X3_bind : GoodIn wsX2_beginTerm wsX3_bind := goodIn_r _ [37, 26, 38, 25, 74, 75, 76] (by decide +kernel) (by decide +kernel)
set_option maxRecDepth 20000 in
theorem gX2_beginTerm_X3_bind : GoodIn wsX2_beginTerm (wsV RX2 121 RX3 yX3_bind wsX3_bind) := goodIn_app (goodIn_of _ (by decide +kernel)) ggX2_beginTerm_X3_bind
set_option maxRecDepth 20000 in
theorem ggX2_beginTerm_X8_add : GoodIn wsX2_beginTerm wsX8_add := goodIn_r _ [43, 44, 45, 46, 47, 48, 77, 78, 79, 80, 81] (by decide +kernel) (by decide +kernel)
set_option maxRecDepth 20000 in
theorem gX2_beginTerm_X8_add : GoodIn wsX2_beginTerm (wsV RX2 124 RX8 yX8_add wsX8_add) := goodIn_app (goodIn_of _ (by decide +kernel)) ggX2_beginTerm_X8_add
set_option maxRecDepth 20000 in
theorem ggX2_bringValue_X2_choose : GoodIn wsX2_bringValue wsX2_choose := goodIn_r _ [16, 17, 18, 10, 19, 20, 4, 8, 21, 22, 23, 24, 15, 25, 26, 27, 71, 72, 73, 74, 75, 76, 77, 78, 79, 80, 81, 82, 83, 97, 98, 99, 100, 89, 90, 91, 92, 93, 94, 95, 96] (by decide +kernel) (by decide +kernel)
set_option maxRecDepth 20000 in
theorem gX2_bringValue_X2_choose : GoodIn wsX2_bringValue (wsV RX2 136 RX2 yX2_choose wsX2_choose) := goodIn_app (goodIn_of _ (by decide +kernel)) ggX2_bringValue_X2_choose
set_option maxRecDepth 20000 in
theorem ggX2_bringValue_X3_bind : GoodIn wsX2_bringValue wsX3_bind := goodIn_r _ [32, 33, 34, 35, 101, 102, 103] (by decide +kernel) (by decide +kernel)
set_option maxRecDepth 20000 in
theorem gX2_bringValue_X3_bind : GoodIn wsX2_bringValue (wsV RX2 121 RX3 yX3_bind wsX3_bind) := goodIn_app (goodIn_of _ (by decide +kernel)) ggX2_bringValue_X3_bind
set_option maxRecDepth 20000 in
theorem ggX2_bringValue_X2_goTo : GoodIn wsX2_bringValue wsX2_goTo := goodIn_r _ [25, 26, 27, 10, 71, 72, 73, 74, 75, 76, 77, 78, 79, 80, 81, 82, 83] (by decide +kernel) (by decide +kernel)
set_option maxRecDepth 20000 in
theorem gX2_bringValue_X2_goTo : GoodIn wsX2_bringValue (wsV RX2 61 RX2 yX2_goTo wsX2_goTo) := goodIn_app (goodIn_of _ (by decide +kernel)) ggX2_bringValue_X2_goTo
set_option maxRecDepth 20000 in
theorem ggX2_bringValue_X8_add : GoodIn wsX2_bringValue wsX8_add := goodIn_r _ [40, 41, 42, 43, 44, 45, 84, 85, 86, 87, 88] (by decide +kernel) (by decide +kernel)
set_option maxRecDepth 20000 in
theorem gX2_bringValue_X8_add : GoodIn wsX2_bringValue (wsV RX2 124 RX8 yX8_add wsX8_add) := goodIn_app (goodIn_of _ (by decide +kernel)) ggX2_bringValue_X8_add
set_option maxRecDepth 20000 in
theorem ggX2_bringValue_X2_callWith : GoodIn wsX2_bringValue wsX2_callWith := goodIn_r _ [49, 17, 18, 20, 50, 4, 5, 9, 51, 19, 52, 53, 54, 15, 55, 56, 57, 1, 28, 29, 30, 31, 32, 33, 34, 35, 22, 23, 24, 25, 26, 27, 10, 71, 72, 73, 74, 75, 76, 77, 78, 79, 80, 81, 82, 83, 97, 98, 99, 100, 89, 90, 91, 92, 93, 94, 95, 96, 101, 102, 103] (by decide +kernel) (by decide +kernel)
set_option maxRecDepth 20000 in
theorem gX2_bringValue_X2_callWith : GoodIn wsX2_bringValue (wsV RX2 145 RX2 yX2_callWith wsX2_callWith) := goodIn_app (goodIn_of _ (by decide +kernel)) ggX2_bringValue_X2_callWith
set_option maxRecDepth 20000 in
theorem ggX2_bringValue_X2_joinNumbers : GoodIn wsX2_bringValue wsX2_joinNumbers := goodIn_r _ [61, 17, 18, 19, 20, 10, 62, 63, 64, 65, 66, 67, 68, 69, 70, 71, 72, 73, 74, 75, 76, 77, 78, 79, 80, 81, 82, 83, 97, 98, 99, 100] (by decide +kernel) (by decide +kernel)
set_option maxRecDepth 20000 in
theorem gX2_bringValue_X2_joinNumbers : GoodIn wsX2_bringValue (wsV RX2 148 RX2 yX2_joinNumbers wsX2_joinNumbers) := goodIn_app (goodIn_of _ (by decide +kernel)) ggX2_bringValue_X2_joinNumbers
set_option maxRecDepth 20000 in
theorem ggX2_choose_X2_goTo : GoodIn wsX2_choose wsX2_goTo := goodIn_r _ [13, 14, 15, 3, 16, 17, 18, 19, 20, 21, 22, 23, 24, 25, 26, 27, 28] (by decide +kernel) (by decide +kernel)
set_option maxRecDepth 20000 in
theorem gX2_choose_X2_goTo : GoodIn wsX2_choose (wsV RX2 61 RX2 yX2_goTo wsX2_goTo) := goodIn_app (goodIn_of _ (by decide +kernel)) ggX2_choose_X2_goTo
set_option maxRecDepth 20000 in
theorem ggX2_callWith_X2_enterMark : GoodIn wsX2_callWith wsX2_enterMark := goodIn_r _ [14, 15, 16, 17, 33, 34, 35, 36, 37, 38, 39, 40, 41, 42, 43, 44, 45] (by decide +kernel) (by decide +kernel)
set_option maxRecDepth 20000 in
theorem gX2_callWith_X2_enterMark : GoodIn wsX2_callWith (wsV RX2 117 RX2 yX2_enterMark wsX2_enterMark) := goodIn_app (goodIn_of _ (by decide +kernel)) ggX2_callWith_X2_enterMark
set_option maxRecDepth 20000 in
theorem ggX2_callWith_X3_bind : GoodIn wsX2_callWith wsX3_bind := goodIn_r _ [22, 23, 24, 25, 58, 59, 60] (by decide +kernel) (by decide +kernel)
set_option maxRecDepth 20000 in
theorem gX2_callWith_X3_bind : GoodIn wsX2_callWith (wsV RX2 121 RX3 yX3_bind wsX3_bind) := goodIn_app (goodIn_of _ (by decide +kernel)) ggX2_callWith_X3_bind
set_option maxRecDepth 20000 in
theorem ggX2_callWith_X2_goTo : GoodIn wsX2_callWith wsX2_goTo := goodIn_r _ [29, 30, 31, 32, 33, 34, 35, 36, 37, 38, 39, 40, 41, 42, 43, 44, 45] (by decide +kernel) (by decide +kernel)
set_option maxRecDepth 20000 in
theorem gX2_callWith_X2_goTo : GoodIn wsX2_callWith (wsV RX2 61 RX2 yX2_goTo wsX2_goTo) := goodIn_app (goodIn_of _ (by decide +kernel)) ggX2_callWith_X2_goTo
set_option maxRecDepth 20000 in
theorem ggX2_joinNumbers_X7_add : GoodIn wsX2_joinNumbers wsX7_add := goodIn_r _ [10, 11, 12, 13, 14, 28, 29, 30, 31] (by decide +kernel) (by decide +kernel)
set_option maxRecDepth 20000 in
theorem gX2_joinNumbers_X7_add : GoodIn wsX2_joinNumbers (wsV RX2 110 RX7 yX7_add wsX7_add) := goodIn_app (goodIn_of _ (by decide +kernel)) ggX2_joinNumbers_X7_add
set_option maxRecDepth 20000 in
theorem ggX4_hasClosed_X4_has : GoodIn wsX4_hasClosed wsX4_has := goodIn_r _ [6, 7, 8, 9, 10, 11, 12, 13, 14, 15] (by decide +kernel) (by decide +kernel)
set_option maxRecDepth 20000 in
theorem gX4_hasClosed_X4_has : GoodIn wsX4_hasClosed (wsV RX4 35 RX4 yX4_has wsX4_has) := goodIn_app (goodIn_of _ (by decide +kernel)) ggX4_hasClosed_X4_has
set_option maxRecDepth 20000 in
theorem ggX4_wordsFit_X4_has : GoodIn wsX4_wordsFit wsX4_has := goodIn_r _ [6, 7, 8, 9, 10, 11, 12, 13, 14, 15] (by decide +kernel) (by decide +kernel)
set_option maxRecDepth 20000 in
theorem gX4_wordsFit_X4_has : GoodIn wsX4_wordsFit (wsV RX4 35 RX4 yX4_has wsX4_has) := goodIn_app (goodIn_of _ (by decide +kernel)) ggX4_wordsFit_X4_has
end
section
set_option maxRecDepth 20000 in
theorem ggX4_hasRoomFor_X4_heightOver : GoodIn wsX4_hasRoomFor wsX4_heightOver := goodIn_r _ [7, 8, 9, 10, 11, 12, 18, 19, 20, 21, 22, 23, 24, 25] (by decide +kernel) (by decide +kernel)
set_option maxRecDepth 20000 in
theorem gX4_hasRoomFor_X4_heightOver : GoodIn wsX4_hasRoomFor (wsV RX4 44 RX4 yX4_heightOver wsX4_heightOver) := goodIn_app (goodIn_of _ (by decide +kernel)) ggX4_hasRoomFor_X4_heightOver
set_option maxRecDepth 20000 in
theorem ggX4_hasRoomFor_X4_sizeOver : GoodIn wsX4_hasRoomFor wsX4_sizeOver := goodIn_r _ [16, 17, 18, 19, 20, 21, 22, 23, 24, 25] (by decide +kernel) (by decide +kernel)
set_option maxRecDepth 20000 in
theorem gX4_hasRoomFor_X4_sizeOver : GoodIn wsX4_hasRoomFor (wsV RX4 48 RX4 yX4_sizeOver wsX4_sizeOver) := goodIn_app (goodIn_of _ (by decide +kernel)) ggX4_hasRoomFor_X4_sizeOver
set_option maxRecDepth 20000 in
theorem ggX4_add_X4_heightOver : GoodIn wsX4_add wsX4_heightOver := goodIn_r _ [14, 7, 15, 16, 17, 18, 28, 29, 30, 31, 32, 33, 34, 35] (by decide +kernel) (by decide +kernel)
set_option maxRecDepth 20000 in
theorem gX4_add_X4_heightOver : GoodIn wsX4_add (wsV RX4 44 RX4 yX4_heightOver wsX4_heightOver) := goodIn_app (goodIn_of _ (by decide +kernel)) ggX4_add_X4_heightOver
set_option maxRecDepth 20000 in
theorem ggX4_add_X4_sizeOver : GoodIn wsX4_add wsX4_sizeOver := goodIn_r _ [22, 8, 28, 29, 30, 31, 32, 33, 34, 35] (by decide +kernel) (by decide +kernel)
set_option maxRecDepth 20000 in
theorem gX4_add_X4_sizeOver : GoodIn wsX4_add (wsV RX4 48 RX4 yX4_sizeOver wsX4_sizeOver) := goodIn_app (goodIn_of _ (by decide +kernel)) ggX4_add_X4_sizeOver
set_option maxRecDepth 20000 in
theorem ggX4_add_X4_neededOver : GoodIn wsX4_add wsX4_neededOver := goodIn_r _ [26, 27, 1, 9, 15, 16, 17, 18, 28, 29, 30, 31, 32, 33, 34, 35] (by decide +kernel) (by decide +kernel)
set_option maxRecDepth 20000 in
theorem gX4_add_X4_neededOver : GoodIn wsX4_add (wsV RX4 51 RX4 yX4_neededOver wsX4_neededOver) := goodIn_app (goodIn_of _ (by decide +kernel)) ggX4_add_X4_neededOver
set_option maxRecDepth 20000 in
theorem ggX5_clear_X5_addNode : GoodIn wsX5_clear wsX5_addNode := goodIn_r _ [6, 7, 1, 8, 9, 10, 11, 12, 13, 14, 15, 16, 17, 18, 19] (by decide +kernel) (by decide +kernel)
set_option maxRecDepth 20000 in
theorem gX5_clear_X5_addNode : GoodIn wsX5_clear (wsV RX5 39 RX5 yX5_addNode wsX5_addNode) := goodIn_app (goodIn_of _ (by decide +kernel)) ggX5_clear_X5_addNode
set_option maxRecDepth 20000 in
theorem ggX5_letter_X5_addNode : GoodIn wsX5_letter wsX5_addNode := goodIn_r _ [5, 6, 7, 8, 9, 10, 11, 12, 13, 14, 15, 16, 17, 18, 19] (by decide +kernel) (by decide +kernel)
set_option maxRecDepth 20000 in
theorem gX5_letter_X5_addNode : GoodIn wsX5_letter (wsV RX5 39 RX5 yX5_addNode wsX5_addNode) := goodIn_app (goodIn_of _ (by decide +kernel)) ggX5_letter_X5_addNode
set_option maxRecDepth 20000 in
theorem ggX5_function_X5_addNode : GoodIn wsX5_function wsX5_addNode := goodIn_r _ [6, 7, 8, 9, 10, 11, 12, 13, 14, 15, 16, 17, 18, 19, 20] (by decide +kernel) (by decide +kernel)
set_option maxRecDepth 20000 in
theorem gX5_function_X5_addNode : GoodIn wsX5_function (wsV RX5 39 RX5 yX5_addNode wsX5_addNode) := goodIn_app (goodIn_of _ (by decide +kernel)) ggX5_function_X5_addNode
set_option maxRecDepth 20000 in
theorem ggX5_chosenPart_X5_chosen : GoodIn wsX5_chosenPart wsX5_chosen := goodIn_r _ [6, 7, 8, 9, 10, 11, 12, 13, 14, 15, 16, 17] (by decide +kernel) (by decide +kernel)
set_option maxRecDepth 20000 in
theorem gX5_chosenPart_X5_chosen : GoodIn wsX5_chosenPart (wsV RX5 43 RX5 yX5_chosen wsX5_chosen) := goodIn_app (goodIn_of _ (by decide +kernel)) ggX5_chosenPart_X5_chosen
set_option maxRecDepth 20000 in
theorem ggX5_makeSame_X5_addPair : GoodIn wsX5_makeSame wsX5_addPair := goodIn_r _ [7, 2, 1, 20, 21, 22, 23, 24, 25, 26, 27, 28] (by decide +kernel) (by decide +kernel)
set_option maxRecDepth 20000 in
theorem gX5_makeSame_X5_addPair : GoodIn wsX5_makeSame (wsV RX5 49 RX5 yX5_addPair wsX5_addPair) := goodIn_app (goodIn_of _ (by decide +kernel)) ggX5_makeSame_X5_addPair
set_option maxRecDepth 20000 in
theorem ggX5_makeSame_X5_chosen : GoodIn wsX5_makeSame wsX5_chosen := goodIn_r _ [11, 12, 13, 20, 21, 22, 23, 24, 25, 26, 27, 28] (by decide +kernel) (by decide +kernel)
set_option maxRecDepth 20000 in
theorem gX5_makeSame_X5_chosen : GoodIn wsX5_makeSame (wsV RX5 43 RX5 yX5_chosen wsX5_chosen) := goodIn_app (goodIn_of _ (by decide +kernel)) ggX5_makeSame_X5_chosen
set_option maxRecDepth 20000 in
theorem ggX5_makeSame_X5_join : GoodIn wsX5_makeSame wsX5_join := goodIn_r _ [17, 18, 13, 19, 3, 4, 5, 6, 7, 2, 1, 20, 21, 22, 23, 24, 25, 26, 27, 28] (by decide +kernel) (by decide +kernel)
set_option maxRecDepth 20000 in
theorem gX5_makeSame_X5_join : GoodIn wsX5_makeSame (wsV RX5 53 RX5 yX5_join wsX5_join) := goodIn_app (goodIn_of _ (by decide +kernel)) ggX5_makeSame_X5_join
set_option maxRecDepth 20000 in
theorem ggX5_noneContainsItself_X5_chosen : GoodIn wsX5_noneContainsItself wsX5_chosen := goodIn_r _ [8, 1, 9, 21, 22, 23, 24, 25, 26, 27, 28, 29] (by decide +kernel) (by decide +kernel)
set_option maxRecDepth 20000 in
theorem gX5_noneContainsItself_X5_chosen : GoodIn wsX5_noneContainsItself (wsV RX5 43 RX5 yX5_chosen wsX5_chosen) := goodIn_app (goodIn_of _ (by decide +kernel)) ggX5_noneContainsItself_X5_chosen
set_option maxRecDepth 20000 in
theorem ggX5_noneContainsItself_X5_endsEverywhere : GoodIn wsX5_noneContainsItself wsX5_endsEverywhere := goodIn_r _ [13, 14, 3, 15, 2, 16, 17, 18, 7, 19, 20, 4, 5, 6, 8, 1, 9, 21, 22, 23, 24, 25, 26, 27, 28, 29] (by decide +kernel) (by decide +kernel)
set_option maxRecDepth 20000 in
theorem gX5_noneContainsItself_X5_endsEverywhere : GoodIn wsX5_noneContainsItself (wsV RX5 57 RX5 yX5_endsEverywhere wsX5_endsEverywhere) := goodIn_app (goodIn_of _ (by decide +kernel)) ggX5_noneContainsItself_X5_endsEverywhere
set_option maxRecDepth 20000 in
theorem ggX5_join_X5_addPair : GoodIn wsX5_join wsX5_addPair := goodIn_r _ [8, 9, 10, 11, 12, 13, 14, 15, 16, 17, 18, 19] (by decide +kernel) (by decide +kernel)
set_option maxRecDepth 20000 in
theorem gX5_join_X5_addPair : GoodIn wsX5_join (wsV RX5 49 RX5 yX5_addPair wsX5_addPair) := goodIn_app (goodIn_of _ (by decide +kernel)) ggX5_join_X5_addPair
set_option maxRecDepth 20000 in
theorem ggX5_endsEverywhere_X5_chosenPart : GoodIn wsX5_endsEverywhere wsX5_chosenPart := goodIn_r _ [9, 10, 11, 12, 13, 8, 14, 15, 16, 17, 18, 19, 20, 21, 22, 23, 24, 25] (by decide +kernel) (by decide +kernel)
set_option maxRecDepth 20000 in
theorem gX5_endsEverywhere_X5_chosenPart : GoodIn wsX5_endsEverywhere (wsV RX5 61 RX5 yX5_chosenPart wsX5_chosenPart) := goodIn_app (goodIn_of _ (by decide +kernel)) ggX5_endsEverywhere_X5_chosenPart
set_option maxRecDepth 20000 in
theorem ggX9_init_X4_init : GoodIn wsX9_init wsX4_init := goodIn_r _ [21, 22, 2, 3, 23, 24, 25, 26, 27, 28, 29, 30, 95, 96, 97, 98, 99, 100, 101, 102] (by decide +kernel) (by decide +kernel)
set_option maxRecDepth 20000 in
theorem gX9_init_X4_init_n9 : GoodIn wsX9_init (wsX4_init) := ggX9_init_X4_init
set_option maxRecDepth 20000 in
theorem ggX9_init_X2_init : GoodIn wsX9_init wsX2_init := goodIn_r _ [33, 34, 2, 3, 35, 36, 37, 38, 39, 40, 41, 42, 43, 44, 45, 46, 23, 47, 48, 49, 50, 51, 52, 53, 54, 55, 56, 57, 58, 59, 60, 61, 62, 63, 64, 65, 66, 138, 139, 140, 141, 115, 116, 117, 118, 119, 120, 121, 122, 123, 124, 125, 126, 127, 142, 143, 144, 145, 146, 147, 148, 149] (by decide +kernel) (by decide +kernel)
set_option maxRecDepth 20000 in
theorem gX9_init_X2_init : GoodIn wsX9_init (wsX2_init) := ggX9_init_X2_init
set_option maxRecDepth 20000 in
theorem ggX9_init_X6_init : GoodIn wsX9_init wsX6_init := goodIn_r _ [69, 70, 2, 3, 71, 72, 73, 74, 23, 75, 76, 77, 78, 79, 80, 81, 82, 83, 84, 85, 86, 87, 150, 151, 152, 153, 154, 155, 156, 157, 158, 128, 129, 130, 131, 132] (by decide +kernel) (by decide +kernel)
set_option maxRecDepth 20000 in
theorem gX9_init_X6_init : GoodIn wsX9_init (wsX6_init) := ggX9_init_X6_init
set_option maxRecDepth 20000 in
theorem ggX9_init_X1_init : GoodIn wsX9_init wsX1_init := goodIn_r _ [89, 90, 2, 3, 23, 91, 92, 93, 94, 133, 134, 135, 136, 137] (by decide +kernel) (by decide +kernel)
set_option maxRecDepth 20000 in
theorem gX9_init_X1_init_n34 : GoodIn wsX9_init (wsX1_init) := ggX9_init_X1_init
set_option maxRecDepth 20000 in
theorem ggX9_make_X4_wordsFit : GoodIn wsX9_make wsX4_wordsFit := goodIn_r _ [10, 11, 12, 13, 14, 9, 15, 16, 61, 62, 63, 64, 65, 66, 67, 68] (by decide +kernel) (by decide +kernel)
set_option maxRecDepth 20000 in
theorem gX9_make_X4_wordsFit : GoodIn wsX9_make (wsV RX9 39 RX4 yX4_wordsFit wsX4_wordsFit) := goodIn_app (goodIn_of _ (by decide +kernel)) ggX9_make_X4_wordsFit
set_option maxRecDepth 20000 in
theorem ggX9_make_X4_hasRoomFor : GoodIn wsX9_make wsX4_hasRoomFor := goodIn_r _ [20, 11, 16, 21, 22, 23, 9, 24, 25, 26, 27, 28, 29, 30, 31, 32, 33, 34, 61, 62, 63, 64, 65, 66, 67, 68] (by decide +kernel) (by decide +kernel)
set_option maxRecDepth 20000 in
theorem gX9_make_X4_hasRoomFor : GoodIn wsX9_make (wsV RX9 46 RX4 yX4_hasRoomFor wsX4_hasRoomFor) := goodIn_app (goodIn_of _ (by decide +kernel)) ggX9_make_X4_hasRoomFor
set_option maxRecDepth 20000 in
theorem ggX9_make_X4_add : GoodIn wsX9_make wsX4_add := goodIn_r _ [38, 11, 16, 39, 40, 41, 42, 25, 34, 43, 21, 22, 23, 9, 24, 26, 27, 28, 29, 30, 31, 32, 33, 44, 45, 46, 47, 48, 61, 62, 63, 64, 65, 66, 67, 68] (by decide +kernel) (by decide +kernel)
set_option maxRecDepth 20000 in
theorem gX9_make_X4_add : GoodIn wsX9_make (wsV RX9 52 RX4 yX4_add wsX4_add) := goodIn_app (goodIn_of _ (by decide +kernel)) ggX9_make_X4_add
set_option maxRecDepth 20000 in
theorem ggX9_open_X4_has : GoodIn wsX9_open wsX4_has := goodIn_r _ [9, 10, 23, 24, 25, 26, 27, 28, 29, 30] (by decide +kernel) (by decide +kernel)
set_option maxRecDepth 20000 in
theorem gX9_open_X4_has : GoodIn wsX9_open (wsV RX9 56 RX4 yX4_has wsX4_has) := goodIn_app (goodIn_of _ (by decide +kernel)) ggX9_open_X4_has
set_option maxRecDepth 20000 in
theorem ggX9_work_X4_hasClosed : GoodIn wsX9_work wsX4_hasClosed := goodIn_r _ [17, 18, 19, 20, 21, 16, 22, 23, 167, 168, 169, 170, 171, 172, 173, 174] (by decide +kernel) (by decide +kernel)
set_option maxRecDepth 20000 in
theorem gX9_work_X4_hasClosed : GoodIn wsX9_work (wsV RX9 67 RX4 yX4_hasClosed wsX4_hasClosed) := goodIn_app (goodIn_of _ (by decide +kernel)) ggX9_work_X4_hasClosed
set_option maxRecDepth 20000 in
theorem ggX9_work_X2_workOut : GoodIn wsX9_work wsX2_workOut := goodIn_r _ [28, 29, 30, 31, 32, 33, 34, 35, 36, 37, 38, 39, 40, 41, 42, 43, 44, 45, 46, 47, 48, 49, 50, 51, 52, 53, 54, 55, 56, 57, 27, 58, 59, 60, 61, 62, 63, 64, 65, 66, 67, 68, 69, 70, 71, 72, 73, 74, 75, 76, 77, 78, 79, 80, 81, 82, 83, 84, 85, 86, 87, 88, 89, 90, 91, 92, 93, 94, 95, 96, 97, 98, 99, 100, 101, 102, 103, 104, 105, 106, 107, 108, 109, 110, 111, 112, 113, 114, 115, 116, 117, 118, 119, 120, 121, 122, 123, 124, 125, 126, 127, 128, 129, 130, 131, 175, 176, 177, 178, 179, 180, 181, 182, 183, 184, 185, 186, 187, 188, 189, 190, 191, 192, 193, 194, 195, 196, 197, 198, 199, 167, 168, 169, 170, 171, 172, 173, 174] (by decide +kernel) (by decide +kernel)
set_option maxRecDepth 20000 in
theorem gX9_work_X2_workOut : GoodIn wsX9_work (wsV RX9 73 RX2 yX2_workOut wsX2_workOut) := goodIn_app (goodIn_of _ (by decide +kernel)) ggX9_work_X2_workOut
set_option maxRecDepth 20000 in
theorem ggX9_work_X9_keepValue : GoodIn wsX9_work wsX9_keepValue := goodIn_r _ [136, 10, 137, 138, 139, 140, 141, 142, 143, 144, 27, 145, 29, 121, 61, 146, 147, 148, 149, 120, 150, 151, 152, 153, 154, 155, 156, 157, 158, 159, 160, 161, 162, 163, 164, 165, 166, 175, 176, 177, 178, 179, 180, 181, 182, 183, 184, 185, 186, 187, 188, 189, 190, 191] (by decide +kernel) (by decide +kernel)
set_option maxRecDepth 20000 in
theorem gX9_work_X9_keepValue : GoodIn wsX9_work (wsV RX9 84 RX9 yX9_keepValue wsX9_keepValue) := goodIn_app (goodIn_of _ (by decide +kernel)) ggX9_work_X9_keepValue
set_option maxRecDepth 20000 in
theorem ggX9_type_X4_hasClosed : GoodIn wsX9_type wsX4_hasClosed := goodIn_r _ [15, 16, 17, 18, 19, 14, 20, 21, 172, 173, 174, 175, 176, 177, 178, 179] (by decide +kernel) (by decide +kernel)
set_option maxRecDepth 20000 in
theorem gX9_type_X4_hasClosed : GoodIn wsX9_type (wsV RX9 67 RX4 yX4_hasClosed wsX4_hasClosed) := goodIn_app (goodIn_of _ (by decide +kernel)) ggX9_type_X4_hasClosed
set_option maxRecDepth 20000 in
theorem ggX9_type_X6_typeOfWhole : GoodIn wsX9_type wsX6_typeOfWhole := goodIn_r _ [26, 27, 28, 29, 30, 31, 32, 33, 34, 35, 36, 37, 38, 39, 40, 41, 42, 43, 44, 45, 46, 47, 48, 49, 25, 50, 51, 52, 53, 54, 55, 56, 57, 58, 59, 60, 61, 62, 63, 64, 65, 66, 67, 68, 69, 70, 71, 72, 73, 74, 75, 76, 77, 78, 79, 80, 81, 82, 83, 84, 85, 86, 87, 88, 89, 90, 91, 92, 93, 94, 95, 96, 97, 98, 99, 100, 101, 102, 103, 104, 105, 106, 107, 108, 109, 110, 111, 112, 113, 114, 115, 116, 117, 118, 119, 120, 121, 122, 123, 124, 125, 126, 127, 128, 129, 167, 168, 169, 170, 171, 180, 181, 182, 183, 184, 185, 186, 187, 188, 172, 173, 174, 175, 176, 177, 178, 179] (by decide +kernel) (by decide +kernel)
set_option maxRecDepth 20000 in
theorem gX9_type_X6_typeOfWhole : GoodIn wsX9_type (wsV RX9 94 RX6 yX6_typeOfWhole wsX6_typeOfWhole) := goodIn_app (goodIn_of _ (by decide +kernel)) ggX9_type_X6_typeOfWhole
set_option maxRecDepth 20000 in
theorem ggX9_type_X1_keep : GoodIn wsX9_type wsX1_keep := goodIn_r _ [134, 135, 136, 137, 138, 139, 65, 66, 32, 67, 34, 40, 140, 141, 142, 143, 144, 145, 146, 133, 147, 148, 149, 150, 127, 128, 129, 72, 64, 189, 190, 191, 192, 193, 180, 181, 182, 183, 184, 185, 186, 187, 188] (by decide +kernel) (by decide +kernel)
set_option maxRecDepth 20000 in
theorem gX9_type_X1_keep : GoodIn wsX9_type (wsV RX9 108 RX1 yX1_keep wsX1_keep) := goodIn_app (goodIn_of _ (by decide +kernel)) ggX9_type_X1_keep
set_option maxRecDepth 20000 in
theorem ggX9_type_X1_at : GoodIn wsX9_type wsX1_at := goodIn_r _ [154, 135, 137, 149, 189, 190, 191, 192, 193] (by decide +kernel) (by decide +kernel)
set_option maxRecDepth 20000 in
theorem gX9_type_X1_at : GoodIn wsX9_type (wsV RX9 112 RX1 yX1_at wsX1_at) := goodIn_app (goodIn_of _ (by decide +kernel)) ggX9_type_X1_at
set_option maxRecDepth 20000 in
theorem ggX9_part_X1_at : GoodIn wsX9_part wsX1_at := goodIn_r _ [6, 7, 8, 9, 22, 23, 24, 25, 26] (by decide +kernel) (by decide +kernel)
set_option maxRecDepth 20000 in
theorem gX9_part_X1_at : GoodIn wsX9_part (wsV RX9 112 RX1 yX1_at wsX1_at) := goodIn_app (goodIn_of _ (by decide +kernel)) ggX9_part_X1_at
set_option maxRecDepth 20000 in
theorem ggX9_keepValue_X2_plainResult : GoodIn wsX9_keepValue wsX2_plainResult := goodIn_r _ [11, 12, 13, 14, 15, 16, 17, 10, 18, 19, 20, 21, 22, 23, 37, 38, 39, 40, 41, 42, 43, 44, 45, 46, 47, 48, 49, 50, 51, 52, 53] (by decide +kernel) (by decide +kernel)
set_option maxRecDepth 20000 in
theorem gX9_keepValue_X2_plainResult : GoodIn wsX9_keepValue (wsV RX9 125 RX2 yX2_plainResult wsX2_plainResult) := goodIn_app (goodIn_of _ (by decide +kernel)) ggX9_keepValue_X2_plainResult
set_option maxRecDepth 20000 in
theorem ggX9_keepValue_X2_resultForm : GoodIn wsX9_keepValue wsX2_resultForm := goodIn_r _ [18, 12, 19, 14, 20, 21, 22, 23, 37, 38, 39, 40, 41, 42, 43, 44, 45, 46, 47, 48, 49, 50, 51, 52, 53] (by decide +kernel) (by decide +kernel)
set_option maxRecDepth 20000 in
theorem gX9_keepValue_X2_resultForm : GoodIn wsX9_keepValue (wsV RX9 131 RX2 yX2_resultForm wsX2_resultForm) := goodIn_app (goodIn_of _ (by decide +kernel)) ggX9_keepValue_X2_resultForm
end
section
set_option maxRecDepth 20000 in
theorem ggX6_init_X5_init : GoodIn wsX6_init wsX5_init := goodIn_r _ [13, 14, 2, 3, 8, 15, 16, 17, 18, 19, 20, 21, 22, 23, 24, 25, 26, 27, 28, 29, 30] (by decide +kernel) (by decide +kernel)
set_option maxRecDepth 20000 in
theorem gX6_init_X5_init_n13 : GoodIn wsX6_init (wsX5_init) := ggX6_init_X5_init
set_option maxRecDepth 20000 in
theorem ggX6_typeOfWhole_X5_clear : GoodIn wsX6_typeOfWhole wsX5_clear := goodIn_r _ [7, 8, 9, 10, 11, 6, 12, 13, 14, 15, 16, 110, 111, 112, 113, 114, 115, 116, 117, 118] (by decide +kernel) (by decide +kernel)
set_option maxRecDepth 20000 in
theorem gX6_typeOfWhole_X5_clear : GoodIn wsX6_typeOfWhole (wsV RX6 31 RX5 yX5_clear wsX5_clear) := goodIn_app (goodIn_of _ (by decide +kernel)) ggX6_typeOfWhole_X5_clear
set_option maxRecDepth 20000 in
theorem ggX6_typeOfWhole_X5_letter : GoodIn wsX6_typeOfWhole wsX5_letter := goodIn_r _ [20, 9, 10, 11, 6, 12, 13, 8, 14, 15, 16, 110, 111, 112, 113, 114, 115, 116, 117, 118] (by decide +kernel) (by decide +kernel)
set_option maxRecDepth 20000 in
theorem gX6_typeOfWhole_X5_letter : GoodIn wsX6_typeOfWhole (wsV RX6 38 RX5 yX5_letter wsX5_letter) := goodIn_app (goodIn_of _ (by decide +kernel)) ggX6_typeOfWhole_X5_letter
set_option maxRecDepth 20000 in
theorem ggX6_typeOfWhole_X6_holds : GoodIn wsX6_typeOfWhole wsX6_holds := goodIn_r _ [25, 26, 27, 28, 1, 29, 30, 31, 6, 32, 33, 34, 35, 36, 37, 38, 39, 40, 41, 42, 8, 14, 43, 44, 45, 46, 13, 47, 48, 49, 50, 24, 51, 2, 52, 53, 17, 18, 19, 20, 9, 10, 11, 12, 15, 16, 54, 55, 56, 57, 58, 59, 60, 61, 62, 63, 64, 65, 66, 67, 68, 69, 70, 71, 72, 73, 74, 75, 76, 77, 78, 79, 80, 21, 22, 23, 81, 82, 83, 84, 85, 86, 87, 88, 89, 90, 91, 105, 106, 107, 108, 109, 119, 120, 121, 122, 123, 124, 125, 126, 110, 111, 112, 113, 114, 115, 116, 117, 118] (by decide +kernel) (by decide +kernel)
set_option maxRecDepth 20000 in
theorem gX6_typeOfWhole_X6_holds : GoodIn wsX6_typeOfWhole (wsV RX6 42 RX6 yX6_holds wsX6_holds) := goodIn_app (goodIn_of _ (by decide +kernel)) ggX6_typeOfWhole_X6_holds
set_option maxRecDepth 20000 in
theorem ggX6_typeOfWhole_X5_noneContainsItself : GoodIn wsX6_typeOfWhole wsX5_noneContainsItself := goodIn_r _ [95, 8, 13, 15, 39, 40, 41, 6, 42, 14, 96, 97, 98, 99, 100, 16, 101, 102, 103, 104, 47, 110, 111, 112, 113, 114, 115, 116, 117, 118] (by decide +kernel) (by decide +kernel)
set_option maxRecDepth 20000 in
theorem gX6_typeOfWhole_X5_noneContainsItself : GoodIn wsX6_typeOfWhole (wsV RX6 46 RX5 yX5_noneContainsItself wsX5_noneContainsItself) := goodIn_app (goodIn_of _ (by decide +kernel)) ggX6_typeOfWhole_X5_noneContainsItself
set_option maxRecDepth 20000 in
theorem ggX6_holds_X5_makeSame : GoodIn wsX6_holds wsX5_makeSame := goodIn_r _ [9, 10, 11, 12, 13, 14, 8, 15, 16, 17, 18, 19, 20, 21, 22, 23, 24, 25, 26, 27, 100, 101, 102, 103, 104, 105, 106, 107, 108] (by decide +kernel) (by decide +kernel)
set_option maxRecDepth 20000 in
theorem gX6_holds_X5_makeSame : GoodIn wsX6_holds (wsV RX6 56 RX5 yX5_makeSame wsX5_makeSame) := goodIn_app (goodIn_of _ (by decide +kernel)) ggX6_holds_X5_makeSame
set_option maxRecDepth 20000 in
theorem ggX6_holds_X6_typeOfVariable : GoodIn wsX6_holds wsX6_typeOfVariable := goodIn_r _ [32, 33, 4, 34, 35, 36, 37, 38, 8, 39, 40, 41, 42, 43, 26, 20, 21, 44, 45, 46, 47, 48, 49, 27, 87, 88, 89, 90, 91, 100, 101, 102, 103, 104, 105, 106, 107, 108] (by decide +kernel) (by decide +kernel)
set_option maxRecDepth 20000 in
theorem gX6_holds_X6_typeOfVariable : GoodIn wsX6_holds (wsV RX6 60 RX6 yX6_typeOfVariable wsX6_typeOfVariable) := goodIn_app (goodIn_of _ (by decide +kernel)) ggX6_holds_X6_typeOfVariable
set_option maxRecDepth 20000 in
theorem ggX6_holds_X6_functionHolds : GoodIn wsX6_holds wsX6_functionHolds := goodIn_r _ [76, 4, 33, 1, 3, 2, 36, 37, 38, 8, 39, 40, 41, 42, 43, 26, 20, 21, 44, 45, 46, 47, 48, 49, 27, 77, 78, 79, 31, 80, 35, 34, 73, 74, 75, 5, 6, 7, 9, 10, 11, 12, 13, 14, 15, 16, 17, 18, 19, 22, 23, 24, 25, 71, 72, 0, 28, 29, 30, 32, 50, 51, 52, 53, 54, 55, 56, 57, 58, 59, 60, 61, 62, 63, 64, 65, 66, 67, 68, 69, 70, 81, 82, 83, 84, 85, 86, 87, 88, 89, 90, 91, 92, 93, 94, 95, 96, 97, 98, 99, 100, 101, 102, 103, 104, 105, 106, 107, 108] (by decide +kernel) (by decide +kernel)
set_option maxRecDepth 20000 in
theorem gX6_holds_X6_functionHolds : GoodIn wsX6_holds (wsV RX6 64 RX6 yX6_functionHolds wsX6_functionHolds) := goodIn_app (goodIn_of _ (by decide +kernel)) ggX6_holds_X6_functionHolds
set_option maxRecDepth 20000 in
theorem ggX6_holds_X6_callHolds : GoodIn wsX6_holds wsX6_callHolds := goodIn_r _ [71, 4, 1, 2, 72, 36, 37, 38, 8, 39, 40, 41, 42, 43, 26, 20, 21, 44, 45, 46, 47, 48, 49, 27, 73, 74, 75, 31, 76, 33, 3, 77, 78, 79, 80, 35, 34, 5, 6, 7, 9, 10, 11, 12, 13, 14, 15, 16, 17, 18, 19, 22, 23, 24, 25, 0, 28, 29, 30, 32, 50, 51, 52, 53, 54, 55, 56, 57, 58, 59, 60, 61, 62, 63, 64, 65, 66, 67, 68, 69, 70, 81, 82, 83, 84, 85, 86, 87, 88, 89, 90, 91, 92, 93, 94, 95, 96, 97, 98, 99, 100, 101, 102, 103, 104, 105, 106, 107, 108] (by decide +kernel) (by decide +kernel)
set_option maxRecDepth 20000 in
theorem gX6_holds_X6_callHolds : GoodIn wsX6_holds (wsV RX6 68 RX6 yX6_callHolds wsX6_callHolds) := goodIn_app (goodIn_of _ (by decide +kernel)) ggX6_holds_X6_callHolds
set_option maxRecDepth 20000 in
theorem ggX6_holds_X6_numbersHold : GoodIn wsX6_holds wsX6_numbersHold := goodIn_r _ [84, 4, 1, 2, 72, 36, 37, 38, 8, 39, 40, 41, 42, 43, 26, 20, 21, 44, 45, 73, 74, 75, 31, 71, 46, 47, 48, 49, 27, 76, 33, 3, 77, 78, 79, 80, 35, 34, 5, 6, 7, 9, 10, 11, 12, 13, 14, 15, 16, 17, 18, 19, 22, 23, 24, 25, 0, 28, 29, 30, 32, 50, 51, 52, 53, 54, 55, 56, 57, 58, 59, 60, 61, 62, 63, 64, 65, 66, 67, 68, 69, 70, 81, 82, 83, 85, 86, 87, 88, 89, 90, 91, 92, 93, 94, 95, 96, 97, 98, 99, 100, 101, 102, 103, 104, 105, 106, 107, 108] (by decide +kernel) (by decide +kernel)
set_option maxRecDepth 20000 in
theorem gX6_holds_X6_numbersHold : GoodIn wsX6_holds (wsV RX6 71 RX6 yX6_numbersHold wsX6_numbersHold) := goodIn_app (goodIn_of _ (by decide +kernel)) ggX6_holds_X6_numbersHold
set_option maxRecDepth 20000 in
theorem ggX6_holds_X6_ifHolds : GoodIn wsX6_holds wsX6_ifHolds := goodIn_r _ [81, 4, 1, 2, 72, 82, 36, 37, 38, 8, 39, 40, 41, 42, 43, 26, 20, 21, 44, 45, 73, 74, 75, 31, 71, 46, 47, 48, 49, 27, 76, 33, 3, 77, 78, 79, 80, 35, 34, 5, 6, 7, 9, 10, 11, 12, 13, 14, 15, 16, 17, 18, 19, 22, 23, 24, 25, 0, 28, 29, 30, 32, 50, 51, 52, 53, 54, 55, 56, 57, 58, 59, 60, 61, 62, 63, 64, 65, 66, 67, 68, 69, 70, 83, 84, 85, 86, 87, 88, 89, 90, 91, 92, 93, 94, 95, 96, 97, 98, 99, 100, 101, 102, 103, 104, 105, 106, 107, 108] (by decide +kernel) (by decide +kernel)
set_option maxRecDepth 20000 in
theorem gX6_holds_X6_ifHolds : GoodIn wsX6_holds (wsV RX6 75 RX6 yX6_ifHolds wsX6_ifHolds) := goodIn_app (goodIn_of _ (by decide +kernel)) ggX6_holds_X6_ifHolds
set_option maxRecDepth 20000 in
theorem ggX6_holds_X6_letHolds : GoodIn wsX6_holds wsX6_letHolds := goodIn_r _ [83, 4, 1, 2, 72, 33, 36, 37, 38, 8, 39, 40, 41, 42, 43, 26, 20, 21, 44, 45, 73, 74, 75, 31, 77, 78, 79, 80, 35, 34, 71, 46, 47, 48, 49, 27, 76, 3, 5, 6, 7, 9, 10, 11, 12, 13, 14, 15, 16, 17, 18, 19, 22, 23, 24, 25, 0, 28, 29, 30, 32, 50, 51, 52, 53, 54, 55, 56, 57, 58, 59, 60, 61, 62, 63, 64, 65, 66, 67, 68, 69, 70, 81, 82, 84, 85, 86, 87, 88, 89, 90, 91, 92, 93, 94, 95, 96, 97, 98, 99, 100, 101, 102, 103, 104, 105, 106, 107, 108] (by decide +kernel) (by decide +kernel)
end
section
set_option maxRecDepth 20000 in
theorem gX6_holds_X6_letHolds : GoodIn wsX6_holds (wsV RX6 78 RX6 yX6_letHolds wsX6_letHolds) := goodIn_app (goodIn_of _ (by decide +kernel)) ggX6_holds_X6_letHolds
set_option maxRecDepth 20000 in
theorem ggX6_holds_X6_wholeHolds : GoodIn wsX6_holds wsX6_wholeHolds := goodIn_r _ [86, 4, 36, 37, 38, 8, 39, 40, 41, 42, 43, 26, 20, 21, 44, 45, 73, 74, 75, 31, 71, 1, 2, 72, 46, 47, 48, 49, 27, 76, 33, 3, 77, 78, 79, 80, 35, 34, 5, 6, 7, 9, 10, 11, 12, 13, 14, 15, 16, 17, 18, 19, 22, 23, 24, 25, 0, 28, 29, 30, 32, 50, 51, 52, 53, 54, 55, 56, 57, 58, 59, 60, 61, 62, 63, 64, 65, 66, 67, 68, 69, 70, 81, 82, 83, 84, 85, 87, 88, 89, 90, 91, 92, 93, 94, 95, 96, 97, 98, 99, 100, 101, 102, 103, 104, 105, 106, 107, 108] (by decide +kernel) (by decide +kernel)
set_option maxRecDepth 20000 in
theorem gX6_holds_X6_wholeHolds : GoodIn wsX6_holds (wsV RX6 81 RX6 yX6_wholeHolds wsX6_wholeHolds) := goodIn_app (goodIn_of _ (by decide +kernel)) ggX6_holds_X6_wholeHolds
set_option maxRecDepth 20000 in
theorem ggX6_holds_X6_takeHolds : GoodIn wsX6_holds wsX6_takeHolds := goodIn_r _ [85, 33, 77, 78, 79, 31, 80, 35, 34, 65, 66, 67, 71, 4, 1, 2, 72, 36, 37, 38, 8, 39, 40, 41, 42, 43, 26, 20, 21, 44, 45, 46, 47, 48, 49, 27, 73, 74, 75, 76, 3, 5, 6, 7, 9, 10, 11, 12, 13, 14, 15, 16, 17, 18, 19, 22, 23, 24, 25, 0, 28, 29, 30, 32, 50, 51, 52, 53, 54, 55, 56, 57, 58, 59, 60, 61, 62, 63, 64, 68, 69, 70, 81, 82, 83, 84, 86, 87, 88, 89, 90, 91, 92, 93, 94, 95, 96, 97, 98, 99, 100, 101, 102, 103, 104, 105, 106, 107, 108] (by decide +kernel) (by decide +kernel)
set_option maxRecDepth 20000 in
theorem gX6_holds_X6_takeHolds : GoodIn wsX6_holds (wsV RX6 84 RX6 yX6_takeHolds wsX6_takeHolds) := goodIn_app (goodIn_of _ (by decide +kernel)) ggX6_holds_X6_takeHolds
set_option maxRecDepth 20000 in
theorem ggX6_typeOfVariable_X5_letter : GoodIn wsX6_typeOfVariable wsX5_letter := goodIn_r _ [9, 10, 11, 12, 8, 13, 14, 15, 16, 17, 18, 29, 30, 31, 32, 33, 34, 35, 36, 37] (by decide +kernel) (by decide +kernel)
set_option maxRecDepth 20000 in
theorem gX6_typeOfVariable_X5_letter : GoodIn wsX6_typeOfVariable (wsV RX6 38 RX5 yX5_letter wsX5_letter) := goodIn_app (goodIn_of _ (by decide +kernel)) ggX6_typeOfVariable_X5_letter
set_option maxRecDepth 20000 in
theorem ggX6_typeOfVariable_X5_function : GoodIn wsX6_typeOfVariable wsX5_function := goodIn_r _ [22, 23, 10, 11, 12, 8, 13, 14, 15, 16, 17, 18, 29, 30, 31, 32, 33, 34, 35, 36, 37] (by decide +kernel) (by decide +kernel)
set_option maxRecDepth 20000 in
theorem gX6_typeOfVariable_X5_function : GoodIn wsX6_typeOfVariable (wsV RX6 87 RX5 yX5_function wsX5_function) := goodIn_app (goodIn_of _ (by decide +kernel)) ggX6_typeOfVariable_X5_function
set_option maxRecDepth 20000 in
theorem ggX6_functionHolds_X5_letter : GoodIn wsX6_functionHolds wsX5_letter := goodIn_r _ [10, 11, 12, 13, 9, 14, 15, 16, 17, 18, 19, 100, 101, 102, 103, 104, 105, 106, 107, 108] (by decide +kernel) (by decide +kernel)
set_option maxRecDepth 20000 in
theorem gX6_functionHolds_X5_letter : GoodIn wsX6_functionHolds (wsV RX6 38 RX5 yX5_letter wsX5_letter) := goodIn_app (goodIn_of _ (by decide +kernel)) ggX6_functionHolds_X5_letter
set_option maxRecDepth 20000 in
theorem ggX6_functionHolds_X5_function : GoodIn wsX6_functionHolds wsX5_function := goodIn_r _ [23, 24, 11, 12, 13, 9, 14, 15, 16, 17, 18, 19, 100, 101, 102, 103, 104, 105, 106, 107, 108] (by decide +kernel) (by decide +kernel)
set_option maxRecDepth 20000 in
theorem gX6_functionHolds_X5_function : GoodIn wsX6_functionHolds (wsV RX6 87 RX5 yX5_function wsX5_function) := goodIn_app (goodIn_of _ (by decide +kernel)) ggX6_functionHolds_X5_function
set_option maxRecDepth 20000 in
theorem ggX6_functionHolds_X6_bind : GoodIn wsX6_functionHolds wsX6_bind := goodIn_r _ [29, 30, 2, 31, 87, 88, 89, 90, 91] (by decide +kernel) (by decide +kernel)
set_option maxRecDepth 20000 in
theorem gX6_functionHolds_X6_bind : GoodIn wsX6_functionHolds (wsV RX6 93 RX6 yX6_bind wsX6_bind) := goodIn_app (goodIn_of _ (by decide +kernel)) ggX6_functionHolds_X6_bind
set_option maxRecDepth 20000 in
theorem ggX6_functionHolds_X6_holds : GoodIn wsX6_functionHolds wsX6_holds := goodIn_r _ [55, 3, 5, 4, 1, 35, 36, 37, 9, 38, 39, 40, 41, 42, 43, 44, 45, 46, 47, 48, 16, 17, 49, 50, 51, 52, 15, 24, 56, 57, 58, 28, 59, 2, 31, 30, 6, 7, 8, 10, 11, 12, 13, 14, 18, 19, 20, 21, 22, 23, 60, 61, 62, 63, 64, 65, 66, 67, 68, 69, 70, 71, 72, 73, 74, 75, 76, 77, 78, 79, 80, 53, 54, 32, 33, 34, 0, 25, 26, 27, 29, 81, 82, 83, 84, 85, 86, 87, 88, 89, 90, 91, 92, 93, 94, 95, 96, 97, 98, 99, 100, 101, 102, 103, 104, 105, 106, 107, 108] (by decide +kernel) (by decide +kernel)
set_option maxRecDepth 20000 in
theorem gX6_functionHolds_X6_holds : GoodIn wsX6_functionHolds (wsV RX6 42 RX6 yX6_holds wsX6_holds) := goodIn_app (goodIn_of _ (by decide +kernel)) ggX6_functionHolds_X6_holds
set_option maxRecDepth 20000 in
theorem ggX6_functionHolds_X5_makeSame : GoodIn wsX6_functionHolds wsX5_makeSame := goodIn_r _ [38, 39, 40, 41, 42, 43, 9, 44, 45, 46, 47, 48, 16, 17, 49, 50, 51, 52, 15, 24, 100, 101, 102, 103, 104, 105, 106, 107, 108] (by decide +kernel) (by decide +kernel)
set_option maxRecDepth 20000 in
theorem gX6_functionHolds_X5_makeSame : GoodIn wsX6_functionHolds (wsV RX6 56 RX5 yX5_makeSame wsX5_makeSame) := goodIn_app (goodIn_of _ (by decide +kernel)) ggX6_functionHolds_X5_makeSame
set_option maxRecDepth 20000 in
theorem ggX6_callHolds_X5_letter : GoodIn wsX6_callHolds wsX5_letter := goodIn_r _ [9, 10, 11, 12, 8, 13, 14, 15, 16, 17, 18, 100, 101, 102, 103, 104, 105, 106, 107, 108] (by decide +kernel) (by decide +kernel)
set_option maxRecDepth 20000 in
theorem gX6_callHolds_X5_letter : GoodIn wsX6_callHolds (wsV RX6 38 RX5 yX5_letter wsX5_letter) := goodIn_app (goodIn_of _ (by decide +kernel)) ggX6_callHolds_X5_letter
set_option maxRecDepth 20000 in
theorem ggX6_callHolds_X5_function : GoodIn wsX6_callHolds wsX5_function := goodIn_r _ [22, 23, 10, 11, 12, 8, 13, 14, 15, 16, 17, 18, 100, 101, 102, 103, 104, 105, 106, 107, 108] (by decide +kernel) (by decide +kernel)
set_option maxRecDepth 20000 in
theorem gX6_callHolds_X5_function : GoodIn wsX6_callHolds (wsV RX6 87 RX5 yX5_function wsX5_function) := goodIn_app (goodIn_of _ (by decide +kernel)) ggX6_callHolds_X5_function
end
section
set_option maxRecDepth 20000 in
theorem ggX6_callHolds_X6_holds : GoodIn wsX6_callHolds wsX6_holds := goodIn_r _ [55, 2, 3, 30, 1, 37, 38, 39, 8, 40, 41, 42, 43, 44, 45, 46, 47, 48, 49, 50, 15, 16, 51, 52, 53, 54, 14, 23, 56, 57, 58, 27, 59, 29, 36, 35, 5, 6, 7, 9, 10, 11, 12, 13, 17, 18, 19, 20, 21, 22, 60, 61, 62, 63, 64, 65, 66, 67, 68, 69, 70, 71, 72, 73, 74, 75, 76, 77, 78, 79, 80, 0, 4, 24, 25, 26, 28, 31, 32, 33, 34, 81, 82, 83, 84, 85, 86, 87, 88, 89, 90, 91, 92, 93, 94, 95, 96, 97, 98, 99, 100, 101, 102, 103, 104, 105, 106, 107, 108] (by decide +kernel) (by decide +kernel)
set_option maxRecDepth 20000 in
theorem gX6_callHolds_X6_holds : GoodIn wsX6_callHolds (wsV RX6 42 RX6 yX6_holds wsX6_holds) := goodIn_app (goodIn_of _ (by decide +kernel)) ggX6_callHolds_X6_holds
set_option maxRecDepth 20000 in
theorem ggX6_numbersHold_X5_letter : GoodIn wsX6_numbersHold wsX5_letter := goodIn_r _ [9, 10, 11, 12, 8, 13, 14, 15, 16, 17, 18, 100, 101, 102, 103, 104, 105, 106, 107, 108] (by decide +kernel) (by decide +kernel)
set_option maxRecDepth 20000 in
theorem gX6_numbersHold_X5_letter : GoodIn wsX6_numbersHold (wsV RX6 38 RX5 yX5_letter wsX5_letter) := goodIn_app (goodIn_of _ (by decide +kernel)) ggX6_numbersHold_X5_letter
set_option maxRecDepth 20000 in
theorem ggX6_numbersHold_X6_holds : GoodIn wsX6_numbersHold wsX6_holds := goodIn_r _ [56, 2, 3, 31, 1, 38, 39, 40, 8, 41, 42, 43, 44, 45, 46, 47, 48, 49, 50, 51, 15, 16, 52, 53, 54, 55, 14, 28, 57, 58, 59, 22, 60, 30, 37, 36, 5, 6, 7, 9, 10, 11, 12, 13, 17, 18, 24, 25, 26, 27, 61, 62, 63, 64, 65, 66, 67, 68, 69, 70, 71, 72, 73, 74, 75, 76, 77, 78, 79, 80, 81, 23, 4, 19, 20, 21, 29, 32, 33, 34, 35, 82, 83, 84, 0, 85, 86, 87, 88, 89, 90, 91, 92, 93, 94, 95, 96, 97, 98, 99, 100, 101, 102, 103, 104, 105, 106, 107, 108] (by decide +kernel) (by decide +kernel)
set_option maxRecDepth 20000 in
theorem gX6_numbersHold_X6_holds : GoodIn wsX6_numbersHold (wsV RX6 42 RX6 yX6_holds wsX6_holds) := goodIn_app (goodIn_of _ (by decide +kernel)) ggX6_numbersHold_X6_holds
set_option maxRecDepth 20000 in
theorem ggX6_ifHolds_X5_letter : GoodIn wsX6_ifHolds wsX5_letter := goodIn_r _ [10, 11, 12, 13, 9, 14, 15, 16, 17, 18, 19, 100, 101, 102, 103, 104, 105, 106, 107, 108] (by decide +kernel) (by decide +kernel)
set_option maxRecDepth 20000 in
theorem gX6_ifHolds_X5_letter : GoodIn wsX6_ifHolds (wsV RX6 38 RX5 yX5_letter wsX5_letter) := goodIn_app (goodIn_of _ (by decide +kernel)) ggX6_ifHolds_X5_letter
set_option maxRecDepth 20000 in
theorem ggX6_ifHolds_X6_holds : GoodIn wsX6_ifHolds wsX6_holds := goodIn_r _ [57, 2, 3, 32, 1, 39, 40, 41, 9, 42, 43, 44, 45, 46, 47, 48, 49, 50, 51, 52, 16, 17, 53, 54, 55, 56, 15, 29, 58, 59, 60, 23, 61, 31, 38, 37, 6, 7, 8, 10, 11, 12, 13, 14, 18, 19, 25, 26, 27, 28, 62, 63, 64, 65, 66, 67, 68, 69, 70, 71, 72, 73, 74, 75, 76, 77, 78, 79, 80, 81, 82, 24, 4, 20, 21, 22, 30, 33, 34, 35, 36, 0, 5, 83, 84, 85, 86, 87, 88, 89, 90, 91, 92, 93, 94, 95, 96, 97, 98, 99, 100, 101, 102, 103, 104, 105, 106, 107, 108] (by decide +kernel) (by decide +kernel)
set_option maxRecDepth 20000 in
theorem gX6_ifHolds_X6_holds : GoodIn wsX6_ifHolds (wsV RX6 42 RX6 yX6_holds wsX6_holds) := goodIn_app (goodIn_of _ (by decide +kernel)) ggX6_ifHolds_X6_holds
set_option maxRecDepth 20000 in
theorem ggX6_letHolds_X5_letter : GoodIn wsX6_letHolds wsX5_letter := goodIn_r _ [10, 11, 12, 13, 9, 14, 15, 16, 17, 18, 19, 100, 101, 102, 103, 104, 105, 106, 107, 108] (by decide +kernel) (by decide +kernel)
set_option maxRecDepth 20000 in
theorem gX6_letHolds_X5_letter : GoodIn wsX6_letHolds (wsV RX6 38 RX5 yX5_letter wsX5_letter) := goodIn_app (goodIn_of _ (by decide +kernel)) ggX6_letHolds_X5_letter
set_option maxRecDepth 20000 in
theorem ggX6_letHolds_X6_holds : GoodIn wsX6_letHolds wsX6_holds := goodIn_r _ [56, 2, 3, 37, 1, 38, 39, 40, 9, 41, 42, 43, 44, 45, 46, 47, 48, 49, 50, 51, 16, 17, 52, 53, 54, 55, 15, 35, 57, 58, 59, 23, 60, 5, 29, 28, 6, 7, 8, 10, 11, 12, 13, 14, 18, 19, 31, 32, 33, 34, 61, 62, 63, 64, 65, 66, 67, 68, 69, 70, 71, 72, 73, 74, 75, 76, 77, 78, 79, 80, 81, 30, 4, 20, 21, 22, 36, 24, 25, 26, 27, 82, 83, 0, 84, 85, 86, 87, 88, 89, 90, 91, 92, 93, 94, 95, 96, 97, 98, 99, 100, 101, 102, 103, 104, 105, 106, 107, 108] (by decide +kernel) (by decide +kernel)
set_option maxRecDepth 20000 in
theorem gX6_letHolds_X6_holds : GoodIn wsX6_letHolds (wsV RX6 42 RX6 yX6_holds wsX6_holds) := goodIn_app (goodIn_of _ (by decide +kernel)) ggX6_letHolds_X6_holds
set_option maxRecDepth 20000 in
theorem ggX6_letHolds_X6_bind : GoodIn wsX6_letHolds wsX6_bind := goodIn_r _ [27, 28, 5, 29, 87, 88, 89, 90, 91] (by decide +kernel) (by decide +kernel)
set_option maxRecDepth 20000 in
theorem gX6_letHolds_X6_bind : GoodIn wsX6_letHolds (wsV RX6 93 RX6 yX6_bind wsX6_bind) := goodIn_app (goodIn_of _ (by decide +kernel)) ggX6_letHolds_X6_bind
set_option maxRecDepth 20000 in
theorem ggX6_takeHolds_X6_bind : GoodIn wsX6_takeHolds wsX6_bind := goodIn_r _ [6, 7, 1, 8, 87, 88, 89, 90, 91] (by decide +kernel) (by decide +kernel)
set_option maxRecDepth 20000 in
theorem gX6_takeHolds_X6_bind : GoodIn wsX6_takeHolds (wsV RX6 93 RX6 yX6_bind wsX6_bind) := goodIn_app (goodIn_of _ (by decide +kernel)) ggX6_takeHolds_X6_bind
set_option maxRecDepth 20000 in
theorem ggX6_takeHolds_X6_wholeHolds : GoodIn wsX6_takeHolds wsX6_wholeHolds := goodIn_r _ [86, 13, 17, 18, 19, 20, 21, 22, 23, 24, 25, 26, 27, 28, 29, 30, 36, 37, 38, 5, 12, 14, 15, 16, 31, 32, 33, 34, 35, 39, 1, 40, 2, 3, 4, 6, 7, 8, 41, 42, 43, 44, 45, 46, 47, 48, 49, 50, 51, 52, 53, 54, 55, 56, 57, 58, 59, 60, 61, 62, 63, 64, 65, 66, 67, 68, 69, 70, 71, 72, 73, 74, 75, 76, 77, 78, 9, 10, 11, 79, 80, 81, 82, 83, 84, 85, 0, 87, 88, 89, 90, 91, 92, 93, 94, 95, 96, 97, 98, 99, 100, 101, 102, 103, 104, 105, 106, 107, 108] (by decide +kernel) (by decide +kernel)
set_option maxRecDepth 20000 in
theorem gX6_takeHolds_X6_wholeHolds : GoodIn wsX6_takeHolds (wsV RX6 81 RX6 yX6_wholeHolds wsX6_wholeHolds) := goodIn_app (goodIn_of _ (by decide +kernel)) ggX6_takeHolds_X6_wholeHolds
set_option maxRecDepth 20000 in
theorem ggX6_wholeHolds_X5_letter : GoodIn wsX6_wholeHolds wsX5_letter := goodIn_r _ [6, 7, 8, 9, 5, 10, 11, 12, 13, 14, 15, 100, 101, 102, 103, 104, 105, 106, 107, 108] (by decide +kernel) (by decide +kernel)
set_option maxRecDepth 20000 in
theorem gX6_wholeHolds_X5_letter : GoodIn wsX6_wholeHolds (wsV RX6 38 RX5 yX5_letter wsX5_letter) := goodIn_app (goodIn_of _ (by decide +kernel)) ggX6_wholeHolds_X5_letter
set_option maxRecDepth 20000 in
theorem ggX6_wholeHolds_X6_holds : GoodIn wsX6_wholeHolds wsX6_holds := goodIn_r _ [56, 21, 22, 31, 1, 38, 39, 40, 5, 41, 42, 43, 44, 45, 46, 47, 48, 49, 50, 51, 12, 13, 52, 53, 54, 55, 11, 28, 57, 58, 59, 19, 60, 30, 37, 36, 2, 3, 4, 6, 7, 8, 9, 10, 14, 15, 24, 25, 26, 27, 61, 62, 63, 64, 65, 66, 67, 68, 69, 70, 71, 72, 73, 74, 75, 76, 77, 78, 79, 80, 81, 20, 23, 16, 17, 18, 29, 32, 33, 34, 35, 82, 83, 84, 85, 86, 0, 87, 88, 89, 90, 91, 92, 93, 94, 95, 96, 97, 98, 99, 100, 101, 102, 103, 104, 105, 106, 107, 108] (by decide +kernel) (by decide +kernel)
set_option maxRecDepth 20000 in
theorem gX6_wholeHolds_X6_holds : GoodIn wsX6_wholeHolds (wsV RX6 42 RX6 yX6_holds wsX6_holds) := goodIn_app (goodIn_of _ (by decide +kernel)) ggX6_wholeHolds_X6_holds
end
section
theorem dL_make_0 : decode cL_make 0 = .ok (.aload 5, 2) := by decide +kernel
theorem dL_make_2 : decode cL_make 2 = .ok (.iconst 0, 1) := by decide +kernel
theorem dL_make_3 : decode cL_make 3 = .ok (.aload_n 0, 1) := by decide +kernel
theorem dL_make_4 : decode cL_make 4 = .ok (.iload_n 1, 1) := by decide +kernel
theorem dL_make_5 : decode cL_make 5 = .ok (.iload_n 2, 1) := by decide +kernel
theorem dL_make_6 : decode cL_make 6 = .ok (.iload_n 3, 1) := by decide +kernel
theorem dL_make_7 : decode cL_make 7 = .ok (.iload 4, 2) := by decide +kernel
theorem dL_make_9 : decode cL_make 9 = .ok (.invokevirtual 7, 3) := by decide +kernel
theorem dL_make_12 : decode cL_make 12 = .ok (.i2l, 1) := by decide +kernel
theorem dL_make_13 : decode cL_make 13 = .ok (.lastore, 1) := by decide +kernel
theorem dL_make_14 : decode cL_make 14 = .ok (.goto 11, 3) := by decide +kernel
theorem dL_make_17 : decode cL_make 17 = .ok (.astore 6, 2) := by decide +kernel
theorem dL_make_19 : decode cL_make 19 = .ok (.iconst 1, 1) := by decide +kernel
theorem dL_make_20 : decode cL_make 20 = .ok (.ireturn, 1) := by decide +kernel
theorem dL_make_21 : decode cL_make 21 = .ok (.astore 6, 2) := by decide +kernel
theorem dL_make_23 : decode cL_make 23 = .ok (.iconst 2, 1) := by decide +kernel
theorem dL_make_24 : decode cL_make 24 = .ok (.ireturn, 1) := by decide +kernel
theorem dL_make_25 : decode cL_make 25 = .ok (.iconst 0, 1) := by decide +kernel
theorem dL_make_26 : decode cL_make 26 = .ok (.ireturn, 1) := by decide +kernel
theorem dL_open_0 : decode cL_open 0 = .ok (.aload_n 2, 1) := by decide +kernel
theorem dL_open_1 : decode cL_open 1 = .ok (.iconst 0, 1) := by decide +kernel
theorem dL_open_2 : decode cL_open 2 = .ok (.aload_n 0, 1) := by decide +kernel
theorem dL_open_3 : decode cL_open 3 = .ok (.iload_n 1, 1) := by decide +kernel
theorem dL_open_4 : decode cL_open 4 = .ok (.invokevirtual 17, 3) := by decide +kernel
theorem dL_open_7 : decode cL_open 7 = .ok (.i2l, 1) := by decide +kernel
theorem dL_open_8 : decode cL_open 8 = .ok (.lastore, 1) := by decide +kernel
theorem dL_open_9 : decode cL_open 9 = .ok (.goto 6, 3) := by decide +kernel
theorem dL_open_12 : decode cL_open 12 = .ok (.astore_n 3, 1) := by decide +kernel
theorem dL_open_13 : decode cL_open 13 = .ok (.iconst 1, 1) := by decide +kernel
theorem dL_open_14 : decode cL_open 14 = .ok (.ireturn, 1) := by decide +kernel
theorem dL_open_15 : decode cL_open 15 = .ok (.iconst 0, 1) := by decide +kernel
theorem dL_open_16 : decode cL_open 16 = .ok (.ireturn, 1) := by decide +kernel
theorem dL_work_0 : decode cL_work 0 = .ok (.aload_n 3, 1) := by decide +kernel
theorem dL_work_1 : decode cL_work 1 = .ok (.iconst 0, 1) := by decide +kernel
theorem dL_work_2 : decode cL_work 2 = .ok (.aload_n 0, 1) := by decide +kernel
theorem dL_work_3 : decode cL_work 3 = .ok (.iload_n 1, 1) := by decide +kernel
theorem dL_work_4 : decode cL_work 4 = .ok (.iload_n 2, 1) := by decide +kernel
theorem dL_work_5 : decode cL_work 5 = .ok (.invokevirtual 23, 3) := by decide +kernel
theorem dL_work_8 : decode cL_work 8 = .ok (.i2l, 1) := by decide +kernel
theorem dL_work_9 : decode cL_work 9 = .ok (.lastore, 1) := by decide +kernel
theorem dL_work_10 : decode cL_work 10 = .ok (.goto 19, 3) := by decide +kernel
theorem dL_work_13 : decode cL_work 13 = .ok (.astore 4, 2) := by decide +kernel
theorem dL_work_15 : decode cL_work 15 = .ok (.iconst 1, 1) := by decide +kernel
theorem dL_work_16 : decode cL_work 16 = .ok (.ireturn, 1) := by decide +kernel
theorem dL_work_17 : decode cL_work 17 = .ok (.astore 4, 2) := by decide +kernel
theorem dL_work_19 : decode cL_work 19 = .ok (.iconst 2, 1) := by decide +kernel
theorem dL_work_20 : decode cL_work 20 = .ok (.ireturn, 1) := by decide +kernel
theorem dL_work_21 : decode cL_work 21 = .ok (.astore 4, 2) := by decide +kernel
theorem dL_work_23 : decode cL_work 23 = .ok (.iconst 3, 1) := by decide +kernel
theorem dL_work_24 : decode cL_work 24 = .ok (.ireturn, 1) := by decide +kernel
theorem dL_work_25 : decode cL_work 25 = .ok (.astore 4, 2) := by decide +kernel
theorem dL_work_27 : decode cL_work 27 = .ok (.iconst 4, 1) := by decide +kernel
theorem dL_work_28 : decode cL_work 28 = .ok (.ireturn, 1) := by decide +kernel
theorem dL_work_29 : decode cL_work 29 = .ok (.iconst 0, 1) := by decide +kernel
theorem dL_work_30 : decode cL_work 30 = .ok (.ireturn, 1) := by decide +kernel
theorem dL_type_0 : decode cL_type 0 = .ok (.aload_n 2, 1) := by decide +kernel
theorem dL_type_1 : decode cL_type 1 = .ok (.iconst 0, 1) := by decide +kernel
theorem dL_type_2 : decode cL_type 2 = .ok (.aload_n 0, 1) := by decide +kernel
theorem dL_type_3 : decode cL_type 3 = .ok (.iload_n 1, 1) := by decide +kernel
theorem dL_type_4 : decode cL_type 4 = .ok (.invokevirtual 29, 3) := by decide +kernel
theorem dL_type_7 : decode cL_type 7 = .ok (.i2l, 1) := by decide +kernel
theorem dL_type_8 : decode cL_type 8 = .ok (.lastore, 1) := by decide +kernel
theorem dL_type_9 : decode cL_type 9 = .ok (.goto 9, 3) := by decide +kernel
theorem dL_type_12 : decode cL_type 12 = .ok (.astore_n 3, 1) := by decide +kernel
theorem dL_type_13 : decode cL_type 13 = .ok (.iconst 1, 1) := by decide +kernel
theorem dL_type_14 : decode cL_type 14 = .ok (.ireturn, 1) := by decide +kernel
theorem dL_type_15 : decode cL_type 15 = .ok (.astore_n 3, 1) := by decide +kernel
theorem dL_type_16 : decode cL_type 16 = .ok (.iconst 2, 1) := by decide +kernel
theorem dL_type_17 : decode cL_type 17 = .ok (.ireturn, 1) := by decide +kernel
theorem dL_type_18 : decode cL_type 18 = .ok (.iconst 0, 1) := by decide +kernel
theorem dL_type_19 : decode cL_type 19 = .ok (.ireturn, 1) := by decide +kernel
theorem dL_law_0 : decode cL_law 0 = .ok (.new 8, 3) := by decide +kernel
theorem dL_law_3 : decode cL_law 3 = .ok (.dup, 1) := by decide +kernel
theorem dL_law_4 : decode cL_law 4 = .ok (.invokespecial 32, 3) := by decide +kernel
theorem dL_law_7 : decode cL_law 7 = .ok (.astore_n 1, 1) := by decide +kernel
theorem dL_law_8 : decode cL_law 8 = .ok (.new 33, 3) := by decide +kernel
theorem dL_law_11 : decode cL_law 11 = .ok (.dup, 1) := by decide +kernel
theorem dL_law_12 : decode cL_law 12 = .ok (.invokespecial 35, 3) := by decide +kernel
theorem dL_law_15 : decode cL_law 15 = .ok (.astore_n 2, 1) := by decide +kernel
theorem dL_law_16 : decode cL_law 16 = .ok (.iconst 1, 1) := by decide +kernel
theorem dL_law_17 : decode cL_law 17 = .ok (.newarray .long, 2) := by decide +kernel
theorem dL_law_19 : decode cL_law 19 = .ok (.astore_n 3, 1) := by decide +kernel
theorem dL_law_20 : decode cL_law 20 = .ok (.iconst 0, 1) := by decide +kernel
theorem dL_law_21 : decode cL_law 21 = .ok (.istore 4, 2) := by decide +kernel
theorem dL_law_23 : decode cL_law 23 = .ok (.iload 4, 2) := by decide +kernel
theorem dL_law_25 : decode cL_law 25 = .ok (.aload_n 0, 1) := by decide +kernel
theorem dL_law_26 : decode cL_law 26 = .ok (.arraylength, 1) := by decide +kernel
theorem dL_law_27 : decode cL_law 27 = .ok (.iconst 5, 1) := by decide +kernel
theorem dL_law_28 : decode cL_law 28 = .ok (.isub, 1) := by decide +kernel
theorem dL_law_29 : decode cL_law 29 = .ok (.if_icmp .gt 456, 3) := by decide +kernel
theorem dL_law_32 : decode cL_law 32 = .ok (.aload_n 0, 1) := by decide +kernel
theorem dL_law_33 : decode cL_law 33 = .ok (.iload 4, 2) := by decide +kernel
theorem dL_law_35 : decode cL_law 35 = .ok (.iaload, 1) := by decide +kernel
theorem dL_law_36 : decode cL_law 36 = .ok (.bipush 15, 2) := by decide +kernel
theorem dL_law_38 : decode cL_law 38 = .ok (.iand, 1) := by decide +kernel
theorem dL_law_39 : decode cL_law 39 = .ok (.tableswitch 440 0 8 #[49, 141, 197, 265, 278, 291, 347, 372, 397], 49) := by decide +kernel
theorem dL_law_88 : decode cL_law 88 = .ok (.aload_n 1, 1) := by decide +kernel
theorem dL_law_89 : decode cL_law 89 = .ok (.aload_n 0, 1) := by decide +kernel
theorem dL_law_90 : decode cL_law 90 = .ok (.iload 4, 2) := by decide +kernel
theorem dL_law_92 : decode cL_law 92 = .ok (.iconst 1, 1) := by decide +kernel
theorem dL_law_93 : decode cL_law 93 = .ok (.iadd, 1) := by decide +kernel
theorem dL_law_94 : decode cL_law 94 = .ok (.iaload, 1) := by decide +kernel
theorem dL_law_95 : decode cL_law 95 = .ok (.aload_n 0, 1) := by decide +kernel
theorem dL_law_96 : decode cL_law 96 = .ok (.iload 4, 2) := by decide +kernel
theorem dL_law_98 : decode cL_law 98 = .ok (.iconst 2, 1) := by decide +kernel
theorem dL_law_99 : decode cL_law 99 = .ok (.iadd, 1) := by decide +kernel
theorem dL_law_100 : decode cL_law 100 = .ok (.iaload, 1) := by decide +kernel
theorem dL_law_101 : decode cL_law 101 = .ok (.aload_n 0, 1) := by decide +kernel
theorem dL_law_102 : decode cL_law 102 = .ok (.iload 4, 2) := by decide +kernel
theorem dL_law_104 : decode cL_law 104 = .ok (.iconst 3, 1) := by decide +kernel
theorem dL_law_105 : decode cL_law 105 = .ok (.iadd, 1) := by decide +kernel
theorem dL_law_106 : decode cL_law 106 = .ok (.iaload, 1) := by decide +kernel
theorem dL_law_107 : decode cL_law 107 = .ok (.aload_n 0, 1) := by decide +kernel
theorem dL_law_108 : decode cL_law 108 = .ok (.iload 4, 2) := by decide +kernel
theorem dL_law_110 : decode cL_law 110 = .ok (.iconst 4, 1) := by decide +kernel
theorem dL_law_111 : decode cL_law 111 = .ok (.iadd, 1) := by decide +kernel
theorem dL_law_112 : decode cL_law 112 = .ok (.iaload, 1) := by decide +kernel
theorem dL_law_113 : decode cL_law 113 = .ok (.aload_n 3, 1) := by decide +kernel
theorem dL_law_114 : decode cL_law 114 = .ok (.invokestatic 36, 3) := by decide +kernel
theorem dL_law_117 : decode cL_law 117 = .ok (.istore 5, 2) := by decide +kernel
theorem dL_law_119 : decode cL_law 119 = .ok (.aload_n 2, 1) := by decide +kernel
theorem dL_law_120 : decode cL_law 120 = .ok (.aload_n 0, 1) := by decide +kernel
theorem dL_law_121 : decode cL_law 121 = .ok (.iload 4, 2) := by decide +kernel
theorem dL_law_123 : decode cL_law 123 = .ok (.iconst 1, 1) := by decide +kernel
theorem dL_law_124 : decode cL_law 124 = .ok (.iadd, 1) := by decide +kernel
theorem dL_law_125 : decode cL_law 125 = .ok (.iaload, 1) := by decide +kernel
theorem dL_law_126 : decode cL_law 126 = .ok (.aload_n 0, 1) := by decide +kernel
theorem dL_law_127 : decode cL_law 127 = .ok (.iload 4, 2) := by decide +kernel
theorem dL_law_129 : decode cL_law 129 = .ok (.iconst 2, 1) := by decide +kernel
theorem dL_law_130 : decode cL_law 130 = .ok (.iadd, 1) := by decide +kernel
theorem dL_law_131 : decode cL_law 131 = .ok (.iaload, 1) := by decide +kernel
theorem dL_law_132 : decode cL_law 132 = .ok (.aload_n 0, 1) := by decide +kernel
theorem dL_law_133 : decode cL_law 133 = .ok (.iload 4, 2) := by decide +kernel
theorem dL_law_135 : decode cL_law 135 = .ok (.iconst 3, 1) := by decide +kernel
theorem dL_law_136 : decode cL_law 136 = .ok (.iadd, 1) := by decide +kernel
theorem dL_law_137 : decode cL_law 137 = .ok (.iaload, 1) := by decide +kernel
theorem dL_law_138 : decode cL_law 138 = .ok (.aload_n 0, 1) := by decide +kernel
theorem dL_law_139 : decode cL_law 139 = .ok (.iload 4, 2) := by decide +kernel
theorem dL_law_141 : decode cL_law 141 = .ok (.iconst 4, 1) := by decide +kernel
theorem dL_law_142 : decode cL_law 142 = .ok (.iadd, 1) := by decide +kernel
theorem dL_law_143 : decode cL_law 143 = .ok (.iaload, 1) := by decide +kernel
theorem dL_law_144 : decode cL_law 144 = .ok (.invokevirtual 41, 3) := by decide +kernel
theorem dL_law_147 : decode cL_law 147 = .ok (.istore 6, 2) := by decide +kernel
theorem dL_law_149 : decode cL_law 149 = .ok (.aload_n 2, 1) := by decide +kernel
theorem dL_law_150 : decode cL_law 150 = .ok (.invokevirtual 42, 3) := by decide +kernel
theorem dL_law_153 : decode cL_law 153 = .ok (.iload 5, 2) := by decide +kernel
theorem dL_law_155 : decode cL_law 155 = .ok (.if_icmp .eq 5, 3) := by decide +kernel
theorem dL_law_158 : decode cL_law 158 = .ok (.iconst 0, 1) := by decide +kernel
theorem dL_law_159 : decode cL_law 159 = .ok (.ireturn, 1) := by decide +kernel
theorem dL_law_160 : decode cL_law 160 = .ok (.iload 5, 2) := by decide +kernel
theorem dL_law_162 : decode cL_law 162 = .ok (.ifCond .ne 15, 3) := by decide +kernel
theorem dL_law_165 : decode cL_law 165 = .ok (.aload_n 3, 1) := by decide +kernel
theorem dL_law_166 : decode cL_law 166 = .ok (.iconst 0, 1) := by decide +kernel
theorem dL_law_167 : decode cL_law 167 = .ok (.laload, 1) := by decide +kernel
theorem dL_law_168 : decode cL_law 168 = .ok (.iload 6, 2) := by decide +kernel
theorem dL_law_170 : decode cL_law 170 = .ok (.i2l, 1) := by decide +kernel
theorem dL_law_171 : decode cL_law 171 = .ok (.lcmp, 1) := by decide +kernel
theorem dL_law_172 : decode cL_law 172 = .ok (.ifCond .eq 5, 3) := by decide +kernel
theorem dL_law_175 : decode cL_law 175 = .ok (.iconst 0, 1) := by decide +kernel
theorem dL_law_176 : decode cL_law 176 = .ok (.ireturn, 1) := by decide +kernel
theorem dL_law_177 : decode cL_law 177 = .ok (.goto 302, 3) := by decide +kernel
theorem dL_law_180 : decode cL_law 180 = .ok (.aload_n 1, 1) := by decide +kernel
theorem dL_law_181 : decode cL_law 181 = .ok (.aload_n 0, 1) := by decide +kernel
theorem dL_law_182 : decode cL_law 182 = .ok (.iload 4, 2) := by decide +kernel
theorem dL_law_184 : decode cL_law 184 = .ok (.iconst 1, 1) := by decide +kernel
theorem dL_law_185 : decode cL_law 185 = .ok (.iadd, 1) := by decide +kernel
theorem dL_law_186 : decode cL_law 186 = .ok (.iaload, 1) := by decide +kernel
theorem dL_law_187 : decode cL_law 187 = .ok (.aload_n 3, 1) := by decide +kernel
theorem dL_law_188 : decode cL_law 188 = .ok (.invokestatic 46, 3) := by decide +kernel
theorem dL_law_191 : decode cL_law 191 = .ok (.istore 5, 2) := by decide +kernel
theorem dL_law_193 : decode cL_law 193 = .ok (.aload_n 2, 1) := by decide +kernel
theorem dL_law_194 : decode cL_law 194 = .ok (.aload_n 0, 1) := by decide +kernel
theorem dL_law_195 : decode cL_law 195 = .ok (.iload 4, 2) := by decide +kernel
theorem dL_law_197 : decode cL_law 197 = .ok (.iconst 1, 1) := by decide +kernel
theorem dL_law_198 : decode cL_law 198 = .ok (.iadd, 1) := by decide +kernel
theorem dL_law_199 : decode cL_law 199 = .ok (.iaload, 1) := by decide +kernel
theorem dL_law_200 : decode cL_law 200 = .ok (.invokevirtual 49, 3) := by decide +kernel
theorem dL_law_203 : decode cL_law 203 = .ok (.istore 6, 2) := by decide +kernel
theorem dL_law_205 : decode cL_law 205 = .ok (.aload_n 2, 1) := by decide +kernel
theorem dL_law_206 : decode cL_law 206 = .ok (.invokevirtual 42, 3) := by decide +kernel
theorem dL_law_209 : decode cL_law 209 = .ok (.iload 5, 2) := by decide +kernel
theorem dL_law_211 : decode cL_law 211 = .ok (.if_icmp .eq 5, 3) := by decide +kernel
theorem dL_law_214 : decode cL_law 214 = .ok (.iconst 0, 1) := by decide +kernel
theorem dL_law_215 : decode cL_law 215 = .ok (.ireturn, 1) := by decide +kernel
theorem dL_law_216 : decode cL_law 216 = .ok (.iload 5, 2) := by decide +kernel
theorem dL_law_218 : decode cL_law 218 = .ok (.ifCond .ne 15, 3) := by decide +kernel
theorem dL_law_221 : decode cL_law 221 = .ok (.aload_n 3, 1) := by decide +kernel
theorem dL_law_222 : decode cL_law 222 = .ok (.iconst 0, 1) := by decide +kernel
theorem dL_law_223 : decode cL_law 223 = .ok (.laload, 1) := by decide +kernel
theorem dL_law_224 : decode cL_law 224 = .ok (.iload 6, 2) := by decide +kernel
theorem dL_law_226 : decode cL_law 226 = .ok (.i2l, 1) := by decide +kernel
theorem dL_law_227 : decode cL_law 227 = .ok (.lcmp, 1) := by decide +kernel
theorem dL_law_228 : decode cL_law 228 = .ok (.ifCond .eq 5, 3) := by decide +kernel
theorem dL_law_231 : decode cL_law 231 = .ok (.iconst 0, 1) := by decide +kernel
theorem dL_law_232 : decode cL_law 232 = .ok (.ireturn, 1) := by decide +kernel
theorem dL_law_233 : decode cL_law 233 = .ok (.goto 246, 3) := by decide +kernel
theorem dL_law_236 : decode cL_law 236 = .ok (.aload_n 1, 1) := by decide +kernel
theorem dL_law_237 : decode cL_law 237 = .ok (.aload_n 0, 1) := by decide +kernel
theorem dL_law_238 : decode cL_law 238 = .ok (.iload 4, 2) := by decide +kernel
theorem dL_law_240 : decode cL_law 240 = .ok (.iconst 1, 1) := by decide +kernel
theorem dL_law_241 : decode cL_law 241 = .ok (.iadd, 1) := by decide +kernel
theorem dL_law_242 : decode cL_law 242 = .ok (.iaload, 1) := by decide +kernel
theorem dL_law_243 : decode cL_law 243 = .ok (.aload_n 0, 1) := by decide +kernel
theorem dL_law_244 : decode cL_law 244 = .ok (.iload 4, 2) := by decide +kernel
theorem dL_law_246 : decode cL_law 246 = .ok (.iconst 2, 1) := by decide +kernel
theorem dL_law_247 : decode cL_law 247 = .ok (.iadd, 1) := by decide +kernel
theorem dL_law_248 : decode cL_law 248 = .ok (.iaload, 1) := by decide +kernel
theorem dL_law_249 : decode cL_law 249 = .ok (.aload_n 3, 1) := by decide +kernel
theorem dL_law_250 : decode cL_law 250 = .ok (.invokestatic 50, 3) := by decide +kernel
theorem dL_law_253 : decode cL_law 253 = .ok (.istore 5, 2) := by decide +kernel
theorem dL_law_255 : decode cL_law 255 = .ok (.aload_n 2, 1) := by decide +kernel
theorem dL_law_256 : decode cL_law 256 = .ok (.aload_n 0, 1) := by decide +kernel
theorem dL_law_257 : decode cL_law 257 = .ok (.iload 4, 2) := by decide +kernel
theorem dL_law_259 : decode cL_law 259 = .ok (.iconst 1, 1) := by decide +kernel
theorem dL_law_260 : decode cL_law 260 = .ok (.iadd, 1) := by decide +kernel
theorem dL_law_261 : decode cL_law 261 = .ok (.iaload, 1) := by decide +kernel
theorem dL_law_262 : decode cL_law 262 = .ok (.aload_n 0, 1) := by decide +kernel
theorem dL_law_263 : decode cL_law 263 = .ok (.iload 4, 2) := by decide +kernel
theorem dL_law_265 : decode cL_law 265 = .ok (.iconst 2, 1) := by decide +kernel
theorem dL_law_266 : decode cL_law 266 = .ok (.iadd, 1) := by decide +kernel
theorem dL_law_267 : decode cL_law 267 = .ok (.iaload, 1) := by decide +kernel
theorem dL_law_268 : decode cL_law 268 = .ok (.invokevirtual 53, 3) := by decide +kernel
theorem dL_law_271 : decode cL_law 271 = .ok (.istore 6, 2) := by decide +kernel
theorem dL_law_273 : decode cL_law 273 = .ok (.aload_n 2, 1) := by decide +kernel
theorem dL_law_274 : decode cL_law 274 = .ok (.invokevirtual 42, 3) := by decide +kernel
theorem dL_law_277 : decode cL_law 277 = .ok (.iload 5, 2) := by decide +kernel
theorem dL_law_279 : decode cL_law 279 = .ok (.if_icmp .eq 5, 3) := by decide +kernel
theorem dL_law_282 : decode cL_law 282 = .ok (.iconst 0, 1) := by decide +kernel
theorem dL_law_283 : decode cL_law 283 = .ok (.ireturn, 1) := by decide +kernel
theorem dL_law_284 : decode cL_law 284 = .ok (.iload 5, 2) := by decide +kernel
theorem dL_law_286 : decode cL_law 286 = .ok (.ifCond .ne 15, 3) := by decide +kernel
theorem dL_law_289 : decode cL_law 289 = .ok (.aload_n 3, 1) := by decide +kernel
theorem dL_law_290 : decode cL_law 290 = .ok (.iconst 0, 1) := by decide +kernel
theorem dL_law_291 : decode cL_law 291 = .ok (.laload, 1) := by decide +kernel
theorem dL_law_292 : decode cL_law 292 = .ok (.iload 6, 2) := by decide +kernel
theorem dL_law_294 : decode cL_law 294 = .ok (.i2l, 1) := by decide +kernel
theorem dL_law_295 : decode cL_law 295 = .ok (.lcmp, 1) := by decide +kernel
theorem dL_law_296 : decode cL_law 296 = .ok (.ifCond .eq 5, 3) := by decide +kernel
theorem dL_law_299 : decode cL_law 299 = .ok (.iconst 0, 1) := by decide +kernel
theorem dL_law_300 : decode cL_law 300 = .ok (.ireturn, 1) := by decide +kernel
theorem dL_law_301 : decode cL_law 301 = .ok (.goto 178, 3) := by decide +kernel
theorem dL_law_304 : decode cL_law 304 = .ok (.aload_n 1, 1) := by decide +kernel
theorem dL_law_305 : decode cL_law 305 = .ok (.invokevirtual 54, 3) := by decide +kernel
theorem dL_law_308 : decode cL_law 308 = .ok (.aload_n 2, 1) := by decide +kernel
theorem dL_law_309 : decode cL_law 309 = .ok (.invokevirtual 57, 3) := by decide +kernel
theorem dL_law_312 : decode cL_law 312 = .ok (.if_icmp .eq 167, 3) := by decide +kernel
theorem dL_law_315 : decode cL_law 315 = .ok (.iconst 0, 1) := by decide +kernel
theorem dL_law_316 : decode cL_law 316 = .ok (.ireturn, 1) := by decide +kernel
theorem dL_law_317 : decode cL_law 317 = .ok (.aload_n 1, 1) := by decide +kernel
theorem dL_law_318 : decode cL_law 318 = .ok (.invokevirtual 58, 3) := by decide +kernel
theorem dL_law_321 : decode cL_law 321 = .ok (.aload_n 2, 1) := by decide +kernel
theorem dL_law_322 : decode cL_law 322 = .ok (.invokevirtual 61, 3) := by decide +kernel
theorem dL_law_325 : decode cL_law 325 = .ok (.if_icmp .eq 154, 3) := by decide +kernel
theorem dL_law_328 : decode cL_law 328 = .ok (.iconst 0, 1) := by decide +kernel
theorem dL_law_329 : decode cL_law 329 = .ok (.ireturn, 1) := by decide +kernel
theorem dL_law_330 : decode cL_law 330 = .ok (.aload_n 1, 1) := by decide +kernel
theorem dL_law_331 : decode cL_law 331 = .ok (.aload_n 0, 1) := by decide +kernel
theorem dL_law_332 : decode cL_law 332 = .ok (.iload 4, 2) := by decide +kernel
theorem dL_law_334 : decode cL_law 334 = .ok (.iconst 1, 1) := by decide +kernel
theorem dL_law_335 : decode cL_law 335 = .ok (.iadd, 1) := by decide +kernel
theorem dL_law_336 : decode cL_law 336 = .ok (.iaload, 1) := by decide +kernel
theorem dL_law_337 : decode cL_law 337 = .ok (.aload_n 3, 1) := by decide +kernel
theorem dL_law_338 : decode cL_law 338 = .ok (.invokestatic 62, 3) := by decide +kernel
theorem dL_law_341 : decode cL_law 341 = .ok (.istore 5, 2) := by decide +kernel
theorem dL_law_343 : decode cL_law 343 = .ok (.aload_n 2, 1) := by decide +kernel
theorem dL_law_344 : decode cL_law 344 = .ok (.aload_n 0, 1) := by decide +kernel
theorem dL_law_345 : decode cL_law 345 = .ok (.iload 4, 2) := by decide +kernel
theorem dL_law_347 : decode cL_law 347 = .ok (.iconst 1, 1) := by decide +kernel
theorem dL_law_348 : decode cL_law 348 = .ok (.iadd, 1) := by decide +kernel
theorem dL_law_349 : decode cL_law 349 = .ok (.iaload, 1) := by decide +kernel
theorem dL_law_350 : decode cL_law 350 = .ok (.invokevirtual 64, 3) := by decide +kernel
theorem dL_law_353 : decode cL_law 353 = .ok (.istore 6, 2) := by decide +kernel
theorem dL_law_355 : decode cL_law 355 = .ok (.aload_n 2, 1) := by decide +kernel
theorem dL_law_356 : decode cL_law 356 = .ok (.invokevirtual 42, 3) := by decide +kernel
theorem dL_law_359 : decode cL_law 359 = .ok (.iload 5, 2) := by decide +kernel
theorem dL_law_361 : decode cL_law 361 = .ok (.if_icmp .eq 5, 3) := by decide +kernel
theorem dL_law_364 : decode cL_law 364 = .ok (.iconst 0, 1) := by decide +kernel
theorem dL_law_365 : decode cL_law 365 = .ok (.ireturn, 1) := by decide +kernel
theorem dL_law_366 : decode cL_law 366 = .ok (.iload 5, 2) := by decide +kernel
theorem dL_law_368 : decode cL_law 368 = .ok (.ifCond .ne 15, 3) := by decide +kernel
theorem dL_law_371 : decode cL_law 371 = .ok (.aload_n 3, 1) := by decide +kernel
theorem dL_law_372 : decode cL_law 372 = .ok (.iconst 0, 1) := by decide +kernel
theorem dL_law_373 : decode cL_law 373 = .ok (.laload, 1) := by decide +kernel
theorem dL_law_374 : decode cL_law 374 = .ok (.iload 6, 2) := by decide +kernel
theorem dL_law_376 : decode cL_law 376 = .ok (.i2l, 1) := by decide +kernel
theorem dL_law_377 : decode cL_law 377 = .ok (.lcmp, 1) := by decide +kernel
theorem dL_law_378 : decode cL_law 378 = .ok (.ifCond .eq 5, 3) := by decide +kernel
theorem dL_law_381 : decode cL_law 381 = .ok (.iconst 0, 1) := by decide +kernel
theorem dL_law_382 : decode cL_law 382 = .ok (.ireturn, 1) := by decide +kernel
theorem dL_law_383 : decode cL_law 383 = .ok (.goto 96, 3) := by decide +kernel
theorem dL_law_386 : decode cL_law 386 = .ok (.aload_n 1, 1) := by decide +kernel
theorem dL_law_387 : decode cL_law 387 = .ok (.aload_n 0, 1) := by decide +kernel
theorem dL_law_388 : decode cL_law 388 = .ok (.iload 4, 2) := by decide +kernel
theorem dL_law_390 : decode cL_law 390 = .ok (.iconst 1, 1) := by decide +kernel
theorem dL_law_391 : decode cL_law 391 = .ok (.iadd, 1) := by decide +kernel
theorem dL_law_392 : decode cL_law 392 = .ok (.iaload, 1) := by decide +kernel
theorem dL_law_393 : decode cL_law 393 = .ok (.invokevirtual 65, 3) := by decide +kernel
theorem dL_law_396 : decode cL_law 396 = .ok (.aload_n 2, 1) := by decide +kernel
theorem dL_law_397 : decode cL_law 397 = .ok (.aload_n 0, 1) := by decide +kernel
theorem dL_law_398 : decode cL_law 398 = .ok (.iload 4, 2) := by decide +kernel
theorem dL_law_400 : decode cL_law 400 = .ok (.iconst 1, 1) := by decide +kernel
theorem dL_law_401 : decode cL_law 401 = .ok (.iadd, 1) := by decide +kernel
theorem dL_law_402 : decode cL_law 402 = .ok (.iaload, 1) := by decide +kernel
theorem dL_law_403 : decode cL_law 403 = .ok (.invokevirtual 68, 3) := by decide +kernel
theorem dL_law_406 : decode cL_law 406 = .ok (.if_icmp .eq 73, 3) := by decide +kernel
theorem dL_law_409 : decode cL_law 409 = .ok (.iconst 0, 1) := by decide +kernel
theorem dL_law_410 : decode cL_law 410 = .ok (.ireturn, 1) := by decide +kernel
theorem dL_law_411 : decode cL_law 411 = .ok (.aload_n 1, 1) := by decide +kernel
theorem dL_law_412 : decode cL_law 412 = .ok (.aload_n 0, 1) := by decide +kernel
theorem dL_law_413 : decode cL_law 413 = .ok (.iload 4, 2) := by decide +kernel
theorem dL_law_415 : decode cL_law 415 = .ok (.iconst 1, 1) := by decide +kernel
theorem dL_law_416 : decode cL_law 416 = .ok (.iadd, 1) := by decide +kernel
theorem dL_law_417 : decode cL_law 417 = .ok (.iaload, 1) := by decide +kernel
theorem dL_law_418 : decode cL_law 418 = .ok (.invokevirtual 69, 3) := by decide +kernel
theorem dL_law_421 : decode cL_law 421 = .ok (.aload_n 2, 1) := by decide +kernel
theorem dL_law_422 : decode cL_law 422 = .ok (.aload_n 0, 1) := by decide +kernel
theorem dL_law_423 : decode cL_law 423 = .ok (.iload 4, 2) := by decide +kernel
theorem dL_law_425 : decode cL_law 425 = .ok (.iconst 1, 1) := by decide +kernel
theorem dL_law_426 : decode cL_law 426 = .ok (.iadd, 1) := by decide +kernel
theorem dL_law_427 : decode cL_law 427 = .ok (.iaload, 1) := by decide +kernel
theorem dL_law_428 : decode cL_law 428 = .ok (.invokevirtual 72, 3) := by decide +kernel
theorem dL_law_431 : decode cL_law 431 = .ok (.if_icmp .eq 48, 3) := by decide +kernel
theorem dL_law_434 : decode cL_law 434 = .ok (.iconst 0, 1) := by decide +kernel
theorem dL_law_435 : decode cL_law 435 = .ok (.ireturn, 1) := by decide +kernel
theorem dL_law_436 : decode cL_law 436 = .ok (.aload_n 1, 1) := by decide +kernel
theorem dL_law_437 : decode cL_law 437 = .ok (.invokevirtual 73, 3) := by decide +kernel
theorem dL_law_440 : decode cL_law 440 = .ok (.f2d, 1) := by decide +kernel
theorem dL_law_441 : decode cL_law 441 = .ok (.dstore 5, 2) := by decide +kernel
theorem dL_law_443 : decode cL_law 443 = .ok (.aload_n 2, 1) := by decide +kernel
theorem dL_law_444 : decode cL_law 444 = .ok (.invokevirtual 77, 3) := by decide +kernel
theorem dL_law_447 : decode cL_law 447 = .ok (.f2d, 1) := by decide +kernel
theorem dL_law_448 : decode cL_law 448 = .ok (.dstore 7, 2) := by decide +kernel
theorem dL_law_450 : decode cL_law 450 = .ok (.dload 5, 2) := by decide +kernel
theorem dL_law_452 : decode cL_law 452 = .ok (.dload 7, 2) := by decide +kernel
theorem dL_law_454 : decode cL_law 454 = .ok (.dcmp .l, 1) := by decide +kernel
theorem dL_law_455 : decode cL_law 455 = .ok (.ifCond .eq 21, 3) := by decide +kernel
theorem dL_law_458 : decode cL_law 458 = .ok (.dload 5, 2) := by decide +kernel
theorem dL_law_460 : decode cL_law 460 = .ok (.dload 5, 2) := by decide +kernel
theorem dL_law_462 : decode cL_law 462 = .ok (.dcmp .l, 1) := by decide +kernel
theorem dL_law_463 : decode cL_law 463 = .ok (.ifCond .eq 11, 3) := by decide +kernel
theorem dL_law_466 : decode cL_law 466 = .ok (.dload 7, 2) := by decide +kernel
theorem dL_law_468 : decode cL_law 468 = .ok (.dload 7, 2) := by decide +kernel
theorem dL_law_470 : decode cL_law 470 = .ok (.dcmp .l, 1) := by decide +kernel
theorem dL_law_471 : decode cL_law 471 = .ok (.ifCond .ne 5, 3) := by decide +kernel
theorem dL_law_474 : decode cL_law 474 = .ok (.iconst 0, 1) := by decide +kernel
theorem dL_law_475 : decode cL_law 475 = .ok (.ireturn, 1) := by decide +kernel
theorem dL_law_476 : decode cL_law 476 = .ok (.goto 3, 3) := by decide +kernel
theorem dL_law_479 : decode cL_law 479 = .ok (.iinc 4 5, 3) := by decide +kernel
theorem dL_law_482 : decode cL_law 482 = .ok (.goto (-459), 3) := by decide +kernel
theorem dL_law_485 : decode cL_law 485 = .ok (.iconst 1, 1) := by decide +kernel
theorem dL_law_486 : decode cL_law 486 = .ok (.ireturn, 1) := by decide +kernel
end
section
set_option maxRecDepth 20000 in
theorem ggL_make_X9_make : GoodIn wsL_make wsX9_make := goodIn_ca (goodIn_ca (goodIn_r _ [7, 8, 9, 10, 11, 12, 13, 14, 15, 16, 17, 18, 19, 20, 21, 22, 23, 24, 25, 26, 27, 28, 29, 30, 31, 32, 33, 34, 35, 36, 37, 38, 39, 40, 41, 42, 43, 44, 45, 46, 47, 48, 49, 50, 51, 52, 53, 54, 55, 56, 57, 58, 59, 60, 61, 62, 63, 64, 65, 66, 67, 68, 69, 70, 71, 72, 73, 74, 75] (by decide +kernel) (by decide +kernel)) (goodIn_sub (fun _ h => List.mem_cons_of_mem _ (List.mem_append_left _ (List.mem_append_right _ h))) (by decide +kernel))) (goodIn_sub (fun _ h => List.mem_cons_of_mem _ (List.mem_append_right _ h)) (by decide +kernel))
set_option maxRecDepth 20000 in
theorem gL_make_X9_make : GoodIn wsL_make (wsV RL 7 RX9 yX9_make wsX9_make) := goodIn_app (goodIn_of _ (by decide +kernel)) ggL_make_X9_make
set_option maxRecDepth 20000 in
theorem ggL_open_X9_open : GoodIn wsL_open wsX9_open := goodIn_ca (goodIn_r _ [6, 7, 8, 9, 10, 11, 12, 13, 14, 15, 16, 17, 18, 19, 20, 21, 22, 23, 24, 25, 26, 27, 28, 29, 30, 31, 32, 33, 34, 35, 36] (by decide +kernel) (by decide +kernel)) (goodIn_sub (fun _ h => List.mem_cons_of_mem _ (List.mem_append_right _ h)) (by decide +kernel))
set_option maxRecDepth 20000 in
theorem gL_open_X9_open : GoodIn wsL_open (wsV RL 17 RX9 yX9_open wsX9_open) := goodIn_app (goodIn_of _ (by decide +kernel)) ggL_open_X9_open
set_option maxRecDepth 20000 in
theorem ggL_work_X9_work : GoodIn wsL_work wsX9_work := goodIn_ca (goodIn_ca (goodIn_ca (goodIn_ca (goodIn_r _ [9, 10, 11, 12, 13, 14, 15, 16, 17, 18, 19, 20, 21, 22, 23, 24, 25, 26, 27, 28, 29, 30, 31, 32, 33, 34, 35, 36, 37, 38, 39, 40, 41, 42, 43, 44, 45, 46, 47, 48, 49, 50, 51, 52, 53, 54, 55, 56, 57, 58, 59, 60, 61, 62, 63, 64, 65, 66, 67, 68, 69, 70, 71, 72, 73, 74, 75, 76, 77, 78, 79, 80, 81, 82, 83, 84, 85, 86, 87, 88, 89, 90, 91, 92, 93, 94, 95, 96, 97, 98, 99, 100, 101, 102, 103, 104, 105, 106, 107, 108, 109, 110, 111, 112, 113, 114, 115, 116, 117, 118, 119, 120, 121, 122, 123, 124, 125, 126, 127, 128, 129, 130, 131, 132, 133, 134, 135, 136, 137, 138, 139, 140, 141, 142, 143, 8, 144, 145, 146, 147, 148, 149, 150, 151, 152, 153, 154, 155, 156, 157, 158, 159, 160, 161, 162, 163, 164, 165, 166, 167, 168, 169, 170, 171, 172, 173, 174, 175, 176, 177, 178, 179, 180, 181, 182, 183, 184, 185, 186, 187, 188, 189, 190, 191, 192, 193, 194, 195, 196, 197, 198, 199, 200, 201, 202, 203, 204, 205, 206, 207] (by decide +kernel) (by decide +kernel)) (goodIn_sub (fun _ h => List.mem_cons_of_mem _ (List.mem_append_left _ (List.mem_append_left _ (List.mem_append_left _ (List.mem_append_right _ h))))) (by decide +kernel))) (goodIn_sub (fun _ h => List.mem_cons_of_mem _ (List.mem_append_left _ (List.mem_append_left _ (List.mem_append_right _ h)))) (by decide +kernel))) (goodIn_sub (fun _ h => List.mem_cons_of_mem _ (List.mem_append_left _ (List.mem_append_right _ h))) (by decide +kernel))) (goodIn_sub (fun _ h => List.mem_cons_of_mem _ (List.mem_append_right _ h)) (by decide +kernel))
set_option maxRecDepth 20000 in
theorem gL_work_X9_work : GoodIn wsL_work (wsV RL 23 RX9 yX9_work wsX9_work) := goodIn_app (goodIn_of _ (by decide +kernel)) ggL_work_X9_work
set_option maxRecDepth 20000 in
theorem ggL_type_X9_type : GoodIn wsL_type wsX9_type := goodIn_ca (goodIn_ca (goodIn_r _ [7, 8, 9, 10, 11, 12, 13, 14, 15, 16, 17, 18, 19, 20, 21, 22, 23, 24, 25, 26, 27, 28, 29, 30, 31, 32, 33, 34, 35, 36, 37, 38, 39, 40, 41, 42, 43, 44, 45, 46, 47, 48, 49, 50, 51, 52, 53, 54, 55, 56, 57, 58, 59, 60, 61, 62, 63, 64, 65, 66, 67, 68, 69, 70, 71, 72, 73, 74, 75, 76, 77, 78, 79, 80, 81, 82, 83, 84, 85, 86, 87, 88, 89, 90, 91, 92, 93, 94, 95, 96, 97, 98, 99, 100, 101, 102, 103, 104, 105, 106, 107, 108, 109, 110, 111, 112, 113, 114, 115, 116, 117, 118, 119, 120, 121, 122, 123, 124, 125, 126, 127, 128, 129, 130, 131, 132, 133, 134, 135, 136, 137, 138, 139, 140, 141, 142, 143, 144, 145, 146, 147, 148, 149, 150, 151, 152, 153, 154, 155, 156, 157, 158, 159, 160, 161, 162, 163, 164, 165, 166, 167, 168, 169, 170, 171, 172, 173, 174, 175, 176, 177, 178, 179, 180, 181, 182, 183, 184, 185, 186, 187, 188, 189, 190, 191, 192, 193, 194, 195, 196, 197, 198, 199, 200] (by decide +kernel) (by decide +kernel)) (goodIn_sub (fun _ h => List.mem_cons_of_mem _ (List.mem_append_left _ (List.mem_append_right _ h))) (by decide +kernel))) (goodIn_sub (fun _ h => List.mem_cons_of_mem _ (List.mem_append_right _ h)) (by decide +kernel))
set_option maxRecDepth 20000 in
theorem gL_type_X9_type : GoodIn wsL_type (wsV RL 29 RX9 yX9_type wsX9_type) := goodIn_app (goodIn_of _ (by decide +kernel)) ggL_type_X9_type
set_option maxRecDepth 20000 in
theorem ggL_law_X9_init : GoodIn wsL_law wsX9_init := goodIn_r _ [9, 10, 11, 12, 13, 14, 15, 16, 17, 18, 19, 20, 21, 22, 23, 24, 25, 26, 27, 28, 29, 30, 31, 32, 33, 34, 35, 36, 37, 38, 39, 40, 41, 42, 43, 44, 45, 46, 47, 48, 49, 50, 51, 52, 53, 54, 55, 56, 57, 58, 59, 60, 61, 62, 63, 64, 65, 66, 67, 68, 69, 70, 71, 72, 73, 74, 75, 76, 77, 78, 79, 80, 81, 82, 83, 84, 85, 86, 87, 88, 89, 90, 91, 92, 93, 94, 95, 96, 97, 98, 99, 100, 101, 102, 103, 734, 735, 736, 737, 738, 739, 740, 741, 662, 663, 664, 665, 666, 667, 668, 669, 670, 671, 672, 673, 742, 743, 744, 745, 746, 747, 748, 749, 750, 751, 752, 753, 754, 755, 756, 757, 758, 759, 760, 761, 762, 763, 764, 765, 766, 767, 768, 769, 770, 771, 772, 773, 774, 775, 776, 777, 778, 779, 780, 781, 782, 783, 784, 785] (by decide +kernel) (by decide +kernel)
set_option maxRecDepth 20000 in
theorem gL_law_X9_init : GoodIn wsL_law (wsX9_init) := ggL_law_X9_init
set_option maxRecDepth 20000 in
theorem ggL_law_X10_init : GoodIn wsL_law wsX10_init := goodIn_r _ [106, 107, 11, 12, 32, 108, 109, 110, 111, 112, 113, 114, 115, 116, 117, 118, 119, 120, 121, 122, 123, 124, 125, 126, 127, 128, 129, 130, 131, 132, 133, 134, 135, 136, 137, 138, 139, 140, 141, 142, 143, 674, 675, 676, 677, 678, 679, 680, 681, 682, 683, 684, 685, 686, 687, 688, 689, 690, 691, 692, 693, 694, 695, 696, 697, 698, 699, 700, 701, 702, 703, 704, 705, 706, 707, 708, 709, 710, 711, 712, 713, 714, 715, 716, 717, 718, 719, 720, 721, 722, 723, 724, 725, 726, 727, 728, 729, 730, 731, 732, 733] (by decide +kernel) (by decide +kernel)
end
section
set_option maxRecDepth 20000 in
theorem gL_law_X10_init : GoodIn wsL_law (wsX10_init) := ggL_law_X10_init
set_option maxRecDepth 20000 in
theorem ggL_law_L_make : GoodIn wsL_law wsL_make := goodIn_ca (goodIn_ca (goodIn_r _ [147, 148, 149, 150, 151, 152, 2, 153, 154, 155, 156, 157, 16, 158, 159, 160, 15, 161, 162, 163, 164, 165, 166, 167, 168, 169, 170, 171, 172, 173, 174, 175, 38, 176, 177, 178, 179, 180, 181, 182, 183, 39, 184, 185, 186, 187, 33, 34, 35, 36, 37, 188, 189, 190, 191, 192, 662, 663, 664, 665, 666, 667, 668, 669, 670, 671, 672, 673, 734, 735, 736, 737, 738, 739, 740, 741] (by decide +kernel) (by decide +kernel)) (goodIn_sub (fun _ h => List.mem_append_left _ (List.mem_append_left _ (List.mem_append_left _ (List.mem_append_right _ h)))) (by decide +kernel))) (goodIn_sub (fun _ h => List.mem_append_left _ (List.mem_append_left _ (List.mem_append_right _ h))) (by decide +kernel))
set_option maxRecDepth 20000 in
theorem gL_law_L_make : GoodIn wsL_law (va_wsS RL 36 yL_make wsL_make) := goodIn_app (goodIn_of _ (by decide +kernel)) ggL_law_L_make
set_option maxRecDepth 20000 in
theorem ggL_law_X10_make : GoodIn wsL_law wsX10_make := goodIn_r _ [196, 197, 112, 113, 198, 108, 109, 110, 111, 114, 199, 200, 5, 201, 202, 203, 204, 205, 206, 207, 208, 209, 210, 211, 212, 213, 214, 215, 216, 217, 218, 219, 220, 221, 222, 223, 224, 225, 226, 674, 675, 676, 677, 678, 679, 680, 681, 682, 683, 684, 685, 686, 687, 688, 689, 690, 691, 692, 693, 694, 695, 696, 697, 698, 699, 700, 701, 702, 703, 704, 705, 706, 707, 708, 709, 710, 711, 712, 713, 714, 715, 716, 717, 718, 719, 720, 721, 722, 723, 724, 725, 726, 727, 728, 729, 730, 731, 732, 733] (by decide +kernel) (by decide +kernel)
set_option maxRecDepth 20000 in
theorem gL_law_X10_make : GoodIn wsL_law (wsV RL 41 RX10 yX10_make wsX10_make) := goodIn_app (goodIn_of _ (by decide +kernel)) ggL_law_X10_make
set_option maxRecDepth 20000 in
theorem ggL_law_X10_thrown : GoodIn wsL_law wsX10_thrown := goodIn_r _ [230, 197, 674, 675, 676, 677, 678, 679, 680, 681, 682, 683, 684, 685, 686, 687, 688, 689, 690, 691, 692, 693, 694, 695, 696, 697, 698, 699, 700, 701, 702, 703, 704, 705, 706, 707, 708, 709, 710, 711, 712, 713, 714, 715, 716, 717, 718, 719, 720, 721, 722, 723, 724, 725, 726, 727, 728, 729, 730, 731, 732, 733] (by decide +kernel) (by decide +kernel)
set_option maxRecDepth 20000 in
theorem gL_law_X10_thrown : GoodIn wsL_law (wsV RL 42 RX10 yX10_thrown wsX10_thrown) := goodIn_app (goodIn_of _ (by decide +kernel)) ggL_law_X10_thrown
set_option maxRecDepth 20000 in
theorem ggL_law_L_open : GoodIn wsL_law wsL_open := goodIn_ca (goodIn_r _ [233, 234, 235, 236, 237, 2, 238, 239, 240, 16, 241, 242, 164, 165, 15, 166, 167, 662, 663, 664, 665, 666, 667, 668, 669, 670, 671, 672, 673, 734, 735, 736, 737, 738, 739, 740, 741] (by decide +kernel) (by decide +kernel)) (goodIn_sub (fun _ h => List.mem_append_left _ (List.mem_append_right _ h)) (by decide +kernel))
set_option maxRecDepth 20000 in
theorem gL_law_L_open : GoodIn wsL_law (va_wsS RL 46 yL_open wsL_open) := goodIn_app (goodIn_of _ (by decide +kernel)) ggL_law_L_open
set_option maxRecDepth 20000 in
theorem ggL_law_X10_open : GoodIn wsL_law wsX10_open := goodIn_r _ [246, 197, 114, 206, 207, 208, 5, 209, 198, 199, 200, 201, 674, 675, 676, 677, 678, 679, 680, 681, 682, 683, 684, 685, 686, 687, 688, 689, 690, 691, 692, 693, 694, 695, 696, 697, 698, 699, 700, 701, 702, 703, 704, 705, 706, 707, 708, 709, 710, 711, 712, 713, 714, 715, 716, 717, 718, 719, 720, 721, 722, 723, 724, 725, 726, 727, 728, 729, 730, 731, 732, 733] (by decide +kernel) (by decide +kernel)
set_option maxRecDepth 20000 in
theorem gL_law_X10_open : GoodIn wsL_law (wsV RL 49 RX10 yX10_open wsX10_open) := goodIn_app (goodIn_of _ (by decide +kernel)) ggL_law_X10_open
end
section
set_option maxRecDepth 20000 in
theorem ggL_law_L_work : GoodIn wsL_law wsL_work := goodIn_ca (goodIn_ca (goodIn_ca (goodIn_ca (goodIn_r _ [249, 234, 250, 148, 149, 251, 252, 253, 2, 254, 239, 240, 255, 256, 154, 155, 156, 157, 16, 20, 257, 258, 259, 260, 261, 15, 262, 37, 163, 164, 165, 166, 167, 263, 264, 265, 19, 266, 47, 51, 55, 267, 268, 269, 270, 271, 272, 273, 274, 46, 275, 276, 277, 278, 279, 50, 280, 281, 282, 283, 284, 54, 285, 286, 287, 288, 289, 290, 291, 292, 293, 294, 295, 296, 297, 298, 299, 300, 301, 56, 302, 303, 304, 305, 57, 306, 307, 308, 309, 310, 311, 61, 62, 63, 312, 313, 314, 315, 68, 67, 316, 317, 318, 319, 320, 321, 322, 323, 324, 325, 326, 327, 72, 73, 74, 75, 328, 329, 330, 331, 332, 333, 334, 335, 336, 337, 338, 339, 340, 341, 342, 343, 344, 345, 346, 347, 348, 349, 350, 351, 352, 353, 354, 355, 356, 357, 358, 359, 360, 361, 362, 363, 364, 365, 366, 367, 368, 369, 370, 371, 178, 372, 373, 662, 663, 664, 665, 666, 667, 668, 669, 670, 671, 672, 673, 734, 735, 736, 737, 738, 739, 740, 741, 742, 743, 744, 745, 746, 747, 748, 749, 750, 751, 752, 753, 754, 765, 766, 767, 768, 769, 770, 771, 772, 773, 774, 775, 776] (by decide +kernel) (by decide +kernel)) (goodIn_sub (fun _ h => List.mem_append_left _ (List.mem_append_right _ h)) (by decide +kernel))) (goodIn_sub (fun _ h => List.mem_append_right _ h) (by decide +kernel))) (goodIn_sub (fun _ h => List.mem_append_left _ (List.mem_append_left _ (List.mem_append_left _ (List.mem_append_right _ h)))) (by decide +kernel))) (goodIn_sub (fun _ h => List.mem_append_left _ (List.mem_append_left _ (List.mem_append_right _ h))) (by decide +kernel))
set_option maxRecDepth 20000 in
theorem gL_law_L_work : GoodIn wsL_law (va_wsS RL 50 yL_work wsL_work) := goodIn_app (goodIn_of _ (by decide +kernel)) ggL_law_L_work
set_option maxRecDepth 20000 in
theorem ggL_law_X10_work : GoodIn wsL_law wsX10_work := goodIn_r _ [377, 197, 114, 378, 379, 380, 381, 382, 383, 384, 385, 386, 206, 207, 208, 5, 209, 198, 199, 200, 201, 213, 214, 215, 216, 387, 388, 389, 390, 391, 392, 393, 394, 395, 396, 397, 126, 398, 399, 400, 401, 108, 109, 117, 115, 116, 402, 403, 404, 405, 406, 407, 408, 409, 118, 119, 410, 411, 412, 413, 414, 415, 416, 417, 120, 121, 122, 123, 124, 125, 418, 419, 420, 421, 110, 111, 422, 423, 424, 425, 674, 675, 676, 677, 678, 679, 680, 681, 682, 683, 684, 685, 686, 687, 688, 689, 690, 691, 692, 693, 694, 695, 696, 697, 698, 699, 700, 701, 702, 703, 704, 705, 706, 707, 708, 709, 710, 711, 712, 713, 714, 715, 716, 717, 718, 719, 720, 721, 722, 723, 724, 725, 726, 727, 728, 729, 730, 731, 732, 733] (by decide +kernel) (by decide +kernel)
set_option maxRecDepth 20000 in
theorem gL_law_X10_work : GoodIn wsL_law (wsV RL 53 RX10 yX10_work wsX10_work) := goodIn_app (goodIn_of _ (by decide +kernel)) ggL_law_X10_work
set_option maxRecDepth 20000 in
theorem ggL_law_X9_value : GoodIn wsL_law wsX9_value := goodIn_r _ [429, 357, 662, 663, 664, 665, 666, 667, 668, 669, 670, 671, 672, 673] (by decide +kernel) (by decide +kernel)
set_option maxRecDepth 20000 in
theorem gL_law_X9_value : GoodIn wsL_law (wsV RL 54 RX9 yX9_value wsX9_value) := goodIn_app (goodIn_of _ (by decide +kernel)) ggL_law_X9_value
set_option maxRecDepth 20000 in
theorem ggL_law_X10_value : GoodIn wsL_law wsX10_value := goodIn_r _ [433, 197, 385, 381, 383, 674, 675, 676, 677, 678, 679, 680, 681, 682, 683, 684, 685, 686, 687, 688, 689, 690, 691, 692, 693, 694, 695, 696, 697, 698, 699, 700, 701, 702, 703, 704, 705, 706, 707, 708, 709, 710, 711, 712, 713, 714, 715, 716, 717, 718, 719, 720, 721, 722, 723, 724, 725, 726, 727, 728, 729, 730, 731, 732, 733] (by decide +kernel) (by decide +kernel)
set_option maxRecDepth 20000 in
theorem gL_law_X10_value : GoodIn wsL_law (wsV RL 57 RX10 yX10_value wsX10_value) := goodIn_app (goodIn_of _ (by decide +kernel)) ggL_law_X10_value
set_option maxRecDepth 20000 in
theorem ggL_law_X9_steps : GoodIn wsL_law wsX9_steps := goodIn_r _ [437, 359, 662, 663, 664, 665, 666, 667, 668, 669, 670, 671, 672, 673] (by decide +kernel) (by decide +kernel)
set_option maxRecDepth 20000 in
theorem gL_law_X9_steps : GoodIn wsL_law (wsV RL 58 RX9 yX9_steps wsX9_steps) := goodIn_app (goodIn_of _ (by decide +kernel)) ggL_law_X9_steps
set_option maxRecDepth 20000 in
theorem ggL_law_X10_steps : GoodIn wsL_law wsX10_steps := goodIn_r _ [441, 197, 384, 674, 675, 676, 677, 678, 679, 680, 681, 682, 683, 684, 685, 686, 687, 688, 689, 690, 691, 692, 693, 694, 695, 696, 697, 698, 699, 700, 701, 702, 703, 704, 705, 706, 707, 708, 709, 710, 711, 712, 713, 714, 715, 716, 717, 718, 719, 720, 721, 722, 723, 724, 725, 726, 727, 728, 729, 730, 731, 732, 733] (by decide +kernel) (by decide +kernel)
end
section
set_option maxRecDepth 20000 in
theorem gL_law_X10_steps : GoodIn wsL_law (wsV RL 61 RX10 yX10_steps wsX10_steps) := goodIn_app (goodIn_of _ (by decide +kernel)) ggL_law_X10_steps
set_option maxRecDepth 20000 in
theorem ggL_law_L_type : GoodIn wsL_law wsL_type := goodIn_ca (goodIn_ca (goodIn_r _ [444, 234, 148, 445, 446, 447, 2, 448, 239, 240, 154, 155, 16, 24, 449, 450, 28, 451, 259, 260, 261, 15, 262, 37, 163, 164, 165, 166, 167, 452, 453, 454, 23, 455, 83, 456, 457, 458, 459, 82, 460, 461, 462, 463, 464, 465, 90, 91, 94, 95, 466, 467, 468, 469, 470, 471, 472, 473, 86, 474, 475, 476, 477, 478, 479, 480, 93, 481, 482, 483, 484, 485, 486, 487, 488, 489, 490, 491, 492, 92, 493, 494, 495, 496, 85, 84, 497, 498, 499, 500, 501, 502, 503, 504, 505, 506, 507, 508, 509, 510, 511, 512, 513, 514, 515, 516, 517, 518, 519, 520, 521, 522, 523, 524, 525, 526, 527, 528, 529, 530, 531, 532, 533, 534, 535, 536, 537, 538, 539, 540, 541, 542, 96, 543, 544, 545, 546, 547, 548, 549, 27, 550, 103, 551, 100, 102, 552, 553, 554, 555, 556, 557, 558, 559, 560, 561, 101, 562, 563, 564, 565, 566, 662, 663, 664, 665, 666, 667, 668, 669, 670, 671, 672, 673, 755, 756, 757, 758, 759, 734, 735, 736, 737, 738, 739, 740, 741, 777, 778, 779, 780, 781, 782, 783, 784, 785, 760, 761, 762, 763, 764] (by decide +kernel) (by decide +kernel)) (goodIn_sub (fun _ h => List.mem_append_left _ (List.mem_append_right _ h)) (by decide +kernel))) (goodIn_sub (fun _ h => List.mem_append_left _ (List.mem_append_left _ (List.mem_append_left _ (List.mem_append_right _ h)))) (by decide +kernel))
set_option maxRecDepth 20000 in
theorem gL_law_L_type : GoodIn wsL_law (va_wsS RL 62 yL_type wsL_type) := goodIn_app (goodIn_of _ (by decide +kernel)) ggL_law_L_type
set_option maxRecDepth 20000 in
theorem ggL_law_X10_type : GoodIn wsL_law wsX10_type := goodIn_r _ [570, 197, 114, 571, 572, 573, 574, 575, 576, 131, 577, 127, 206, 207, 208, 5, 209, 198, 199, 200, 201, 213, 214, 215, 216, 578, 579, 580, 581, 582, 583, 584, 585, 128, 586, 587, 588, 589, 136, 137, 138, 139, 140, 590, 591, 592, 593, 108, 109, 594, 595, 596, 597, 133, 129, 598, 599, 600, 601, 602, 603, 604, 605, 135, 132, 606, 607, 608, 609, 143, 142, 141, 610, 611, 612, 613, 614, 615, 616, 617, 618, 619, 620, 621, 622, 623, 624, 625, 110, 111, 626, 627, 628, 629, 630, 631, 632, 633, 130, 674, 675, 676, 677, 678, 679, 680, 681, 682, 683, 684, 685, 686, 687, 688, 689, 690, 691, 692, 693, 694, 695, 696, 697, 698, 699, 700, 701, 702, 703, 704, 705, 706, 707, 708, 709, 710, 711, 712, 713, 714, 715, 716, 717, 718, 719, 720, 721, 722, 723, 724, 725, 726, 727, 728, 729, 730, 731, 732, 733] (by decide +kernel) (by decide +kernel)
set_option maxRecDepth 20000 in
theorem gL_law_X10_type : GoodIn wsL_law (wsV RL 64 RX10 yX10_type wsX10_type) := goodIn_app (goodIn_of _ (by decide +kernel)) ggL_law_X10_type
set_option maxRecDepth 20000 in
theorem ggL_law_X9_part : GoodIn wsL_law wsX9_part := goodIn_r _ [637, 28, 563, 564, 565, 27, 566, 103, 100, 101, 662, 663, 664, 665, 666, 667, 668, 669, 670, 671, 672, 673, 760, 761, 762, 763, 764] (by decide +kernel) (by decide +kernel)
set_option maxRecDepth 20000 in
theorem gL_law_X9_part : GoodIn wsL_law (wsV RL 65 RX9 yX9_part wsX9_part) := goodIn_app (goodIn_of _ (by decide +kernel)) ggL_law_X9_part
set_option maxRecDepth 20000 in
theorem ggL_law_X10_part : GoodIn wsL_law wsX10_part := goodIn_r _ [641, 197, 131, 127, 129, 130, 199, 200, 5, 201, 598, 599, 600, 601, 128, 642, 643, 644, 674, 675, 676, 677, 678, 679, 680, 681, 682, 683, 684, 685, 686, 687, 688, 689, 690, 691, 692, 693, 694, 695, 696, 697, 698, 699, 700, 701, 702, 703, 704, 705, 706, 707, 708, 709, 710, 711, 712, 713, 714, 715, 716, 717, 718, 719, 720, 721, 722, 723, 724, 725, 726, 727, 728, 729, 730, 731, 732, 733] (by decide +kernel) (by decide +kernel)
set_option maxRecDepth 20000 in
theorem gL_law_X10_part : GoodIn wsL_law (wsV RL 68 RX10 yX10_part wsX10_part) := goodIn_app (goodIn_of _ (by decide +kernel)) ggL_law_X10_part
set_option maxRecDepth 20000 in
theorem ggL_law_X9_count : GoodIn wsL_law wsX9_count := goodIn_r _ [648, 16, 649, 361, 257, 258, 450, 449, 662, 663, 664, 665, 666, 667, 668, 669, 670, 671, 672, 673, 734, 735, 736, 737, 738, 739, 740, 741] (by decide +kernel) (by decide +kernel)
set_option maxRecDepth 20000 in
theorem gL_law_X9_count : GoodIn wsL_law (wsV RL 69 RX9 yX9_count wsX9_count) := goodIn_app (goodIn_of _ (by decide +kernel)) ggL_law_X9_count
end
section
set_option maxRecDepth 20000 in
theorem ggL_law_X10_count : GoodIn wsL_law wsX10_count := goodIn_r _ [653, 197, 198, 385, 378, 379, 577, 575, 674, 675, 676, 677, 678, 679, 680, 681, 682, 683, 684, 685, 686, 687, 688, 689, 690, 691, 692, 693, 694, 695, 696, 697, 698, 699, 700, 701, 702, 703, 704, 705, 706, 707, 708, 709, 710, 711, 712, 713, 714, 715, 716, 717, 718, 719, 720, 721, 722, 723, 724, 725, 726, 727, 728, 729, 730, 731, 732, 733] (by decide +kernel) (by decide +kernel)
set_option maxRecDepth 20000 in
theorem gL_law_X10_count : GoodIn wsL_law (wsV RL 72 RX10 yX10_count wsX10_count) := goodIn_app (goodIn_of _ (by decide +kernel)) ggL_law_X10_count
set_option maxRecDepth 20000 in
theorem ggL_law_X9_mean : GoodIn wsL_law wsX9_mean := goodIn_r _ [657, 361, 360, 662, 663, 664, 665, 666, 667, 668, 669, 670, 671, 672, 673] (by decide +kernel) (by decide +kernel)
set_option maxRecDepth 20000 in
theorem gL_law_X9_mean : GoodIn wsL_law (wsV RL 73 RX9 yX9_mean wsX9_mean) := goodIn_app (goodIn_of _ (by decide +kernel)) ggL_law_X9_mean
set_option maxRecDepth 20000 in
theorem ggL_law_X10_mean : GoodIn wsL_law wsX10_mean := goodIn_r _ [661, 197, 385, 386, 674, 675, 676, 677, 678, 679, 680, 681, 682, 683, 684, 685, 686, 687, 688, 689, 690, 691, 692, 693, 694, 695, 696, 697, 698, 699, 700, 701, 702, 703, 704, 705, 706, 707, 708, 709, 710, 711, 712, 713, 714, 715, 716, 717, 718, 719, 720, 721, 722, 723, 724, 725, 726, 727, 728, 729, 730, 731, 732, 733] (by decide +kernel) (by decide +kernel)
set_option maxRecDepth 20000 in
theorem gL_law_X10_mean : GoodIn wsL_law (wsV RL 77 RX10 yX10_mean wsX10_mean) := goodIn_app (goodIn_of _ (by decide +kernel)) ggL_law_X10_mean
end
section
set_option maxRecDepth 20000 in
theorem wsL_law_in0 : ∀ w ∈ wsL_law0, w ∈ lw_tbl := fun w h => (goodIn_p wsL_law0 [80, 83, 88, 130, 136, 158, 174, 241, 247, 299, 748, 386, 390, 396, 464, 468, 471, 475, 494, 498, 939, 942, 946, 950, 953, 957, 960, 963, 967, 935, 508, 971, 532, 536, 555, 559, 563, 567, 571, 575, 579, 583, 587, 591, 595, 599, 603, 607, 611, 615, 619, 623, 627, 631, 634, 975, 979, 983, 987, 991, 995, 999, 1003, 1007, 357, 1011, 361, 1015, 642, 646, 650, 654, 658, 662, 666, 670, 674, 678, 682, 686, 698, 690, 694, 706, 710, 702, 718, 714, 722, 726, 730, 734, 738, 742, 369, 1019, 1023, 1027, 1031, 1035, 1039, 1043, 1047, 1051, 1055, 1059, 1063, 1067, 1071, 1075, 365, 1079, 1082, 373, 1086, 377, 1090] (by decide +kernel) (by decide +kernel) w h).1
theorem wsL_law_x0 : ∀ w ∈ (vx_at0 RX9 45 "java/lang/IllegalArgumentException" ["java/lang/RuntimeException", "java/lang/Exception"]).filter goodWord, w ∈ lw_tbl := by decide +kernel
theorem wsL_law_x1 : ∀ w ∈ (vx_at0 RX9 51 "java/lang/IllegalStateException" ["java/lang/RuntimeException", "java/lang/Exception"]).filter goodWord, w ∈ lw_tbl := by decide +kernel
theorem wsL_law_x2 : ∀ w ∈ (vx_at0 RX9 62 "java/util/NoSuchElementException" ["java/lang/RuntimeException", "java/lang/Exception"]).filter goodWord, w ∈ lw_tbl := by decide +kernel
theorem wsL_law_x3 : ∀ w ∈ (vx_at0 RX9 72 "java/lang/IndexOutOfBoundsException" ["java/lang/RuntimeException", "java/lang/Exception"]).filter goodWord, w ∈ lw_tbl := by decide +kernel
theorem wsL_law_in : ∀ w ∈ wsL_law, w ∈ lw_tbl := fun w h => (List.mem_append.mp h).elim (fun h => (List.mem_append.mp h).elim (fun h => (List.mem_append.mp h).elim (fun h => (List.mem_append.mp h).elim (fun h => wsL_law_in0 w h) (fun h => wsL_law_x0 w h)) (fun h => wsL_law_x1 w h)) (fun h => wsL_law_x2 w h)) (fun h => wsL_law_x3 w h)
theorem inX0 : ∀ w ∈ wsX00, w ∈ lw_tbl := by decide +kernel
theorem inX1 : ∀ w ∈ wsX10, w ∈ lw_tbl := fun w h => wsL_law_in w (inlX1 w h)
theorem inX2 : ∀ w ∈ wsX20, w ∈ lw_tbl := fun w h => wsL_law_in w (inlX2 w h)
theorem inX3 : ∀ w ∈ wsX30, w ∈ lw_tbl := fun w h => wsL_law_in w (inlX3 w h)
theorem inX4 : ∀ w ∈ wsX40, w ∈ lw_tbl := fun w h => wsL_law_in w (inlX4 w h)
theorem inX5 : ∀ w ∈ wsX50, w ∈ lw_tbl := fun w h => wsL_law_in w (inlX5 w h)
theorem inX6 : ∀ w ∈ wsX60, w ∈ lw_tbl := fun w h => wsL_law_in w (inlX6 w h)
theorem inX7 : ∀ w ∈ wsX70, w ∈ lw_tbl := fun w h => wsL_law_in w (inlX7 w h)
theorem inX8 : ∀ w ∈ wsX80, w ∈ lw_tbl := fun w h => wsL_law_in w (inlX8 w h)
theorem inX9 : ∀ w ∈ wsX90, w ∈ lw_tbl := fun w h => wsL_law_in w (inlX9 w h)
theorem inX10 : ∀ w ∈ wsX100, w ∈ lw_tbl := fun w h => wsL_law_in w (inlX10 w h)
theorem inJ9 : ∀ w ∈ wsJ90, w ∈ lw_tbl := by decide +kernel
theorem inJ7 : ∀ w ∈ wsJ70, w ∈ lw_tbl := by decide +kernel
end
