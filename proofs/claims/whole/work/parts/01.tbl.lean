-- ===== PART A: goes FIRST, ahead of the names: the tables' words, and 'selects' of the private methods out of them =====
/-- a private method of a class that the tables say can be made, by its rows of tables_1 -/
def lw_okq (q : MethodName × Nat) : Prop := (q.1.cls ≠ "java/lang/invoke/MethodHandle" ∧ q.1.cls ≠ "java/lang/invoke/VarHandle") ∧ Cond.instantiable q.1.cls q.2 ∈ tables_1 ∧ Cond.privateMethod q.1 ∈ tables_1 ∧ Cond.instanceMethod q.1 ∈ tables_1
theorem lw_p0 : lw_okq (⟨"HiredToWait", "refuse", "(I)I"⟩, 9) := ⟨⟨by decide +kernel, by decide +kernel⟩, List.mem_of_getElem? (i := 18) (by decide +kernel), List.mem_of_getElem? (i := 270) (by decide +kernel), List.mem_of_getElem? (i := 271) (by decide +kernel)⟩
theorem lw_p1 : lw_okq (⟨"HiredToWait", "rowRefusal", "(I)I"⟩, 9) := ⟨⟨by decide +kernel, by decide +kernel⟩, List.mem_of_getElem? (i := 18) (by decide +kernel), List.mem_of_getElem? (i := 282) (by decide +kernel), List.mem_of_getElem? (i := 283) (by decide +kernel)⟩
theorem lw_p2 : lw_okq (⟨"HiredToWait$Shelf", "lowestBits", "(J)J"⟩, 3) := ⟨⟨by decide +kernel, by decide +kernel⟩, List.mem_of_getElem? (i := 211) (by decide +kernel), List.mem_of_getElem? (i := 299) (by decide +kernel), List.mem_of_getElem? (i := 300) (by decide +kernel)⟩
theorem lw_p3 : lw_okq (⟨"HiredToWait", "twoRowsRefusal", "(II)I"⟩, 9) := ⟨⟨by decide +kernel, by decide +kernel⟩, List.mem_of_getElem? (i := 18) (by decide +kernel), List.mem_of_getElem? (i := 307) (by decide +kernel), List.mem_of_getElem? (i := 308) (by decide +kernel)⟩
theorem lw_p4 : lw_okq (⟨"HiredToWait$Waiter", "wouldHold", "(I)I"⟩, 6) := ⟨⟨by decide +kernel, by decide +kernel⟩, List.mem_of_getElem? (i := 72) (by decide +kernel), List.mem_of_getElem? (i := 427) (by decide +kernel), List.mem_of_getElem? (i := 428) (by decide +kernel)⟩
theorem lw_p5 : lw_okq (⟨"HiredToWait$Waiter", "masterWage", "(I)I"⟩, 6) := ⟨⟨by decide +kernel, by decide +kernel⟩, List.mem_of_getElem? (i := 72) (by decide +kernel), List.mem_of_getElem? (i := 449) (by decide +kernel), List.mem_of_getElem? (i := 450) (by decide +kernel)⟩
theorem lw_p6 : lw_okq (⟨"HiredToWait$Waiter", "loverWage", "(I)I"⟩, 6) := ⟨⟨by decide +kernel, by decide +kernel⟩, List.mem_of_getElem? (i := 72) (by decide +kernel), List.mem_of_getElem? (i := 453) (by decide +kernel), List.mem_of_getElem? (i := 454) (by decide +kernel)⟩
theorem lw_p7 : lw_okq (⟨"HiredToWait$GuildText", "readItem", "()V"⟩, 6) := ⟨⟨by decide +kernel, by decide +kernel⟩, List.mem_of_getElem? (i := 154) (by decide +kernel), List.mem_of_getElem? (i := 482) (by decide +kernel), List.mem_of_getElem? (i := 483) (by decide +kernel)⟩
theorem lw_p8 : lw_okq (⟨"HiredToWait$GuildText", "letter", "()I"⟩, 6) := ⟨⟨by decide +kernel, by decide +kernel⟩, List.mem_of_getElem? (i := 154) (by decide +kernel), List.mem_of_getElem? (i := 486) (by decide +kernel), List.mem_of_getElem? (i := 487) (by decide +kernel)⟩
theorem lw_p9 : lw_okq (⟨"HiredToWait$GuildText", "readThing", "()V"⟩, 6) := ⟨⟨by decide +kernel, by decide +kernel⟩, List.mem_of_getElem? (i := 154) (by decide +kernel), List.mem_of_getElem? (i := 490) (by decide +kernel), List.mem_of_getElem? (i := 491) (by decide +kernel)⟩
theorem lw_p10 : lw_okq (⟨"HiredToWait$GuildText", "readWord", "(Ljava/lang/String;Z)V"⟩, 6) := ⟨⟨by decide +kernel, by decide +kernel⟩, List.mem_of_getElem? (i := 154) (by decide +kernel), List.mem_of_getElem? (i := 496) (by decide +kernel), List.mem_of_getElem? (i := 497) (by decide +kernel)⟩
theorem lw_p11 : lw_okq (⟨"HiredToWait$GuildText", "readSign", "(I)V"⟩, 6) := ⟨⟨by decide +kernel, by decide +kernel⟩, List.mem_of_getElem? (i := 154) (by decide +kernel), List.mem_of_getElem? (i := 548) (by decide +kernel), List.mem_of_getElem? (i := 549) (by decide +kernel)⟩
theorem lw_p12 : lw_okq (⟨"HiredToWait$GuildText", "failAt", "(I)I"⟩, 6) := ⟨⟨by decide +kernel, by decide +kernel⟩, List.mem_of_getElem? (i := 154) (by decide +kernel), List.mem_of_getElem? (i := 552) (by decide +kernel), List.mem_of_getElem? (i := 553) (by decide +kernel)⟩
theorem lw_p13 : lw_okq (⟨"HiredToWait$GuildText", "readNumber", "(II)I"⟩, 6) := ⟨⟨by decide +kernel, by decide +kernel⟩, List.mem_of_getElem? (i := 154) (by decide +kernel), List.mem_of_getElem? (i := 556) (by decide +kernel), List.mem_of_getElem? (i := 557) (by decide +kernel)⟩
theorem lw_p14 : lw_okq (⟨"HiredToWait$GuildText", "isAtDigit", "()Z"⟩, 6) := ⟨⟨by decide +kernel, by decide +kernel⟩, List.mem_of_getElem? (i := 154) (by decide +kernel), List.mem_of_getElem? (i := 560) (by decide +kernel), List.mem_of_getElem? (i := 561) (by decide +kernel)⟩
theorem lw_p15 : lw_okq (⟨"HiredToWait$GuildText", "readDigit", "()I"⟩, 6) := ⟨⟨by decide +kernel, by decide +kernel⟩, List.mem_of_getElem? (i := 154) (by decide +kernel), List.mem_of_getElem? (i := 565) (by decide +kernel), List.mem_of_getElem? (i := 566) (by decide +kernel)⟩
def lw_privs_1 : List (MethodName × Nat) := [(⟨"HiredToWait", "refuse", "(I)I"⟩, 9), (⟨"HiredToWait", "rowRefusal", "(I)I"⟩, 9), (⟨"HiredToWait$Shelf", "lowestBits", "(J)J"⟩, 3), (⟨"HiredToWait", "twoRowsRefusal", "(II)I"⟩, 9), (⟨"HiredToWait$Waiter", "wouldHold", "(I)I"⟩, 6), (⟨"HiredToWait$Waiter", "masterWage", "(I)I"⟩, 6), (⟨"HiredToWait$Waiter", "loverWage", "(I)I"⟩, 6), (⟨"HiredToWait$GuildText", "readItem", "()V"⟩, 6), (⟨"HiredToWait$GuildText", "letter", "()I"⟩, 6), (⟨"HiredToWait$GuildText", "readThing", "()V"⟩, 6), (⟨"HiredToWait$GuildText", "readWord", "(Ljava/lang/String;Z)V"⟩, 6), (⟨"HiredToWait$GuildText", "readSign", "(I)V"⟩, 6), (⟨"HiredToWait$GuildText", "failAt", "(I)I"⟩, 6), (⟨"HiredToWait$GuildText", "readNumber", "(II)I"⟩, 6), (⟨"HiredToWait$GuildText", "isAtDigit", "()Z"⟩, 6), (⟨"HiredToWait$GuildText", "readDigit", "()I"⟩, 6)]
theorem lw_r1 : ∀ q ∈ lw_privs_1, lw_okq q := List.forall_mem_cons.mpr ⟨lw_p0, List.forall_mem_cons.mpr ⟨lw_p1, List.forall_mem_cons.mpr ⟨lw_p2, List.forall_mem_cons.mpr ⟨lw_p3, List.forall_mem_cons.mpr ⟨lw_p4, List.forall_mem_cons.mpr ⟨lw_p5, List.forall_mem_cons.mpr ⟨lw_p6, List.forall_mem_cons.mpr ⟨lw_p7, List.forall_mem_cons.mpr ⟨lw_p8, List.forall_mem_cons.mpr ⟨lw_p9, List.forall_mem_cons.mpr ⟨lw_p10, List.forall_mem_cons.mpr ⟨lw_p11, List.forall_mem_cons.mpr ⟨lw_p12, List.forall_mem_cons.mpr ⟨lw_p13, List.forall_mem_cons.mpr ⟨lw_p14, List.forall_mem_cons.mpr ⟨lw_p15, fun _ h => absurd h List.not_mem_nil⟩⟩⟩⟩⟩⟩⟩⟩⟩⟩⟩⟩⟩⟩⟩⟩
theorem lw_p16 : lw_okq (⟨"HiredToWait$GuildText", "readWaiter", "()V"⟩, 6) := ⟨⟨by decide +kernel, by decide +kernel⟩, List.mem_of_getElem? (i := 154) (by decide +kernel), List.mem_of_getElem? (i := 570) (by decide +kernel), List.mem_of_getElem? (i := 571) (by decide +kernel)⟩
theorem lw_p17 : lw_okq (⟨"HiredToWait$GuildText", "readMoves", "()V"⟩, 6) := ⟨⟨by decide +kernel, by decide +kernel⟩, List.mem_of_getElem? (i := 154) (by decide +kernel), List.mem_of_getElem? (i := 577) (by decide +kernel), List.mem_of_getElem? (i := 578) (by decide +kernel)⟩
theorem lw_p18 : lw_okq (⟨"HiredToWait$GuildText", "readHope", "()V"⟩, 6) := ⟨⟨by decide +kernel, by decide +kernel⟩, List.mem_of_getElem? (i := 154) (by decide +kernel), List.mem_of_getElem? (i := 583) (by decide +kernel), List.mem_of_getElem? (i := 584) (by decide +kernel)⟩
theorem lw_p19 : lw_okq (⟨"HiredToWait", "refuseApart", "(I)I"⟩, 9) := ⟨⟨by decide +kernel, by decide +kernel⟩, List.mem_of_getElem? (i := 18) (by decide +kernel), List.mem_of_getElem? (i := 611) (by decide +kernel), List.mem_of_getElem? (i := 612) (by decide +kernel)⟩
theorem lw_p20 : lw_okq (⟨"HiredToWait$Rota", "firstBest", "(LHiredToWait$Guild;II)I"⟩, 2) := ⟨⟨by decide +kernel, by decide +kernel⟩, List.mem_of_getElem? (i := 183) (by decide +kernel), List.mem_of_getElem? (i := 670) (by decide +kernel), List.mem_of_getElem? (i := 671) (by decide +kernel)⟩
theorem lw_p21 : lw_okq (⟨"HiredToWait$Rota", "payWith", "(LHiredToWait$Guild;III)I"⟩, 2) := ⟨⟨by decide +kernel, by decide +kernel⟩, List.mem_of_getElem? (i := 183) (by decide +kernel), List.mem_of_getElem? (i := 675) (by decide +kernel), List.mem_of_getElem? (i := 676) (by decide +kernel)⟩
theorem lw_p22 : lw_okq (⟨"HiredToWait$Guild", "seenFromPosts", "(I)I"⟩, 10) := ⟨⟨by decide +kernel, by decide +kernel⟩, List.mem_of_getElem? (i := 28) (by decide +kernel), List.mem_of_getElem? (i := 703) (by decide +kernel), List.mem_of_getElem? (i := 704) (by decide +kernel)⟩
theorem lw_p23 : lw_okq (⟨"HiredToWait$Guild", "worthOf", "(I)I"⟩, 10) := ⟨⟨by decide +kernel, by decide +kernel⟩, List.mem_of_getElem? (i := 28) (by decide +kernel), List.mem_of_getElem? (i := 717) (by decide +kernel), List.mem_of_getElem? (i := 718) (by decide +kernel)⟩
theorem lw_p24 : lw_okq (⟨"HiredToWait$Guild", "worthiestInNeed", "(I)I"⟩, 10) := ⟨⟨by decide +kernel, by decide +kernel⟩, List.mem_of_getElem? (i := 28) (by decide +kernel), List.mem_of_getElem? (i := 737) (by decide +kernel), List.mem_of_getElem? (i := 738) (by decide +kernel)⟩
theorem lw_p25 : lw_okq (⟨"HiredToWait", "toldRefusal", "(IIIZ)I"⟩, 9) := ⟨⟨by decide +kernel, by decide +kernel⟩, List.mem_of_getElem? (i := 18) (by decide +kernel), List.mem_of_getElem? (i := 755) (by decide +kernel), List.mem_of_getElem? (i := 756) (by decide +kernel)⟩
theorem lw_p26 : lw_okq (⟨"HiredToWait", "firstWrong", "(LHiredToWait$Shelf;I)I"⟩, 9) := ⟨⟨by decide +kernel, by decide +kernel⟩, List.mem_of_getElem? (i := 18) (by decide +kernel), List.mem_of_getElem? (i := 782) (by decide +kernel), List.mem_of_getElem? (i := 783) (by decide +kernel)⟩
theorem lw_p27 : lw_okq (⟨"HiredToWait", "dayRefusal", "(IIZ)I"⟩, 9) := ⟨⟨by decide +kernel, by decide +kernel⟩, List.mem_of_getElem? (i := 18) (by decide +kernel), List.mem_of_getElem? (i := 800) (by decide +kernel), List.mem_of_getElem? (i := 801) (by decide +kernel)⟩
theorem lw_p28 : lw_okq (⟨"HiredToWait$Guild", "draw", "(I)I"⟩, 10) := ⟨⟨by decide +kernel, by decide +kernel⟩, List.mem_of_getElem? (i := 28) (by decide +kernel), List.mem_of_getElem? (i := 825) (by decide +kernel), List.mem_of_getElem? (i := 826) (by decide +kernel)⟩
theorem lw_p29 : lw_okq (⟨"HiredToWait$Bodies", "run", "(LHiredToWait$Waiter;IIII)I"⟩, 2) := ⟨⟨by decide +kernel, by decide +kernel⟩, List.mem_of_getElem? (i := 198) (by decide +kernel), List.mem_of_getElem? (i := 846) (by decide +kernel), List.mem_of_getElem? (i := 847) (by decide +kernel)⟩
theorem lw_p30 : lw_okq (⟨"HiredToWait$Bodies", "begin", "(I)V"⟩, 2) := ⟨⟨by decide +kernel, by decide +kernel⟩, List.mem_of_getElem? (i := 198) (by decide +kernel), List.mem_of_getElem? (i := 861) (by decide +kernel), List.mem_of_getElem? (i := 862) (by decide +kernel)⟩
theorem lw_p31 : lw_okq (⟨"HiredToWait$Bodies", "answerOf", "(ILHiredToWait$Waiter;III)I"⟩, 2) := ⟨⟨by decide +kernel, by decide +kernel⟩, List.mem_of_getElem? (i := 198) (by decide +kernel), List.mem_of_getElem? (i := 865) (by decide +kernel), List.mem_of_getElem? (i := 866) (by decide +kernel)⟩
def lw_privs_2 : List (MethodName × Nat) := [(⟨"HiredToWait$GuildText", "readWaiter", "()V"⟩, 6), (⟨"HiredToWait$GuildText", "readMoves", "()V"⟩, 6), (⟨"HiredToWait$GuildText", "readHope", "()V"⟩, 6), (⟨"HiredToWait", "refuseApart", "(I)I"⟩, 9), (⟨"HiredToWait$Rota", "firstBest", "(LHiredToWait$Guild;II)I"⟩, 2), (⟨"HiredToWait$Rota", "payWith", "(LHiredToWait$Guild;III)I"⟩, 2), (⟨"HiredToWait$Guild", "seenFromPosts", "(I)I"⟩, 10), (⟨"HiredToWait$Guild", "worthOf", "(I)I"⟩, 10), (⟨"HiredToWait$Guild", "worthiestInNeed", "(I)I"⟩, 10), (⟨"HiredToWait", "toldRefusal", "(IIIZ)I"⟩, 9), (⟨"HiredToWait", "firstWrong", "(LHiredToWait$Shelf;I)I"⟩, 9), (⟨"HiredToWait", "dayRefusal", "(IIZ)I"⟩, 9), (⟨"HiredToWait$Guild", "draw", "(I)I"⟩, 10), (⟨"HiredToWait$Bodies", "run", "(LHiredToWait$Waiter;IIII)I"⟩, 2), (⟨"HiredToWait$Bodies", "begin", "(I)V"⟩, 2), (⟨"HiredToWait$Bodies", "answerOf", "(ILHiredToWait$Waiter;III)I"⟩, 2)]
theorem lw_r2 : ∀ q ∈ lw_privs_2, lw_okq q := List.forall_mem_cons.mpr ⟨lw_p16, List.forall_mem_cons.mpr ⟨lw_p17, List.forall_mem_cons.mpr ⟨lw_p18, List.forall_mem_cons.mpr ⟨lw_p19, List.forall_mem_cons.mpr ⟨lw_p20, List.forall_mem_cons.mpr ⟨lw_p21, List.forall_mem_cons.mpr ⟨lw_p22, List.forall_mem_cons.mpr ⟨lw_p23, List.forall_mem_cons.mpr ⟨lw_p24, List.forall_mem_cons.mpr ⟨lw_p25, List.forall_mem_cons.mpr ⟨lw_p26, List.forall_mem_cons.mpr ⟨lw_p27, List.forall_mem_cons.mpr ⟨lw_p28, List.forall_mem_cons.mpr ⟨lw_p29, List.forall_mem_cons.mpr ⟨lw_p30, List.forall_mem_cons.mpr ⟨lw_p31, fun _ h => absurd h List.not_mem_nil⟩⟩⟩⟩⟩⟩⟩⟩⟩⟩⟩⟩⟩⟩⟩⟩
theorem lw_p32 : lw_okq (⟨"HiredToWaitModel", "isShelf", "(I)Z"⟩, 47) := ⟨⟨by decide +kernel, by decide +kernel⟩, List.mem_of_getElem? (i := 889) (by decide +kernel), List.mem_of_getElem? (i := 1041) (by decide +kernel), List.mem_of_getElem? (i := 1042) (by decide +kernel)⟩
theorem lw_p33 : lw_okq (⟨"HiredToWaitModel", "no", "(I)I"⟩, 47) := ⟨⟨by decide +kernel, by decide +kernel⟩, List.mem_of_getElem? (i := 889) (by decide +kernel), List.mem_of_getElem? (i := 1045) (by decide +kernel), List.mem_of_getElem? (i := 1046) (by decide +kernel)⟩
theorem lw_p34 : lw_okq (⟨"HiredToWaitModel", "isWaiter", "(I)Z"⟩, 47) := ⟨⟨by decide +kernel, by decide +kernel⟩, List.mem_of_getElem? (i := 889) (by decide +kernel), List.mem_of_getElem? (i := 1065) (by decide +kernel), List.mem_of_getElem? (i := 1066) (by decide +kernel)⟩
theorem lw_p35 : lw_okq (⟨"HiredToWaitModel", "isFrom", "(III)Z"⟩, 47) := ⟨⟨by decide +kernel, by decide +kernel⟩, List.mem_of_getElem? (i := 889) (by decide +kernel), List.mem_of_getElem? (i := 1081) (by decide +kernel), List.mem_of_getElem? (i := 1082) (by decide +kernel)⟩
theorem lw_p36 : lw_okq (⟨"HiredToWaitModel", "addsThing", "(IIIIIII)I"⟩, 47) := ⟨⟨by decide +kernel, by decide +kernel⟩, List.mem_of_getElem? (i := 889) (by decide +kernel), List.mem_of_getElem? (i := 1085) (by decide +kernel), List.mem_of_getElem? (i := 1086) (by decide +kernel)⟩
theorem lw_p37 : lw_okq (⟨"HiredToWaitModel", "addsWaiter", "(IIIII)I"⟩, 47) := ⟨⟨by decide +kernel, by decide +kernel⟩, List.mem_of_getElem? (i := 889) (by decide +kernel), List.mem_of_getElem? (i := 1093) (by decide +kernel), List.mem_of_getElem? (i := 1094) (by decide +kernel)⟩
theorem lw_p38 : lw_okq (⟨"HiredToWaitModel", "isThing", "(I)Z"⟩, 47) := ⟨⟨by decide +kernel, by decide +kernel⟩, List.mem_of_getElem? (i := 889) (by decide +kernel), List.mem_of_getElem? (i := 1109) (by decide +kernel), List.mem_of_getElem? (i := 1110) (by decide +kernel)⟩
theorem lw_p39 : lw_okq (⟨"HiredToWaitModel", "cases", "(I)I"⟩, 47) := ⟨⟨by decide +kernel, by decide +kernel⟩, List.mem_of_getElem? (i := 889) (by decide +kernel), List.mem_of_getElem? (i := 1113) (by decide +kernel), List.mem_of_getElem? (i := 1114) (by decide +kernel)⟩
theorem lw_p40 : lw_okq (⟨"HiredToWaitModel", "holding", "(I)I"⟩, 47) := ⟨⟨by decide +kernel, by decide +kernel⟩, List.mem_of_getElem? (i := 889) (by decide +kernel), List.mem_of_getElem? (i := 1121) (by decide +kernel), List.mem_of_getElem? (i := 1122) (by decide +kernel)⟩
theorem lw_p41 : lw_okq (⟨"HiredToWaitModel", "sees", "(I)I"⟩, 47) := ⟨⟨by decide +kernel, by decide +kernel⟩, List.mem_of_getElem? (i := 889) (by decide +kernel), List.mem_of_getElem? (i := 1125) (by decide +kernel), List.mem_of_getElem? (i := 1126) (by decide +kernel)⟩
theorem lw_p42 : lw_okq (⟨"HiredToWaitModel", "wanted", "(I)I"⟩, 47) := ⟨⟨by decide +kernel, by decide +kernel⟩, List.mem_of_getElem? (i := 889) (by decide +kernel), List.mem_of_getElem? (i := 1133) (by decide +kernel), List.mem_of_getElem? (i := 1134) (by decide +kernel)⟩
theorem lw_p43 : lw_okq (⟨"HiredToWaitModel", "all", "([IZ)V"⟩, 47) := ⟨⟨by decide +kernel, by decide +kernel⟩, List.mem_of_getElem? (i := 889) (by decide +kernel), List.mem_of_getElem? (i := 1137) (by decide +kernel), List.mem_of_getElem? (i := 1138) (by decide +kernel)⟩
theorem lw_p44 : lw_okq (⟨"HiredToWaitModel", "carries", "([II[IIZ)I"⟩, 47) := ⟨⟨by decide +kernel, by decide +kernel⟩, List.mem_of_getElem? (i := 889) (by decide +kernel), List.mem_of_getElem? (i := 1141) (by decide +kernel), List.mem_of_getElem? (i := 1142) (by decide +kernel)⟩
theorem lw_p45 : lw_okq (⟨"HiredToWaitModel", "item", "()Z"⟩, 47) := ⟨⟨by decide +kernel, by decide +kernel⟩, List.mem_of_getElem? (i := 889) (by decide +kernel), List.mem_of_getElem? (i := 1145) (by decide +kernel), List.mem_of_getElem? (i := 1146) (by decide +kernel)⟩
theorem lw_p46 : lw_okq (⟨"HiredToWaitModel", "stands", "(I)Z"⟩, 47) := ⟨⟨by decide +kernel, by decide +kernel⟩, List.mem_of_getElem? (i := 889) (by decide +kernel), List.mem_of_getElem? (i := 1149) (by decide +kernel), List.mem_of_getElem? (i := 1150) (by decide +kernel)⟩
theorem lw_p47 : lw_okq (⟨"HiredToWaitModel", "wrong", "(I)Z"⟩, 47) := ⟨⟨by decide +kernel, by decide +kernel⟩, List.mem_of_getElem? (i := 889) (by decide +kernel), List.mem_of_getElem? (i := 1153) (by decide +kernel), List.mem_of_getElem? (i := 1154) (by decide +kernel)⟩
def lw_privs_3 : List (MethodName × Nat) := [(⟨"HiredToWaitModel", "isShelf", "(I)Z"⟩, 47), (⟨"HiredToWaitModel", "no", "(I)I"⟩, 47), (⟨"HiredToWaitModel", "isWaiter", "(I)Z"⟩, 47), (⟨"HiredToWaitModel", "isFrom", "(III)Z"⟩, 47), (⟨"HiredToWaitModel", "addsThing", "(IIIIIII)I"⟩, 47), (⟨"HiredToWaitModel", "addsWaiter", "(IIIII)I"⟩, 47), (⟨"HiredToWaitModel", "isThing", "(I)Z"⟩, 47), (⟨"HiredToWaitModel", "cases", "(I)I"⟩, 47), (⟨"HiredToWaitModel", "holding", "(I)I"⟩, 47), (⟨"HiredToWaitModel", "sees", "(I)I"⟩, 47), (⟨"HiredToWaitModel", "wanted", "(I)I"⟩, 47), (⟨"HiredToWaitModel", "all", "([IZ)V"⟩, 47), (⟨"HiredToWaitModel", "carries", "([II[IIZ)I"⟩, 47), (⟨"HiredToWaitModel", "item", "()Z"⟩, 47), (⟨"HiredToWaitModel", "stands", "(I)Z"⟩, 47), (⟨"HiredToWaitModel", "wrong", "(I)Z"⟩, 47)]
theorem lw_r3 : ∀ q ∈ lw_privs_3, lw_okq q := List.forall_mem_cons.mpr ⟨lw_p32, List.forall_mem_cons.mpr ⟨lw_p33, List.forall_mem_cons.mpr ⟨lw_p34, List.forall_mem_cons.mpr ⟨lw_p35, List.forall_mem_cons.mpr ⟨lw_p36, List.forall_mem_cons.mpr ⟨lw_p37, List.forall_mem_cons.mpr ⟨lw_p38, List.forall_mem_cons.mpr ⟨lw_p39, List.forall_mem_cons.mpr ⟨lw_p40, List.forall_mem_cons.mpr ⟨lw_p41, List.forall_mem_cons.mpr ⟨lw_p42, List.forall_mem_cons.mpr ⟨lw_p43, List.forall_mem_cons.mpr ⟨lw_p44, List.forall_mem_cons.mpr ⟨lw_p45, List.forall_mem_cons.mpr ⟨lw_p46, List.forall_mem_cons.mpr ⟨lw_p47, fun _ h => absurd h List.not_mem_nil⟩⟩⟩⟩⟩⟩⟩⟩⟩⟩⟩⟩⟩⟩⟩⟩
theorem lw_p48 : lw_okq (⟨"HiredToWaitModel", "word", "()I"⟩, 47) := ⟨⟨by decide +kernel, by decide +kernel⟩, List.mem_of_getElem? (i := 889) (by decide +kernel), List.mem_of_getElem? (i := 1157) (by decide +kernel), List.mem_of_getElem? (i := 1158) (by decide +kernel)⟩
theorem lw_p49 : lw_okq (⟨"HiredToWaitModel", "reads", "()Z"⟩, 47) := ⟨⟨by decide +kernel, by decide +kernel⟩, List.mem_of_getElem? (i := 889) (by decide +kernel), List.mem_of_getElem? (i := 1161) (by decide +kernel), List.mem_of_getElem? (i := 1162) (by decide +kernel)⟩
theorem lw_p50 : lw_okq (⟨"HiredToWaitModel", "isDigit", "()Z"⟩, 47) := ⟨⟨by decide +kernel, by decide +kernel⟩, List.mem_of_getElem? (i := 889) (by decide +kernel), List.mem_of_getElem? (i := 1165) (by decide +kernel), List.mem_of_getElem? (i := 1166) (by decide +kernel)⟩
theorem lw_p51 : lw_okq (⟨"HiredToWaitModel", "isSo", "(II)Z"⟩, 47) := ⟨⟨by decide +kernel, by decide +kernel⟩, List.mem_of_getElem? (i := 889) (by decide +kernel), List.mem_of_getElem? (i := 1169) (by decide +kernel), List.mem_of_getElem? (i := 1170) (by decide +kernel)⟩
theorem lw_p52 : lw_okq (⟨"HiredToWaitModel", "costs", "(II)I"⟩, 47) := ⟨⟨by decide +kernel, by decide +kernel⟩, List.mem_of_getElem? (i := 889) (by decide +kernel), List.mem_of_getElem? (i := 1181) (by decide +kernel), List.mem_of_getElem? (i := 1182) (by decide +kernel)⟩
theorem lw_p53 : lw_okq (⟨"HiredToWaitModel", "comesBy", "(II)I"⟩, 47) := ⟨⟨by decide +kernel, by decide +kernel⟩, List.mem_of_getElem? (i := 889) (by decide +kernel), List.mem_of_getElem? (i := 1189) (by decide +kernel), List.mem_of_getElem? (i := 1190) (by decide +kernel)⟩
theorem lw_p54 : lw_okq (⟨"HiredToWaitModel", "noTen", "(I)I"⟩, 47) := ⟨⟨by decide +kernel, by decide +kernel⟩, List.mem_of_getElem? (i := 889) (by decide +kernel), List.mem_of_getElem? (i := 1197) (by decide +kernel), List.mem_of_getElem? (i := 1198) (by decide +kernel)⟩
theorem lw_p55 : lw_okq (⟨"HiredToWaitModel", "stops", "(II)I"⟩, 47) := ⟨⟨by decide +kernel, by decide +kernel⟩, List.mem_of_getElem? (i := 889) (by decide +kernel), List.mem_of_getElem? (i := 1201) (by decide +kernel), List.mem_of_getElem? (i := 1202) (by decide +kernel)⟩
theorem lw_p56 : lw_okq (⟨"HiredToWaitModel", "lays", "(I)V"⟩, 47) := ⟨⟨by decide +kernel, by decide +kernel⟩, List.mem_of_getElem? (i := 889) (by decide +kernel), List.mem_of_getElem? (i := 1213) (by decide +kernel), List.mem_of_getElem? (i := 1214) (by decide +kernel)⟩
theorem lw_p57 : lw_okq (⟨"HiredToWaitModel", "seenFrom", "(II)I"⟩, 47) := ⟨⟨by decide +kernel, by decide +kernel⟩, List.mem_of_getElem? (i := 889) (by decide +kernel), List.mem_of_getElem? (i := 1221) (by decide +kernel), List.mem_of_getElem? (i := 1222) (by decide +kernel)⟩
theorem lw_p58 : lw_okq (⟨"HiredToWaitModel", "many", "(I)I"⟩, 47) := ⟨⟨by decide +kernel, by decide +kernel⟩, List.mem_of_getElem? (i := 889) (by decide +kernel), List.mem_of_getElem? (i := 1225) (by decide +kernel), List.mem_of_getElem? (i := 1226) (by decide +kernel)⟩
theorem lw_p59 : lw_okq (⟨"HiredToWaitModel", "worthOf", "(I)I"⟩, 47) := ⟨⟨by decide +kernel, by decide +kernel⟩, List.mem_of_getElem? (i := 889) (by decide +kernel), List.mem_of_getElem? (i := 1233) (by decide +kernel), List.mem_of_getElem? (i := 1234) (by decide +kernel)⟩
theorem lw_p60 : lw_okq (⟨"HiredToWaitModel", "isMet", "(IZ)Z"⟩, 47) := ⟨⟨by decide +kernel, by decide +kernel⟩, List.mem_of_getElem? (i := 889) (by decide +kernel), List.mem_of_getElem? (i := 1245) (by decide +kernel), List.mem_of_getElem? (i := 1246) (by decide +kernel)⟩
theorem lw_p61 : lw_okq (⟨"HiredToWaitModel", "intAt", "(II)I"⟩, 47) := ⟨⟨by decide +kernel, by decide +kernel⟩, List.mem_of_getElem? (i := 889) (by decide +kernel), List.mem_of_getElem? (i := 1257) (by decide +kernel), List.mem_of_getElem? (i := 1258) (by decide +kernel)⟩
theorem lw_p62 : lw_okq (⟨"HiredToWaitModel", "mayCome", "(II)Z"⟩, 47) := ⟨⟨by decide +kernel, by decide +kernel⟩, List.mem_of_getElem? (i := 889) (by decide +kernel), List.mem_of_getElem? (i := 1261) (by decide +kernel), List.mem_of_getElem? (i := 1262) (by decide +kernel)⟩
theorem lw_p63 : lw_okq (⟨"HiredToWaitModel", "awaited", "(I)I"⟩, 47) := ⟨⟨by decide +kernel, by decide +kernel⟩, List.mem_of_getElem? (i := 889) (by decide +kernel), List.mem_of_getElem? (i := 1269) (by decide +kernel), List.mem_of_getElem? (i := 1270) (by decide +kernel)⟩
def lw_privs_4 : List (MethodName × Nat) := [(⟨"HiredToWaitModel", "word", "()I"⟩, 47), (⟨"HiredToWaitModel", "reads", "()Z"⟩, 47), (⟨"HiredToWaitModel", "isDigit", "()Z"⟩, 47), (⟨"HiredToWaitModel", "isSo", "(II)Z"⟩, 47), (⟨"HiredToWaitModel", "costs", "(II)I"⟩, 47), (⟨"HiredToWaitModel", "comesBy", "(II)I"⟩, 47), (⟨"HiredToWaitModel", "noTen", "(I)I"⟩, 47), (⟨"HiredToWaitModel", "stops", "(II)I"⟩, 47), (⟨"HiredToWaitModel", "lays", "(I)V"⟩, 47), (⟨"HiredToWaitModel", "seenFrom", "(II)I"⟩, 47), (⟨"HiredToWaitModel", "many", "(I)I"⟩, 47), (⟨"HiredToWaitModel", "worthOf", "(I)I"⟩, 47), (⟨"HiredToWaitModel", "isMet", "(IZ)Z"⟩, 47), (⟨"HiredToWaitModel", "intAt", "(II)I"⟩, 47), (⟨"HiredToWaitModel", "mayCome", "(II)Z"⟩, 47), (⟨"HiredToWaitModel", "awaited", "(I)I"⟩, 47)]
theorem lw_r4 : ∀ q ∈ lw_privs_4, lw_okq q := List.forall_mem_cons.mpr ⟨lw_p48, List.forall_mem_cons.mpr ⟨lw_p49, List.forall_mem_cons.mpr ⟨lw_p50, List.forall_mem_cons.mpr ⟨lw_p51, List.forall_mem_cons.mpr ⟨lw_p52, List.forall_mem_cons.mpr ⟨lw_p53, List.forall_mem_cons.mpr ⟨lw_p54, List.forall_mem_cons.mpr ⟨lw_p55, List.forall_mem_cons.mpr ⟨lw_p56, List.forall_mem_cons.mpr ⟨lw_p57, List.forall_mem_cons.mpr ⟨lw_p58, List.forall_mem_cons.mpr ⟨lw_p59, List.forall_mem_cons.mpr ⟨lw_p60, List.forall_mem_cons.mpr ⟨lw_p61, List.forall_mem_cons.mpr ⟨lw_p62, List.forall_mem_cons.mpr ⟨lw_p63, fun _ h => absurd h List.not_mem_nil⟩⟩⟩⟩⟩⟩⟩⟩⟩⟩⟩⟩⟩⟩⟩⟩
theorem lw_p64 : lw_okq (⟨"HiredToWaitModel", "barsOfDay", "(II)I"⟩, 47) := ⟨⟨by decide +kernel, by decide +kernel⟩, List.mem_of_getElem? (i := 889) (by decide +kernel), List.mem_of_getElem? (i := 1277) (by decide +kernel), List.mem_of_getElem? (i := 1278) (by decide +kernel)⟩
theorem lw_p65 : lw_okq (⟨"HiredToWaitModel", "wrongIn", "(II)I"⟩, 47) := ⟨⟨by decide +kernel, by decide +kernel⟩, List.mem_of_getElem? (i := 889) (by decide +kernel), List.mem_of_getElem? (i := 1281) (by decide +kernel), List.mem_of_getElem? (i := 1282) (by decide +kernel)⟩
theorem lw_p66 : lw_okq (⟨"HiredToWaitModel", "draw", "(I)I"⟩, 47) := ⟨⟨by decide +kernel, by decide +kernel⟩, List.mem_of_getElem? (i := 889) (by decide +kernel), List.mem_of_getElem? (i := 1297) (by decide +kernel), List.mem_of_getElem? (i := 1298) (by decide +kernel)⟩
theorem lw_p67 : lw_okq (⟨"HiredToWaitModel", "waiting", "(II)I"⟩, 47) := ⟨⟨by decide +kernel, by decide +kernel⟩, List.mem_of_getElem? (i := 889) (by decide +kernel), List.mem_of_getElem? (i := 1310) (by decide +kernel), List.mem_of_getElem? (i := 1311) (by decide +kernel)⟩
theorem lw_p68 : lw_okq (⟨"HiredToWaitModel", "body", "(I)V"⟩, 47) := ⟨⟨by decide +kernel, by decide +kernel⟩, List.mem_of_getElem? (i := 889) (by decide +kernel), List.mem_of_getElem? (i := 1314) (by decide +kernel), List.mem_of_getElem? (i := 1315) (by decide +kernel)⟩
theorem lw_p69 : lw_okq (⟨"HiredToWaitModel", "looking", "(II)I"⟩, 47) := ⟨⟨by decide +kernel, by decide +kernel⟩, List.mem_of_getElem? (i := 889) (by decide +kernel), List.mem_of_getElem? (i := 1318) (by decide +kernel), List.mem_of_getElem? (i := 1319) (by decide +kernel)⟩
theorem lw_p70 : lw_okq (⟨"HiredToWaitModel", "sending", "(II)I"⟩, 47) := ⟨⟨by decide +kernel, by decide +kernel⟩, List.mem_of_getElem? (i := 889) (by decide +kernel), List.mem_of_getElem? (i := 1322) (by decide +kernel), List.mem_of_getElem? (i := 1323) (by decide +kernel)⟩
def lw_privs_5 : List (MethodName × Nat) := [(⟨"HiredToWaitModel", "barsOfDay", "(II)I"⟩, 47), (⟨"HiredToWaitModel", "wrongIn", "(II)I"⟩, 47), (⟨"HiredToWaitModel", "draw", "(I)I"⟩, 47), (⟨"HiredToWaitModel", "waiting", "(II)I"⟩, 47), (⟨"HiredToWaitModel", "body", "(I)V"⟩, 47), (⟨"HiredToWaitModel", "looking", "(II)I"⟩, 47), (⟨"HiredToWaitModel", "sending", "(II)I"⟩, 47)]
theorem lw_r5 : ∀ q ∈ lw_privs_5, lw_okq q := List.forall_mem_cons.mpr ⟨lw_p64, List.forall_mem_cons.mpr ⟨lw_p65, List.forall_mem_cons.mpr ⟨lw_p66, List.forall_mem_cons.mpr ⟨lw_p67, List.forall_mem_cons.mpr ⟨lw_p68, List.forall_mem_cons.mpr ⟨lw_p69, List.forall_mem_cons.mpr ⟨lw_p70, fun _ h => absurd h List.not_mem_nil⟩⟩⟩⟩⟩⟩⟩
def lw_privs : List (MethodName × Nat) := lw_privs_1 ++ (lw_privs_2 ++ (lw_privs_3 ++ (lw_privs_4 ++ (lw_privs_5))))
def lw_tbl : List Cond := k2_sels lw_privs ++ tables_1
theorem lw_privs_ok : ∀ q ∈ lw_privs, lw_okq q := by
  show ∀ q ∈ lw_privs_1 ++ (lw_privs_2 ++ (lw_privs_3 ++ (lw_privs_4 ++ (lw_privs_5)))), lw_okq q
  exact List.forall_mem_append.mpr ⟨lw_r1, List.forall_mem_append.mpr ⟨lw_r2, List.forall_mem_append.mpr ⟨lw_r3, List.forall_mem_append.mpr ⟨lw_r4, lw_r5⟩⟩⟩⟩
/-! the good words among the tables' -/
def tb : List Cond := lw_tbl.filter goodWord
theorem tb_in {w : Cond} (h : w ∈ tb) : w ∈ lw_tbl := (List.mem_filter.mp h).1
theorem tb_of {w : Cond} (h : w ∈ tables_1) (g : goodWord w = true) : w ∈ tb := List.mem_filter.mpr ⟨List.mem_append_right _ h, g⟩
theorem tb1 {i : Nat} {w : Cond} (h : tables_1_1[i]? = some w) (g : goodWord w = true) : w ∈ tb := tb_of (List.mem_append_left _ (List.mem_of_getElem? h)) g
theorem tb2 {i : Nat} {w : Cond} (h : tables_1_2[i]? = some w) (g : goodWord w = true) : w ∈ tb := tb_of (List.mem_append_right _ (List.mem_append_left _ (List.mem_of_getElem? h))) g
theorem tb3 {i : Nat} {w : Cond} (h : tables_1_3[i]? = some w) (g : goodWord w = true) : w ∈ tb := tb_of (List.mem_append_right _ (List.mem_append_right _ (List.mem_append_left _ (List.mem_of_getElem? h)))) g
theorem tb4 {i : Nat} {w : Cond} (h : tables_1_4[i]? = some w) (g : goodWord w = true) : w ∈ tb := tb_of (List.mem_append_right _ (List.mem_append_right _ (List.mem_append_right _ (List.mem_append_left _ (List.mem_of_getElem? h))))) g
theorem tb5 {i : Nat} {w : Cond} (h : tables_1_5[i]? = some w) (g : goodWord w = true) : w ∈ tb := tb_of (List.mem_append_right _ (List.mem_append_right _ (List.mem_append_right _ (List.mem_append_right _ (List.mem_append_left _ (List.mem_of_getElem? h)))))) g
theorem tb6 {i : Nat} {w : Cond} (h : tables_1_6[i]? = some w) (g : goodWord w = true) : w ∈ tb := tb_of (List.mem_append_right _ (List.mem_append_right _ (List.mem_append_right _ (List.mem_append_right _ (List.mem_append_right _ (List.mem_of_getElem? h)))))) g
theorem tb0 {q : MethodName × Nat} (h : q ∈ lw_privs) : Cond.selects q.1.cls q.1 q.1 ∈ tb := List.mem_filter.mpr ⟨List.mem_append_left _ (List.mem_map.mpr ⟨q, h, rfl⟩), rfl⟩
theorem m_0_0 : Cond.selects "HiredToWait" ⟨"HiredToWait", "refuse", "(I)I"⟩ ⟨"HiredToWait", "refuse", "(I)I"⟩ ∈ tb := tb0 (q := (⟨"HiredToWait", "refuse", "(I)I"⟩, 9)) (List.mem_of_getElem? (i := 0) rfl)
theorem m_0_1 : Cond.selects "HiredToWait" ⟨"HiredToWait", "rowRefusal", "(I)I"⟩ ⟨"HiredToWait", "rowRefusal", "(I)I"⟩ ∈ tb := tb0 (q := (⟨"HiredToWait", "rowRefusal", "(I)I"⟩, 9)) (List.mem_of_getElem? (i := 1) rfl)
theorem m_0_2 : Cond.selects "HiredToWait$Shelf" ⟨"HiredToWait$Shelf", "lowestBits", "(J)J"⟩ ⟨"HiredToWait$Shelf", "lowestBits", "(J)J"⟩ ∈ tb := tb0 (q := (⟨"HiredToWait$Shelf", "lowestBits", "(J)J"⟩, 3)) (List.mem_of_getElem? (i := 2) rfl)
theorem m_0_3 : Cond.selects "HiredToWait" ⟨"HiredToWait", "twoRowsRefusal", "(II)I"⟩ ⟨"HiredToWait", "twoRowsRefusal", "(II)I"⟩ ∈ tb := tb0 (q := (⟨"HiredToWait", "twoRowsRefusal", "(II)I"⟩, 9)) (List.mem_of_getElem? (i := 3) rfl)
theorem m_0_4 : Cond.selects "HiredToWait$Waiter" ⟨"HiredToWait$Waiter", "wouldHold", "(I)I"⟩ ⟨"HiredToWait$Waiter", "wouldHold", "(I)I"⟩ ∈ tb := tb0 (q := (⟨"HiredToWait$Waiter", "wouldHold", "(I)I"⟩, 6)) (List.mem_of_getElem? (i := 4) rfl)
theorem m_0_5 : Cond.selects "HiredToWait$Waiter" ⟨"HiredToWait$Waiter", "masterWage", "(I)I"⟩ ⟨"HiredToWait$Waiter", "masterWage", "(I)I"⟩ ∈ tb := tb0 (q := (⟨"HiredToWait$Waiter", "masterWage", "(I)I"⟩, 6)) (List.mem_of_getElem? (i := 5) rfl)
theorem m_0_6 : Cond.selects "HiredToWait$Waiter" ⟨"HiredToWait$Waiter", "loverWage", "(I)I"⟩ ⟨"HiredToWait$Waiter", "loverWage", "(I)I"⟩ ∈ tb := tb0 (q := (⟨"HiredToWait$Waiter", "loverWage", "(I)I"⟩, 6)) (List.mem_of_getElem? (i := 6) rfl)
theorem m_0_7 : Cond.selects "HiredToWait$GuildText" ⟨"HiredToWait$GuildText", "readItem", "()V"⟩ ⟨"HiredToWait$GuildText", "readItem", "()V"⟩ ∈ tb := tb0 (q := (⟨"HiredToWait$GuildText", "readItem", "()V"⟩, 6)) (List.mem_of_getElem? (i := 7) rfl)
theorem m_0_8 : Cond.selects "HiredToWait$GuildText" ⟨"HiredToWait$GuildText", "letter", "()I"⟩ ⟨"HiredToWait$GuildText", "letter", "()I"⟩ ∈ tb := tb0 (q := (⟨"HiredToWait$GuildText", "letter", "()I"⟩, 6)) (List.mem_of_getElem? (i := 8) rfl)
theorem m_0_9 : Cond.selects "HiredToWait$GuildText" ⟨"HiredToWait$GuildText", "readThing", "()V"⟩ ⟨"HiredToWait$GuildText", "readThing", "()V"⟩ ∈ tb := tb0 (q := (⟨"HiredToWait$GuildText", "readThing", "()V"⟩, 6)) (List.mem_of_getElem? (i := 9) rfl)
theorem m_0_10 : Cond.selects "HiredToWait$GuildText" ⟨"HiredToWait$GuildText", "readWord", "(Ljava/lang/String;Z)V"⟩ ⟨"HiredToWait$GuildText", "readWord", "(Ljava/lang/String;Z)V"⟩ ∈ tb := tb0 (q := (⟨"HiredToWait$GuildText", "readWord", "(Ljava/lang/String;Z)V"⟩, 6)) (List.mem_of_getElem? (i := 10) rfl)
theorem m_0_11 : Cond.selects "HiredToWait$GuildText" ⟨"HiredToWait$GuildText", "readSign", "(I)V"⟩ ⟨"HiredToWait$GuildText", "readSign", "(I)V"⟩ ∈ tb := tb0 (q := (⟨"HiredToWait$GuildText", "readSign", "(I)V"⟩, 6)) (List.mem_of_getElem? (i := 11) rfl)
theorem m_0_12 : Cond.selects "HiredToWait$GuildText" ⟨"HiredToWait$GuildText", "failAt", "(I)I"⟩ ⟨"HiredToWait$GuildText", "failAt", "(I)I"⟩ ∈ tb := tb0 (q := (⟨"HiredToWait$GuildText", "failAt", "(I)I"⟩, 6)) (List.mem_of_getElem? (i := 12) rfl)
theorem m_0_13 : Cond.selects "HiredToWait$GuildText" ⟨"HiredToWait$GuildText", "readNumber", "(II)I"⟩ ⟨"HiredToWait$GuildText", "readNumber", "(II)I"⟩ ∈ tb := tb0 (q := (⟨"HiredToWait$GuildText", "readNumber", "(II)I"⟩, 6)) (List.mem_of_getElem? (i := 13) rfl)
theorem m_0_14 : Cond.selects "HiredToWait$GuildText" ⟨"HiredToWait$GuildText", "isAtDigit", "()Z"⟩ ⟨"HiredToWait$GuildText", "isAtDigit", "()Z"⟩ ∈ tb := tb0 (q := (⟨"HiredToWait$GuildText", "isAtDigit", "()Z"⟩, 6)) (List.mem_of_getElem? (i := 14) rfl)
theorem m_0_15 : Cond.selects "HiredToWait$GuildText" ⟨"HiredToWait$GuildText", "readDigit", "()I"⟩ ⟨"HiredToWait$GuildText", "readDigit", "()I"⟩ ∈ tb := tb0 (q := (⟨"HiredToWait$GuildText", "readDigit", "()I"⟩, 6)) (List.mem_of_getElem? (i := 15) rfl)
theorem m_0_16 : Cond.selects "HiredToWait$GuildText" ⟨"HiredToWait$GuildText", "readWaiter", "()V"⟩ ⟨"HiredToWait$GuildText", "readWaiter", "()V"⟩ ∈ tb := tb0 (q := (⟨"HiredToWait$GuildText", "readWaiter", "()V"⟩, 6)) (List.mem_of_getElem? (i := 16) rfl)
theorem m_0_17 : Cond.selects "HiredToWait$GuildText" ⟨"HiredToWait$GuildText", "readMoves", "()V"⟩ ⟨"HiredToWait$GuildText", "readMoves", "()V"⟩ ∈ tb := tb0 (q := (⟨"HiredToWait$GuildText", "readMoves", "()V"⟩, 6)) (List.mem_of_getElem? (i := 17) rfl)
theorem m_0_18 : Cond.selects "HiredToWait$GuildText" ⟨"HiredToWait$GuildText", "readHope", "()V"⟩ ⟨"HiredToWait$GuildText", "readHope", "()V"⟩ ∈ tb := tb0 (q := (⟨"HiredToWait$GuildText", "readHope", "()V"⟩, 6)) (List.mem_of_getElem? (i := 18) rfl)
theorem m_0_19 : Cond.selects "HiredToWait" ⟨"HiredToWait", "refuseApart", "(I)I"⟩ ⟨"HiredToWait", "refuseApart", "(I)I"⟩ ∈ tb := tb0 (q := (⟨"HiredToWait", "refuseApart", "(I)I"⟩, 9)) (List.mem_of_getElem? (i := 19) rfl)
theorem m_0_20 : Cond.selects "HiredToWait$Rota" ⟨"HiredToWait$Rota", "firstBest", "(LHiredToWait$Guild;II)I"⟩ ⟨"HiredToWait$Rota", "firstBest", "(LHiredToWait$Guild;II)I"⟩ ∈ tb := tb0 (q := (⟨"HiredToWait$Rota", "firstBest", "(LHiredToWait$Guild;II)I"⟩, 2)) (List.mem_of_getElem? (i := 20) rfl)
theorem m_0_21 : Cond.selects "HiredToWait$Rota" ⟨"HiredToWait$Rota", "payWith", "(LHiredToWait$Guild;III)I"⟩ ⟨"HiredToWait$Rota", "payWith", "(LHiredToWait$Guild;III)I"⟩ ∈ tb := tb0 (q := (⟨"HiredToWait$Rota", "payWith", "(LHiredToWait$Guild;III)I"⟩, 2)) (List.mem_of_getElem? (i := 21) rfl)
theorem m_0_22 : Cond.selects "HiredToWait$Guild" ⟨"HiredToWait$Guild", "seenFromPosts", "(I)I"⟩ ⟨"HiredToWait$Guild", "seenFromPosts", "(I)I"⟩ ∈ tb := tb0 (q := (⟨"HiredToWait$Guild", "seenFromPosts", "(I)I"⟩, 10)) (List.mem_of_getElem? (i := 22) rfl)
theorem m_0_23 : Cond.selects "HiredToWait$Guild" ⟨"HiredToWait$Guild", "worthOf", "(I)I"⟩ ⟨"HiredToWait$Guild", "worthOf", "(I)I"⟩ ∈ tb := tb0 (q := (⟨"HiredToWait$Guild", "worthOf", "(I)I"⟩, 10)) (List.mem_of_getElem? (i := 23) rfl)
theorem m_0_24 : Cond.selects "HiredToWait$Guild" ⟨"HiredToWait$Guild", "worthiestInNeed", "(I)I"⟩ ⟨"HiredToWait$Guild", "worthiestInNeed", "(I)I"⟩ ∈ tb := tb0 (q := (⟨"HiredToWait$Guild", "worthiestInNeed", "(I)I"⟩, 10)) (List.mem_of_getElem? (i := 24) rfl)
theorem m_0_25 : Cond.selects "HiredToWait" ⟨"HiredToWait", "toldRefusal", "(IIIZ)I"⟩ ⟨"HiredToWait", "toldRefusal", "(IIIZ)I"⟩ ∈ tb := tb0 (q := (⟨"HiredToWait", "toldRefusal", "(IIIZ)I"⟩, 9)) (List.mem_of_getElem? (i := 25) rfl)
theorem m_0_26 : Cond.selects "HiredToWait" ⟨"HiredToWait", "firstWrong", "(LHiredToWait$Shelf;I)I"⟩ ⟨"HiredToWait", "firstWrong", "(LHiredToWait$Shelf;I)I"⟩ ∈ tb := tb0 (q := (⟨"HiredToWait", "firstWrong", "(LHiredToWait$Shelf;I)I"⟩, 9)) (List.mem_of_getElem? (i := 26) rfl)
theorem m_0_27 : Cond.selects "HiredToWait" ⟨"HiredToWait", "dayRefusal", "(IIZ)I"⟩ ⟨"HiredToWait", "dayRefusal", "(IIZ)I"⟩ ∈ tb := tb0 (q := (⟨"HiredToWait", "dayRefusal", "(IIZ)I"⟩, 9)) (List.mem_of_getElem? (i := 27) rfl)
theorem m_0_28 : Cond.selects "HiredToWait$Guild" ⟨"HiredToWait$Guild", "draw", "(I)I"⟩ ⟨"HiredToWait$Guild", "draw", "(I)I"⟩ ∈ tb := tb0 (q := (⟨"HiredToWait$Guild", "draw", "(I)I"⟩, 10)) (List.mem_of_getElem? (i := 28) rfl)
theorem m_0_29 : Cond.selects "HiredToWait$Bodies" ⟨"HiredToWait$Bodies", "run", "(LHiredToWait$Waiter;IIII)I"⟩ ⟨"HiredToWait$Bodies", "run", "(LHiredToWait$Waiter;IIII)I"⟩ ∈ tb := tb0 (q := (⟨"HiredToWait$Bodies", "run", "(LHiredToWait$Waiter;IIII)I"⟩, 2)) (List.mem_of_getElem? (i := 29) rfl)
theorem m_0_30 : Cond.selects "HiredToWait$Bodies" ⟨"HiredToWait$Bodies", "begin", "(I)V"⟩ ⟨"HiredToWait$Bodies", "begin", "(I)V"⟩ ∈ tb := tb0 (q := (⟨"HiredToWait$Bodies", "begin", "(I)V"⟩, 2)) (List.mem_of_getElem? (i := 30) rfl)
theorem m_0_31 : Cond.selects "HiredToWait$Bodies" ⟨"HiredToWait$Bodies", "answerOf", "(ILHiredToWait$Waiter;III)I"⟩ ⟨"HiredToWait$Bodies", "answerOf", "(ILHiredToWait$Waiter;III)I"⟩ ∈ tb := tb0 (q := (⟨"HiredToWait$Bodies", "answerOf", "(ILHiredToWait$Waiter;III)I"⟩, 2)) (List.mem_of_getElem? (i := 31) rfl)
theorem m_0_32 : Cond.selects "HiredToWaitModel" ⟨"HiredToWaitModel", "isShelf", "(I)Z"⟩ ⟨"HiredToWaitModel", "isShelf", "(I)Z"⟩ ∈ tb := tb0 (q := (⟨"HiredToWaitModel", "isShelf", "(I)Z"⟩, 47)) (List.mem_of_getElem? (i := 32) rfl)
theorem m_0_33 : Cond.selects "HiredToWaitModel" ⟨"HiredToWaitModel", "no", "(I)I"⟩ ⟨"HiredToWaitModel", "no", "(I)I"⟩ ∈ tb := tb0 (q := (⟨"HiredToWaitModel", "no", "(I)I"⟩, 47)) (List.mem_of_getElem? (i := 33) rfl)
theorem m_0_34 : Cond.selects "HiredToWaitModel" ⟨"HiredToWaitModel", "isWaiter", "(I)Z"⟩ ⟨"HiredToWaitModel", "isWaiter", "(I)Z"⟩ ∈ tb := tb0 (q := (⟨"HiredToWaitModel", "isWaiter", "(I)Z"⟩, 47)) (List.mem_of_getElem? (i := 34) rfl)
theorem m_0_35 : Cond.selects "HiredToWaitModel" ⟨"HiredToWaitModel", "isFrom", "(III)Z"⟩ ⟨"HiredToWaitModel", "isFrom", "(III)Z"⟩ ∈ tb := tb0 (q := (⟨"HiredToWaitModel", "isFrom", "(III)Z"⟩, 47)) (List.mem_of_getElem? (i := 35) rfl)
theorem m_0_36 : Cond.selects "HiredToWaitModel" ⟨"HiredToWaitModel", "addsThing", "(IIIIIII)I"⟩ ⟨"HiredToWaitModel", "addsThing", "(IIIIIII)I"⟩ ∈ tb := tb0 (q := (⟨"HiredToWaitModel", "addsThing", "(IIIIIII)I"⟩, 47)) (List.mem_of_getElem? (i := 36) rfl)
theorem m_0_37 : Cond.selects "HiredToWaitModel" ⟨"HiredToWaitModel", "addsWaiter", "(IIIII)I"⟩ ⟨"HiredToWaitModel", "addsWaiter", "(IIIII)I"⟩ ∈ tb := tb0 (q := (⟨"HiredToWaitModel", "addsWaiter", "(IIIII)I"⟩, 47)) (List.mem_of_getElem? (i := 37) rfl)
theorem m_0_38 : Cond.selects "HiredToWaitModel" ⟨"HiredToWaitModel", "isThing", "(I)Z"⟩ ⟨"HiredToWaitModel", "isThing", "(I)Z"⟩ ∈ tb := tb0 (q := (⟨"HiredToWaitModel", "isThing", "(I)Z"⟩, 47)) (List.mem_of_getElem? (i := 38) rfl)
theorem m_0_39 : Cond.selects "HiredToWaitModel" ⟨"HiredToWaitModel", "cases", "(I)I"⟩ ⟨"HiredToWaitModel", "cases", "(I)I"⟩ ∈ tb := tb0 (q := (⟨"HiredToWaitModel", "cases", "(I)I"⟩, 47)) (List.mem_of_getElem? (i := 39) rfl)
theorem m_0_40 : Cond.selects "HiredToWaitModel" ⟨"HiredToWaitModel", "holding", "(I)I"⟩ ⟨"HiredToWaitModel", "holding", "(I)I"⟩ ∈ tb := tb0 (q := (⟨"HiredToWaitModel", "holding", "(I)I"⟩, 47)) (List.mem_of_getElem? (i := 40) rfl)
theorem m_0_41 : Cond.selects "HiredToWaitModel" ⟨"HiredToWaitModel", "sees", "(I)I"⟩ ⟨"HiredToWaitModel", "sees", "(I)I"⟩ ∈ tb := tb0 (q := (⟨"HiredToWaitModel", "sees", "(I)I"⟩, 47)) (List.mem_of_getElem? (i := 41) rfl)
theorem m_0_42 : Cond.selects "HiredToWaitModel" ⟨"HiredToWaitModel", "wanted", "(I)I"⟩ ⟨"HiredToWaitModel", "wanted", "(I)I"⟩ ∈ tb := tb0 (q := (⟨"HiredToWaitModel", "wanted", "(I)I"⟩, 47)) (List.mem_of_getElem? (i := 42) rfl)
theorem m_0_43 : Cond.selects "HiredToWaitModel" ⟨"HiredToWaitModel", "all", "([IZ)V"⟩ ⟨"HiredToWaitModel", "all", "([IZ)V"⟩ ∈ tb := tb0 (q := (⟨"HiredToWaitModel", "all", "([IZ)V"⟩, 47)) (List.mem_of_getElem? (i := 43) rfl)
theorem m_0_44 : Cond.selects "HiredToWaitModel" ⟨"HiredToWaitModel", "carries", "([II[IIZ)I"⟩ ⟨"HiredToWaitModel", "carries", "([II[IIZ)I"⟩ ∈ tb := tb0 (q := (⟨"HiredToWaitModel", "carries", "([II[IIZ)I"⟩, 47)) (List.mem_of_getElem? (i := 44) rfl)
theorem m_0_45 : Cond.selects "HiredToWaitModel" ⟨"HiredToWaitModel", "item", "()Z"⟩ ⟨"HiredToWaitModel", "item", "()Z"⟩ ∈ tb := tb0 (q := (⟨"HiredToWaitModel", "item", "()Z"⟩, 47)) (List.mem_of_getElem? (i := 45) rfl)
theorem m_0_46 : Cond.selects "HiredToWaitModel" ⟨"HiredToWaitModel", "stands", "(I)Z"⟩ ⟨"HiredToWaitModel", "stands", "(I)Z"⟩ ∈ tb := tb0 (q := (⟨"HiredToWaitModel", "stands", "(I)Z"⟩, 47)) (List.mem_of_getElem? (i := 46) rfl)
theorem m_0_47 : Cond.selects "HiredToWaitModel" ⟨"HiredToWaitModel", "wrong", "(I)Z"⟩ ⟨"HiredToWaitModel", "wrong", "(I)Z"⟩ ∈ tb := tb0 (q := (⟨"HiredToWaitModel", "wrong", "(I)Z"⟩, 47)) (List.mem_of_getElem? (i := 47) rfl)
theorem m_0_48 : Cond.selects "HiredToWaitModel" ⟨"HiredToWaitModel", "word", "()I"⟩ ⟨"HiredToWaitModel", "word", "()I"⟩ ∈ tb := tb0 (q := (⟨"HiredToWaitModel", "word", "()I"⟩, 47)) (List.mem_of_getElem? (i := 48) rfl)
theorem m_0_49 : Cond.selects "HiredToWaitModel" ⟨"HiredToWaitModel", "reads", "()Z"⟩ ⟨"HiredToWaitModel", "reads", "()Z"⟩ ∈ tb := tb0 (q := (⟨"HiredToWaitModel", "reads", "()Z"⟩, 47)) (List.mem_of_getElem? (i := 49) rfl)
theorem m_0_50 : Cond.selects "HiredToWaitModel" ⟨"HiredToWaitModel", "isDigit", "()Z"⟩ ⟨"HiredToWaitModel", "isDigit", "()Z"⟩ ∈ tb := tb0 (q := (⟨"HiredToWaitModel", "isDigit", "()Z"⟩, 47)) (List.mem_of_getElem? (i := 50) rfl)
theorem m_0_51 : Cond.selects "HiredToWaitModel" ⟨"HiredToWaitModel", "isSo", "(II)Z"⟩ ⟨"HiredToWaitModel", "isSo", "(II)Z"⟩ ∈ tb := tb0 (q := (⟨"HiredToWaitModel", "isSo", "(II)Z"⟩, 47)) (List.mem_of_getElem? (i := 51) rfl)
theorem m_0_52 : Cond.selects "HiredToWaitModel" ⟨"HiredToWaitModel", "costs", "(II)I"⟩ ⟨"HiredToWaitModel", "costs", "(II)I"⟩ ∈ tb := tb0 (q := (⟨"HiredToWaitModel", "costs", "(II)I"⟩, 47)) (List.mem_of_getElem? (i := 52) rfl)
theorem m_0_53 : Cond.selects "HiredToWaitModel" ⟨"HiredToWaitModel", "comesBy", "(II)I"⟩ ⟨"HiredToWaitModel", "comesBy", "(II)I"⟩ ∈ tb := tb0 (q := (⟨"HiredToWaitModel", "comesBy", "(II)I"⟩, 47)) (List.mem_of_getElem? (i := 53) rfl)
theorem m_0_54 : Cond.selects "HiredToWaitModel" ⟨"HiredToWaitModel", "noTen", "(I)I"⟩ ⟨"HiredToWaitModel", "noTen", "(I)I"⟩ ∈ tb := tb0 (q := (⟨"HiredToWaitModel", "noTen", "(I)I"⟩, 47)) (List.mem_of_getElem? (i := 54) rfl)
theorem m_0_55 : Cond.selects "HiredToWaitModel" ⟨"HiredToWaitModel", "stops", "(II)I"⟩ ⟨"HiredToWaitModel", "stops", "(II)I"⟩ ∈ tb := tb0 (q := (⟨"HiredToWaitModel", "stops", "(II)I"⟩, 47)) (List.mem_of_getElem? (i := 55) rfl)
theorem m_0_56 : Cond.selects "HiredToWaitModel" ⟨"HiredToWaitModel", "lays", "(I)V"⟩ ⟨"HiredToWaitModel", "lays", "(I)V"⟩ ∈ tb := tb0 (q := (⟨"HiredToWaitModel", "lays", "(I)V"⟩, 47)) (List.mem_of_getElem? (i := 56) rfl)
theorem m_0_57 : Cond.selects "HiredToWaitModel" ⟨"HiredToWaitModel", "seenFrom", "(II)I"⟩ ⟨"HiredToWaitModel", "seenFrom", "(II)I"⟩ ∈ tb := tb0 (q := (⟨"HiredToWaitModel", "seenFrom", "(II)I"⟩, 47)) (List.mem_of_getElem? (i := 57) rfl)
theorem m_0_58 : Cond.selects "HiredToWaitModel" ⟨"HiredToWaitModel", "many", "(I)I"⟩ ⟨"HiredToWaitModel", "many", "(I)I"⟩ ∈ tb := tb0 (q := (⟨"HiredToWaitModel", "many", "(I)I"⟩, 47)) (List.mem_of_getElem? (i := 58) rfl)
theorem m_0_59 : Cond.selects "HiredToWaitModel" ⟨"HiredToWaitModel", "worthOf", "(I)I"⟩ ⟨"HiredToWaitModel", "worthOf", "(I)I"⟩ ∈ tb := tb0 (q := (⟨"HiredToWaitModel", "worthOf", "(I)I"⟩, 47)) (List.mem_of_getElem? (i := 59) rfl)
theorem m_0_60 : Cond.selects "HiredToWaitModel" ⟨"HiredToWaitModel", "isMet", "(IZ)Z"⟩ ⟨"HiredToWaitModel", "isMet", "(IZ)Z"⟩ ∈ tb := tb0 (q := (⟨"HiredToWaitModel", "isMet", "(IZ)Z"⟩, 47)) (List.mem_of_getElem? (i := 60) rfl)
theorem m_0_61 : Cond.selects "HiredToWaitModel" ⟨"HiredToWaitModel", "intAt", "(II)I"⟩ ⟨"HiredToWaitModel", "intAt", "(II)I"⟩ ∈ tb := tb0 (q := (⟨"HiredToWaitModel", "intAt", "(II)I"⟩, 47)) (List.mem_of_getElem? (i := 61) rfl)
theorem m_0_62 : Cond.selects "HiredToWaitModel" ⟨"HiredToWaitModel", "mayCome", "(II)Z"⟩ ⟨"HiredToWaitModel", "mayCome", "(II)Z"⟩ ∈ tb := tb0 (q := (⟨"HiredToWaitModel", "mayCome", "(II)Z"⟩, 47)) (List.mem_of_getElem? (i := 62) rfl)
theorem m_0_63 : Cond.selects "HiredToWaitModel" ⟨"HiredToWaitModel", "awaited", "(I)I"⟩ ⟨"HiredToWaitModel", "awaited", "(I)I"⟩ ∈ tb := tb0 (q := (⟨"HiredToWaitModel", "awaited", "(I)I"⟩, 47)) (List.mem_of_getElem? (i := 63) rfl)
theorem m_0_64 : Cond.selects "HiredToWaitModel" ⟨"HiredToWaitModel", "barsOfDay", "(II)I"⟩ ⟨"HiredToWaitModel", "barsOfDay", "(II)I"⟩ ∈ tb := tb0 (q := (⟨"HiredToWaitModel", "barsOfDay", "(II)I"⟩, 47)) (List.mem_of_getElem? (i := 64) rfl)
theorem m_0_65 : Cond.selects "HiredToWaitModel" ⟨"HiredToWaitModel", "wrongIn", "(II)I"⟩ ⟨"HiredToWaitModel", "wrongIn", "(II)I"⟩ ∈ tb := tb0 (q := (⟨"HiredToWaitModel", "wrongIn", "(II)I"⟩, 47)) (List.mem_of_getElem? (i := 65) rfl)
theorem m_0_66 : Cond.selects "HiredToWaitModel" ⟨"HiredToWaitModel", "draw", "(I)I"⟩ ⟨"HiredToWaitModel", "draw", "(I)I"⟩ ∈ tb := tb0 (q := (⟨"HiredToWaitModel", "draw", "(I)I"⟩, 47)) (List.mem_of_getElem? (i := 66) rfl)
theorem m_0_67 : Cond.selects "HiredToWaitModel" ⟨"HiredToWaitModel", "waiting", "(II)I"⟩ ⟨"HiredToWaitModel", "waiting", "(II)I"⟩ ∈ tb := tb0 (q := (⟨"HiredToWaitModel", "waiting", "(II)I"⟩, 47)) (List.mem_of_getElem? (i := 67) rfl)
theorem m_0_68 : Cond.selects "HiredToWaitModel" ⟨"HiredToWaitModel", "body", "(I)V"⟩ ⟨"HiredToWaitModel", "body", "(I)V"⟩ ∈ tb := tb0 (q := (⟨"HiredToWaitModel", "body", "(I)V"⟩, 47)) (List.mem_of_getElem? (i := 68) rfl)
theorem m_0_69 : Cond.selects "HiredToWaitModel" ⟨"HiredToWaitModel", "looking", "(II)I"⟩ ⟨"HiredToWaitModel", "looking", "(II)I"⟩ ∈ tb := tb0 (q := (⟨"HiredToWaitModel", "looking", "(II)I"⟩, 47)) (List.mem_of_getElem? (i := 69) rfl)
theorem m_0_70 : Cond.selects "HiredToWaitModel" ⟨"HiredToWaitModel", "sending", "(II)I"⟩ ⟨"HiredToWaitModel", "sending", "(II)I"⟩ ∈ tb := tb0 (q := (⟨"HiredToWaitModel", "sending", "(II)I"⟩, 47)) (List.mem_of_getElem? (i := 70) rfl)
theorem m_1_0 : Cond.initialized "HiredToWaitLaw" ∈ tb := tb1 (i := 0) rfl rfl
theorem m_1_1 : Cond.initialized "HiredToWait" ∈ tb := tb1 (i := 1) rfl rfl
theorem m_1_2 : Cond.initialized "HiredToWait$Guild" ∈ tb := tb1 (i := 2) rfl rfl
theorem m_1_3 : Cond.initialized "HiredToWait$Thing" ∈ tb := tb1 (i := 3) rfl rfl
theorem m_1_4 : Cond.initialized "HiredToWait$Waiter" ∈ tb := tb1 (i := 4) rfl rfl
theorem m_1_5 : Cond.initialized "HiredToWait$GuildText" ∈ tb := tb1 (i := 5) rfl rfl
theorem m_1_6 : Cond.initialized "HiredToWait$Rota" ∈ tb := tb1 (i := 6) rfl rfl
theorem m_1_7 : Cond.initialized "HiredToWait$Bodies" ∈ tb := tb1 (i := 7) rfl rfl
theorem m_1_8 : Cond.initialized "HiredToWait$Shelf" ∈ tb := tb1 (i := 8) rfl rfl
theorem m_1_9 : Cond.initialized "HiredToWaitModel" ∈ tb := tb1 (i := 9) rfl rfl
theorem m_1_10 : Cond.initialized "java/lang/System" ∈ tb := tb1 (i := 10) rfl rfl
theorem m_1_11 : Cond.initialized "java/lang/Math" ∈ tb := tb1 (i := 11) rfl rfl
theorem m_1_12 : Cond.initialized "java/lang/String" ∈ tb := tb1 (i := 12) rfl rfl
theorem m_1_13 : Cond.initialized "java/lang/StringLatin1" ∈ tb := tb1 (i := 13) rfl rfl
theorem m_1_14 : Cond.initialized "jdk/internal/util/Preconditions" ∈ tb := tb1 (i := 14) rfl rfl
theorem m_1_15 : Cond.initialized "java/lang/StringUTF16" ∈ tb := tb1 (i := 15) rfl rfl
theorem m_1_16 : Cond.initialized "java/lang/Integer" ∈ tb := tb1 (i := 16) rfl rfl
theorem m_1_17 : Cond.classLink "HiredToWaitLaw" 7 "HiredToWait" ∈ tb := tb1 (i := 17) rfl rfl
theorem m_1_18 : Cond.instantiable "HiredToWait" 9 ∈ tb := tb1 (i := 18) rfl rfl
theorem m_1_19 : Cond.methodLink "HiredToWaitLaw" 9 ⟨"HiredToWait", "<init>", "()V"⟩ ∈ tb := tb1 (i := 19) rfl rfl
theorem m_1_20 : Cond.instanceMethod ⟨"HiredToWait", "<init>", "()V"⟩ ∈ tb := tb1 (i := 20) rfl rfl
theorem m_1_21 : Cond.code ⟨"HiredToWait", "<init>", "()V"⟩ prog_1_method_1_code 2 none ∈ tb := tb1 (i := 21) rfl rfl
theorem m_1_22 : Cond.methodLink "HiredToWait" 1 ⟨"java/lang/Object", "<init>", "()V"⟩ ∈ tb := tb1 (i := 22) rfl rfl
theorem m_1_23 : Cond.instanceMethod ⟨"java/lang/Object", "<init>", "()V"⟩ ∈ tb := tb1 (i := 23) rfl rfl
theorem m_1_24 : Cond.code ⟨"java/lang/Object", "<init>", "()V"⟩ object_method_1_code 1 none ∈ tb := tb1 (i := 24) rfl rfl
theorem m_1_25 : Cond.classLink "HiredToWait" 9 "HiredToWait$Shelf" ∈ tb := tb1 (i := 25) rfl rfl
theorem m_1_27 : Cond.classLink "HiredToWait" 15 "HiredToWait$Guild" ∈ tb := tb1 (i := 27) rfl rfl
theorem m_1_28 : Cond.instantiable "HiredToWait$Guild" 10 ∈ tb := tb1 (i := 28) rfl rfl
theorem m_1_29 : Cond.methodLink "HiredToWait" 17 ⟨"HiredToWait$Guild", "<init>", "()V"⟩ ∈ tb := tb1 (i := 29) rfl rfl
theorem m_1_30 : Cond.instanceMethod ⟨"HiredToWait$Guild", "<init>", "()V"⟩ ∈ tb := tb1 (i := 30) rfl rfl
theorem m_1_31 : Cond.code ⟨"HiredToWait$Guild", "<init>", "()V"⟩ prog_3_method_1_code 2 none ∈ tb := tb1 (i := 31) rfl rfl
theorem m_1_32 : Cond.methodLink "HiredToWait$Guild" 3 ⟨"java/lang/Object", "<init>", "()V"⟩ ∈ tb := tb1 (i := 32) rfl rfl
theorem m_1_33 : Cond.classLink "HiredToWait$Guild" 9 "HiredToWait$Thing" ∈ tb := tb1 (i := 33) rfl rfl
theorem m_1_35 : Cond.classLink "HiredToWait$Guild" 17 "HiredToWait$Waiter" ∈ tb := tb1 (i := 35) rfl rfl
theorem m_1_37 : Cond.instantiable "HiredToWait$Thing" 7 ∈ tb := tb1 (i := 37) rfl rfl
theorem m_1_39 : Cond.instanceMethod ⟨"HiredToWait$Thing", "<init>", "()V"⟩ ∈ tb := tb1 (i := 39) rfl rfl
theorem m_1_40 : Cond.code ⟨"HiredToWait$Thing", "<init>", "()V"⟩ prog_7_method_1_code 1 none ∈ tb := tb1 (i := 40) rfl rfl
theorem m_1_41 : Cond.methodLink "HiredToWait$Thing" 3 ⟨"java/lang/Object", "<init>", "()V"⟩ ∈ tb := tb1 (i := 41) rfl rfl
theorem m_1_42 : Cond.fieldLink "HiredToWait$Thing" 9 "HiredToWait$Thing" "corner" "I" ∈ tb := tb1 (i := 42) rfl rfl
theorem m_1_43 : Cond.fieldLink "HiredToWait$Guild" 64 "HiredToWait$Thing" "corner" "I" ∈ tb := tb1 (i := 43) rfl rfl
theorem m_1_44 : Cond.fieldLink "HiredToWait$Thing" 15 "HiredToWait$Thing" "first" "I" ∈ tb := tb1 (i := 44) rfl rfl
theorem m_1_45 : Cond.fieldLink "HiredToWait$Guild" 67 "HiredToWait$Thing" "first" "I" ∈ tb := tb1 (i := 45) rfl rfl
theorem m_1_46 : Cond.fieldLink "HiredToWait$Thing" 18 "HiredToWait$Thing" "last" "I" ∈ tb := tb1 (i := 46) rfl rfl
theorem m_1_47 : Cond.fieldLink "HiredToWait$Guild" 70 "HiredToWait$Thing" "last" "I" ∈ tb := tb1 (i := 47) rfl rfl
theorem m_1_48 : Cond.fieldLink "HiredToWait$Thing" 21 "HiredToWait$Thing" "never" "I" ∈ tb := tb1 (i := 48) rfl rfl
theorem m_1_49 : Cond.fieldLink "HiredToWait$Guild" 73 "HiredToWait$Thing" "never" "I" ∈ tb := tb1 (i := 49) rfl rfl
theorem m_1_50 : Cond.fieldLink "HiredToWait$Thing" 24 "HiredToWait$Thing" "worth" "I" ∈ tb := tb1 (i := 50) rfl rfl
theorem m_1_51 : Cond.fieldLink "HiredToWait$Guild" 76 "HiredToWait$Thing" "worth" "I" ∈ tb := tb1 (i := 51) rfl rfl
theorem m_1_52 : Cond.fieldLink "HiredToWait$Thing" 27 "HiredToWait$Thing" "stays" "I" ∈ tb := tb1 (i := 52) rfl rfl
theorem m_1_53 : Cond.fieldLink "HiredToWait$Guild" 79 "HiredToWait$Thing" "stays" "I" ∈ tb := tb1 (i := 53) rfl rfl
theorem m_1_54 : Cond.fieldLink "HiredToWait$Thing" 30 "HiredToWait$Thing" "away" "I" ∈ tb := tb1 (i := 54) rfl rfl
theorem m_1_55 : Cond.fieldLink "HiredToWait$Guild" 82 "HiredToWait$Thing" "away" "I" ∈ tb := tb1 (i := 55) rfl rfl
theorem m_1_56 : Cond.lays "HiredToWait$Thing" "HiredToWait$Thing" "corner" "I" ∈ tb := tb1 (i := 56) rfl rfl
theorem m_1_58 : Cond.lays "HiredToWait$Thing" "HiredToWait$Thing" "first" "I" ∈ tb := tb1 (i := 58) rfl rfl
theorem m_1_60 : Cond.lays "HiredToWait$Thing" "HiredToWait$Thing" "last" "I" ∈ tb := tb1 (i := 60) rfl rfl
theorem m_1_62 : Cond.lays "HiredToWait$Thing" "HiredToWait$Thing" "never" "I" ∈ tb := tb1 (i := 62) rfl rfl
theorem m_1_64 : Cond.lays "HiredToWait$Thing" "HiredToWait$Thing" "worth" "I" ∈ tb := tb1 (i := 64) rfl rfl
theorem m_1_66 : Cond.lays "HiredToWait$Thing" "HiredToWait$Thing" "stays" "I" ∈ tb := tb1 (i := 66) rfl rfl
theorem m_1_68 : Cond.lays "HiredToWait$Thing" "HiredToWait$Thing" "away" "I" ∈ tb := tb1 (i := 68) rfl rfl
theorem m_1_70 : Cond.superclass "HiredToWait$Thing" "java/lang/Object" ∈ tb := tb1 (i := 70) rfl rfl
theorem m_1_71 : Cond.arrayClass .int ∈ tb := tb1 (i := 71) rfl rfl
theorem m_1_72 : Cond.instantiable "HiredToWait$Waiter" 6 ∈ tb := tb1 (i := 72) rfl rfl
theorem m_1_73 : Cond.methodLink "HiredToWait$Guild" 50 ⟨"HiredToWait$Waiter", "<init>", "(I)V"⟩ ∈ tb := tb1 (i := 73) rfl rfl
theorem m_1_74 : Cond.instanceMethod ⟨"HiredToWait$Waiter", "<init>", "(I)V"⟩ ∈ tb := tb1 (i := 74) rfl rfl
theorem m_1_75 : Cond.code ⟨"HiredToWait$Waiter", "<init>", "(I)V"⟩ prog_8_method_1_code 2 none ∈ tb := tb1 (i := 75) rfl rfl
theorem m_1_76 : Cond.methodLink "HiredToWait$Waiter" 3 ⟨"java/lang/Object", "<init>", "()V"⟩ ∈ tb := tb1 (i := 76) rfl rfl
theorem m_1_77 : Cond.fieldLink "HiredToWait$Waiter" 9 "HiredToWait$Waiter" "number" "I" ∈ tb := tb1 (i := 77) rfl rfl
theorem m_1_78 : Cond.fieldLink "HiredToWait$Bodies" 46 "HiredToWait$Waiter" "number" "I" ∈ tb := tb1 (i := 78) rfl rfl
theorem m_1_79 : Cond.fieldLink "HiredToWait$Waiter" 15 "HiredToWait$Waiter" "kind" "I" ∈ tb := tb1 (i := 79) rfl rfl
theorem m_1_80 : Cond.fieldLink "HiredToWait$Bodies" 19 "HiredToWait$Waiter" "kind" "I" ∈ tb := tb1 (i := 80) rfl rfl
theorem m_1_81 : Cond.fieldLink "HiredToWait$Guild" 88 "HiredToWait$Waiter" "kind" "I" ∈ tb := tb1 (i := 81) rfl rfl
theorem m_1_82 : Cond.fieldLink "HiredToWait" 128 "HiredToWait$Waiter" "kind" "I" ∈ tb := tb1 (i := 82) rfl rfl
theorem m_1_83 : Cond.fieldLink "HiredToWait$Waiter" 18 "HiredToWait$Waiter" "a" "I" ∈ tb := tb1 (i := 83) rfl rfl
theorem m_1_84 : Cond.fieldLink "HiredToWait$Bodies" 49 "HiredToWait$Waiter" "a" "I" ∈ tb := tb1 (i := 84) rfl rfl
theorem m_1_85 : Cond.fieldLink "HiredToWait$Guild" 91 "HiredToWait$Waiter" "a" "I" ∈ tb := tb1 (i := 85) rfl rfl
theorem m_1_86 : Cond.fieldLink "HiredToWait$Waiter" 21 "HiredToWait$Waiter" "pay" "I" ∈ tb := tb1 (i := 86) rfl rfl
theorem m_1_87 : Cond.fieldLink "HiredToWait$Guild" 94 "HiredToWait$Waiter" "pay" "I" ∈ tb := tb1 (i := 87) rfl rfl
theorem m_1_88 : Cond.fieldLink "HiredToWait$Waiter" 24 "HiredToWait$Waiter" "patience" "I" ∈ tb := tb1 (i := 88) rfl rfl
theorem m_1_89 : Cond.fieldLink "HiredToWait$Guild" 97 "HiredToWait$Waiter" "patience" "I" ∈ tb := tb1 (i := 89) rfl rfl
theorem m_1_90 : Cond.fieldLink "HiredToWait$Waiter" 27 "HiredToWait$Waiter" "at" "I" ∈ tb := tb1 (i := 90) rfl rfl
theorem m_1_91 : Cond.fieldLink "HiredToWait$GuildText" 112 "HiredToWait$Waiter" "at" "I" ∈ tb := tb1 (i := 91) rfl rfl
theorem m_1_92 : Cond.fieldLink "HiredToWait$Guild" 100 "HiredToWait$Waiter" "at" "I" ∈ tb := tb1 (i := 92) rfl rfl
theorem m_1_93 : Cond.fieldLink "HiredToWait" 156 "HiredToWait$Waiter" "at" "I" ∈ tb := tb1 (i := 93) rfl rfl
theorem m_1_94 : Cond.laysFinal "HiredToWait$Waiter" "HiredToWait$Waiter" "number" "I" ∈ tb := tb1 (i := 94) rfl rfl
theorem m_1_96 : Cond.lays "HiredToWait$Waiter" "HiredToWait$Waiter" "kind" "I" ∈ tb := tb1 (i := 96) rfl rfl
theorem m_1_98 : Cond.lays "HiredToWait$Waiter" "HiredToWait$Waiter" "a" "I" ∈ tb := tb1 (i := 98) rfl rfl
theorem m_1_100 : Cond.lays "HiredToWait$Waiter" "HiredToWait$Waiter" "pay" "I" ∈ tb := tb1 (i := 100) rfl rfl
theorem m_1_102 : Cond.lays "HiredToWait$Waiter" "HiredToWait$Waiter" "patience" "I" ∈ tb := tb1 (i := 102) rfl rfl
theorem m_1_104 : Cond.lays "HiredToWait$Waiter" "HiredToWait$Waiter" "at" "I" ∈ tb := tb1 (i := 104) rfl rfl
theorem m_1_106 : Cond.superclass "HiredToWait$Waiter" "java/lang/Object" ∈ tb := tb1 (i := 106) rfl rfl
theorem m_1_107 : Cond.fieldLink "HiredToWait$Guild" 11 "HiredToWait$Guild" "things" "[LHiredToWait$Thing;" ∈ tb := tb1 (i := 107) rfl rfl
theorem m_1_108 : Cond.fieldLink "HiredToWait" 164 "HiredToWait$Guild" "things" "[LHiredToWait$Thing;" ∈ tb := tb1 (i := 108) rfl rfl
theorem m_1_109 : Cond.fieldLink "HiredToWait$Guild" 19 "HiredToWait$Guild" "waiters" "[LHiredToWait$Waiter;" ∈ tb := tb1 (i := 109) rfl rfl
theorem m_1_110 : Cond.fieldLink "HiredToWait$Rota" 47 "HiredToWait$Guild" "waiters" "[LHiredToWait$Waiter;" ∈ tb := tb1 (i := 110) rfl rfl
theorem m_1_111 : Cond.fieldLink "HiredToWait$GuildText" 108 "HiredToWait$Guild" "waiters" "[LHiredToWait$Waiter;" ∈ tb := tb1 (i := 111) rfl rfl
theorem m_1_112 : Cond.fieldLink "HiredToWait" 124 "HiredToWait$Guild" "waiters" "[LHiredToWait$Waiter;" ∈ tb := tb1 (i := 112) rfl rfl
theorem m_1_113 : Cond.fieldLink "HiredToWait$Guild" 23 "HiredToWait$Guild" "seenFromPost" "[I" ∈ tb := tb1 (i := 113) rfl rfl
theorem m_1_114 : Cond.fieldLink "HiredToWait$Guild" 27 "HiredToWait$Guild" "thingCount" "I" ∈ tb := tb1 (i := 114) rfl rfl
theorem m_1_115 : Cond.fieldLink "HiredToWait" 260 "HiredToWait$Guild" "thingCount" "I" ∈ tb := tb1 (i := 115) rfl rfl
theorem m_1_116 : Cond.fieldLink "HiredToWait$Guild" 31 "HiredToWait$Guild" "waiterCount" "I" ∈ tb := tb1 (i := 116) rfl rfl
theorem m_1_117 : Cond.fieldLink "HiredToWait$Rota" 29 "HiredToWait$Guild" "waiterCount" "I" ∈ tb := tb1 (i := 117) rfl rfl
theorem m_1_118 : Cond.fieldLink "HiredToWait$GuildText" 101 "HiredToWait$Guild" "waiterCount" "I" ∈ tb := tb1 (i := 118) rfl rfl
theorem m_1_119 : Cond.fieldLink "HiredToWait" 306 "HiredToWait$Guild" "waiterCount" "I" ∈ tb := tb1 (i := 119) rfl rfl
theorem m_1_120 : Cond.fieldLink "HiredToWait$Guild" 34 "HiredToWait$Guild" "hope" "I" ∈ tb := tb1 (i := 120) rfl rfl
theorem m_1_121 : Cond.fieldLink "HiredToWait$Rota" 51 "HiredToWait$Guild" "hope" "I" ∈ tb := tb1 (i := 121) rfl rfl
theorem m_1_122 : Cond.fieldLink "HiredToWait$GuildText" 119 "HiredToWait$Guild" "hope" "I" ∈ tb := tb1 (i := 122) rfl rfl
theorem m_1_123 : Cond.fieldLink "HiredToWait" 158 "HiredToWait$Guild" "hope" "I" ∈ tb := tb1 (i := 123) rfl rfl
theorem m_1_124 : Cond.fieldLink "HiredToWait$Guild" 37 "HiredToWait$Guild" "daysPassed" "I" ∈ tb := tb1 (i := 124) rfl rfl
theorem m_1_125 : Cond.fieldLink "HiredToWait" 289 "HiredToWait$Guild" "daysPassed" "I" ∈ tb := tb1 (i := 125) rfl rfl
theorem m_1_126 : Cond.fieldLink "HiredToWait$Guild" 40 "HiredToWait$Guild" "takings" "I" ∈ tb := tb1 (i := 126) rfl rfl
theorem m_1_127 : Cond.fieldLink "HiredToWait" 286 "HiredToWait$Guild" "takings" "I" ∈ tb := tb1 (i := 127) rfl rfl
theorem m_1_128 : Cond.fieldLink "HiredToWait$Guild" 43 "HiredToWait$Guild" "wages" "I" ∈ tb := tb1 (i := 128) rfl rfl
theorem m_1_129 : Cond.fieldLink "HiredToWait" 309 "HiredToWait$Guild" "wages" "I" ∈ tb := tb1 (i := 129) rfl rfl
theorem m_1_130 : Cond.fieldLink "HiredToWait$Guild" 46 "HiredToWait$Guild" "seed" "I" ∈ tb := tb1 (i := 130) rfl rfl
theorem m_1_131 : Cond.fieldLink "HiredToWait" 295 "HiredToWait$Guild" "seed" "I" ∈ tb := tb1 (i := 131) rfl rfl
theorem m_1_132 : Cond.laysFinal "HiredToWait$Guild" "HiredToWait$Guild" "things" "[LHiredToWait$Thing;" ∈ tb := tb1 (i := 132) rfl rfl
theorem m_1_134 : Cond.laysFinal "HiredToWait$Guild" "HiredToWait$Guild" "waiters" "[LHiredToWait$Waiter;" ∈ tb := tb1 (i := 134) rfl rfl
theorem m_1_136 : Cond.laysFinal "HiredToWait$Guild" "HiredToWait$Guild" "seenFromPost" "[I" ∈ tb := tb1 (i := 136) rfl rfl
theorem m_1_138 : Cond.lays "HiredToWait$Guild" "HiredToWait$Guild" "thingCount" "I" ∈ tb := tb1 (i := 138) rfl rfl
theorem m_1_140 : Cond.lays "HiredToWait$Guild" "HiredToWait$Guild" "waiterCount" "I" ∈ tb := tb1 (i := 140) rfl rfl
theorem m_1_142 : Cond.lays "HiredToWait$Guild" "HiredToWait$Guild" "hope" "I" ∈ tb := tb1 (i := 142) rfl rfl
theorem m_1_144 : Cond.lays "HiredToWait$Guild" "HiredToWait$Guild" "daysPassed" "I" ∈ tb := tb1 (i := 144) rfl rfl
theorem m_1_146 : Cond.lays "HiredToWait$Guild" "HiredToWait$Guild" "takings" "I" ∈ tb := tb1 (i := 146) rfl rfl
theorem m_1_148 : Cond.lays "HiredToWait$Guild" "HiredToWait$Guild" "wages" "I" ∈ tb := tb1 (i := 148) rfl rfl
theorem m_1_150 : Cond.lays "HiredToWait$Guild" "HiredToWait$Guild" "seed" "I" ∈ tb := tb1 (i := 150) rfl rfl
theorem m_1_152 : Cond.superclass "HiredToWait$Guild" "java/lang/Object" ∈ tb := tb1 (i := 152) rfl rfl
theorem m_1_153 : Cond.classLink "HiredToWait" 25 "HiredToWait$GuildText" ∈ tb := tb1 (i := 153) rfl rfl
theorem m_1_154 : Cond.instantiable "HiredToWait$GuildText" 6 ∈ tb := tb1 (i := 154) rfl rfl
theorem m_1_156 : Cond.instanceMethod ⟨"HiredToWait$GuildText", "<init>", "()V"⟩ ∈ tb := tb1 (i := 156) rfl rfl
theorem m_1_157 : Cond.code ⟨"HiredToWait$GuildText", "<init>", "()V"⟩ prog_4_method_1_code 1 none ∈ tb := tb1 (i := 157) rfl rfl
theorem m_1_158 : Cond.methodLink "HiredToWait$GuildText" 3 ⟨"java/lang/Object", "<init>", "()V"⟩ ∈ tb := tb1 (i := 158) rfl rfl
theorem m_1_159 : Cond.classLink "HiredToWait$GuildText" 9 "HiredToWait$Guild" ∈ tb := tb1 (i := 159) rfl rfl
theorem m_1_160 : Cond.methodLink "HiredToWait$GuildText" 11 ⟨"HiredToWait$Guild", "<init>", "()V"⟩ ∈ tb := tb1 (i := 160) rfl rfl
theorem m_1_161 : Cond.fieldLink "HiredToWait$GuildText" 12 "HiredToWait$GuildText" "draft" "LHiredToWait$Guild;" ∈ tb := tb1 (i := 161) rfl rfl
theorem m_1_162 : Cond.fieldLink "HiredToWait" 182 "HiredToWait$GuildText" "draft" "LHiredToWait$Guild;" ∈ tb := tb1 (i := 162) rfl rfl
theorem m_1_163 : Cond.fieldLink "HiredToWait$GuildText" 18 "HiredToWait$GuildText" "items" "I" ∈ tb := tb1 (i := 163) rfl rfl
theorem m_1_164 : Cond.fieldLink "HiredToWait" 189 "HiredToWait$GuildText" "items" "I" ∈ tb := tb1 (i := 164) rfl rfl
theorem m_1_165 : Cond.fieldLink "HiredToWait$GuildText" 22 "HiredToWait$GuildText" "letters" "[I" ∈ tb := tb1 (i := 165) rfl rfl
theorem m_1_166 : Cond.fieldLink "HiredToWait$GuildText" 26 "HiredToWait$GuildText" "size" "I" ∈ tb := tb1 (i := 166) rfl rfl
theorem m_1_167 : Cond.fieldLink "HiredToWait$GuildText" 29 "HiredToWait$GuildText" "place" "I" ∈ tb := tb1 (i := 167) rfl rfl
theorem m_1_168 : Cond.fieldLink "HiredToWait$GuildText" 32 "HiredToWait$GuildText" "fault" "I" ∈ tb := tb1 (i := 168) rfl rfl
theorem m_1_169 : Cond.laysFinal "HiredToWait$GuildText" "HiredToWait$GuildText" "draft" "LHiredToWait$Guild;" ∈ tb := tb1 (i := 169) rfl rfl
theorem m_1_171 : Cond.lays "HiredToWait$GuildText" "HiredToWait$GuildText" "items" "I" ∈ tb := tb1 (i := 171) rfl rfl
theorem m_1_173 : Cond.laysFinal "HiredToWait$GuildText" "HiredToWait$GuildText" "letters" "[I" ∈ tb := tb1 (i := 173) rfl rfl
theorem m_1_175 : Cond.lays "HiredToWait$GuildText" "HiredToWait$GuildText" "size" "I" ∈ tb := tb1 (i := 175) rfl rfl
theorem m_1_177 : Cond.lays "HiredToWait$GuildText" "HiredToWait$GuildText" "place" "I" ∈ tb := tb1 (i := 177) rfl rfl
theorem m_1_179 : Cond.lays "HiredToWait$GuildText" "HiredToWait$GuildText" "fault" "I" ∈ tb := tb1 (i := 179) rfl rfl
theorem m_1_181 : Cond.superclass "HiredToWait$GuildText" "java/lang/Object" ∈ tb := tb1 (i := 181) rfl rfl
theorem m_1_182 : Cond.classLink "HiredToWait" 32 "HiredToWait$Rota" ∈ tb := tb1 (i := 182) rfl rfl
theorem m_1_183 : Cond.instantiable "HiredToWait$Rota" 2 ∈ tb := tb1 (i := 183) rfl rfl
theorem m_1_185 : Cond.instanceMethod ⟨"HiredToWait$Rota", "<init>", "()V"⟩ ∈ tb := tb1 (i := 185) rfl rfl
theorem m_1_186 : Cond.code ⟨"HiredToWait$Rota", "<init>", "()V"⟩ prog_5_method_1_code 1 none ∈ tb := tb1 (i := 186) rfl rfl
theorem m_1_187 : Cond.methodLink "HiredToWait$Rota" 3 ⟨"java/lang/Object", "<init>", "()V"⟩ ∈ tb := tb1 (i := 187) rfl rfl
theorem m_1_188 : Cond.classLink "HiredToWait$Rota" 9 "[[I" ∈ tb := tb1 (i := 188) rfl rfl
theorem m_1_190 : Cond.fieldLink "HiredToWait$Rota" 11 "HiredToWait$Rota" "least" "[[I" ∈ tb := tb1 (i := 190) rfl rfl
theorem m_1_191 : Cond.fieldLink "HiredToWait$Rota" 16 "HiredToWait$Rota" "quarters" "I" ∈ tb := tb1 (i := 191) rfl rfl
theorem m_1_192 : Cond.laysFinal "HiredToWait$Rota" "HiredToWait$Rota" "least" "[[I" ∈ tb := tb1 (i := 192) rfl rfl
theorem m_1_194 : Cond.lays "HiredToWait$Rota" "HiredToWait$Rota" "quarters" "I" ∈ tb := tb1 (i := 194) rfl rfl
theorem m_1_196 : Cond.superclass "HiredToWait$Rota" "java/lang/Object" ∈ tb := tb1 (i := 196) rfl rfl
theorem m_1_197 : Cond.classLink "HiredToWait" 39 "HiredToWait$Bodies" ∈ tb := tb1 (i := 197) rfl rfl
theorem m_1_198 : Cond.instantiable "HiredToWait$Bodies" 2 ∈ tb := tb1 (i := 198) rfl rfl
theorem m_1_200 : Cond.instanceMethod ⟨"HiredToWait$Bodies", "<init>", "()V"⟩ ∈ tb := tb1 (i := 200) rfl rfl
theorem m_1_201 : Cond.code ⟨"HiredToWait$Bodies", "<init>", "()V"⟩ prog_2_method_1_code 1 none ∈ tb := tb1 (i := 201) rfl rfl
theorem m_1_202 : Cond.methodLink "HiredToWait$Bodies" 3 ⟨"java/lang/Object", "<init>", "()V"⟩ ∈ tb := tb1 (i := 202) rfl rfl
theorem m_1_203 : Cond.fieldLink "HiredToWait$Bodies" 11 "HiredToWait$Bodies" "trace" "[I" ∈ tb := tb1 (i := 203) rfl rfl
theorem m_1_204 : Cond.fieldLink "HiredToWait$Bodies" 15 "HiredToWait$Bodies" "ran" "I" ∈ tb := tb1 (i := 204) rfl rfl
theorem m_1_205 : Cond.fieldLink "HiredToWait" 312 "HiredToWait$Bodies" "ran" "I" ∈ tb := tb1 (i := 205) rfl rfl
theorem m_1_206 : Cond.laysFinal "HiredToWait$Bodies" "HiredToWait$Bodies" "trace" "[I" ∈ tb := tb1 (i := 206) rfl rfl
theorem m_1_208 : Cond.lays "HiredToWait$Bodies" "HiredToWait$Bodies" "ran" "I" ∈ tb := tb1 (i := 208) rfl rfl
theorem m_1_210 : Cond.superclass "HiredToWait$Bodies" "java/lang/Object" ∈ tb := tb1 (i := 210) rfl rfl
theorem m_1_211 : Cond.instantiable "HiredToWait$Shelf" 3 ∈ tb := tb1 (i := 211) rfl rfl
theorem m_1_213 : Cond.instanceMethod ⟨"HiredToWait$Shelf", "<init>", "()V"⟩ ∈ tb := tb1 (i := 213) rfl rfl
theorem m_1_214 : Cond.code ⟨"HiredToWait$Shelf", "<init>", "()V"⟩ prog_6_method_1_code 1 none ∈ tb := tb1 (i := 214) rfl rfl
theorem m_1_215 : Cond.methodLink "HiredToWait$Shelf" 3 ⟨"java/lang/Object", "<init>", "()V"⟩ ∈ tb := tb1 (i := 215) rfl rfl
theorem m_1_216 : Cond.fieldLink "HiredToWait$Shelf" 9 "HiredToWait$Shelf" "elements" "[J" ∈ tb := tb1 (i := 216) rfl rfl
theorem m_1_217 : Cond.fieldLink "HiredToWait" 93 "HiredToWait$Shelf" "elements" "[J" ∈ tb := tb1 (i := 217) rfl rfl
theorem m_1_218 : Cond.fieldLink "HiredToWait$Shelf" 15 "HiredToWait$Shelf" "holding" "I" ∈ tb := tb1 (i := 218) rfl rfl
theorem m_1_219 : Cond.fieldLink "HiredToWait" 114 "HiredToWait$Shelf" "holding" "I" ∈ tb := tb1 (i := 219) rfl rfl
theorem m_1_220 : Cond.fieldLink "HiredToWait$Shelf" 19 "HiredToWait$Shelf" "size" "I" ∈ tb := tb1 (i := 220) rfl rfl
theorem m_1_221 : Cond.fieldLink "HiredToWait$GuildText" 39 "HiredToWait$Shelf" "size" "I" ∈ tb := tb1 (i := 221) rfl rfl
theorem m_1_222 : Cond.fieldLink "HiredToWait" 315 "HiredToWait$Shelf" "size" "I" ∈ tb := tb1 (i := 222) rfl rfl
theorem m_1_223 : Cond.laysFinal "HiredToWait$Shelf" "HiredToWait$Shelf" "elements" "[J" ∈ tb := tb1 (i := 223) rfl rfl
theorem m_1_225 : Cond.lays "HiredToWait$Shelf" "HiredToWait$Shelf" "holding" "I" ∈ tb := tb1 (i := 225) rfl rfl
theorem m_1_227 : Cond.lays "HiredToWait$Shelf" "HiredToWait$Shelf" "size" "I" ∈ tb := tb1 (i := 227) rfl rfl
theorem m_1_229 : Cond.superclass "HiredToWait$Shelf" "java/lang/Object" ∈ tb := tb1 (i := 229) rfl rfl
theorem m_1_230 : Cond.arrayClass .long ∈ tb := tb1 (i := 230) rfl rfl
theorem m_1_231 : Cond.fieldLink "HiredToWait" 11 "HiredToWait" "shelves" "[LHiredToWait$Shelf;" ∈ tb := tb1 (i := 231) rfl rfl
theorem m_1_232 : Cond.fieldLink "HiredToWait" 18 "HiredToWait" "guild" "LHiredToWait$Guild;" ∈ tb := tb1 (i := 232) rfl rfl
theorem m_1_233 : Cond.fieldLink "HiredToWait" 22 "HiredToWait" "kept" "LHiredToWait$Guild;" ∈ tb := tb1 (i := 233) rfl rfl
theorem m_1_234 : Cond.fieldLink "HiredToWait" 28 "HiredToWait" "text" "LHiredToWait$GuildText;" ∈ tb := tb1 (i := 234) rfl rfl
theorem m_1_235 : Cond.fieldLink "HiredToWait" 35 "HiredToWait" "plan" "LHiredToWait$Rota;" ∈ tb := tb1 (i := 235) rfl rfl
theorem m_1_236 : Cond.fieldLink "HiredToWait" 42 "HiredToWait" "bodies" "LHiredToWait$Bodies;" ∈ tb := tb1 (i := 236) rfl rfl
theorem m_1_237 : Cond.fieldLink "HiredToWait" 46 "HiredToWait" "refusals" "[I" ∈ tb := tb1 (i := 237) rfl rfl
theorem m_1_238 : Cond.fieldLink "HiredToWait" 50 "HiredToWait" "imageTaken" "Z" ∈ tb := tb1 (i := 238) rfl rfl
theorem m_1_239 : Cond.fieldLink "HiredToWait" 54 "HiredToWait" "latestFault" "I" ∈ tb := tb1 (i := 239) rfl rfl
theorem m_2_0 : Cond.laysFinal "HiredToWait" "HiredToWait" "shelves" "[LHiredToWait$Shelf;" ∈ tb := tb2 (i := 0) rfl rfl
theorem m_2_2 : Cond.laysFinal "HiredToWait" "HiredToWait" "guild" "LHiredToWait$Guild;" ∈ tb := tb2 (i := 2) rfl rfl
theorem m_2_4 : Cond.laysFinal "HiredToWait" "HiredToWait" "kept" "LHiredToWait$Guild;" ∈ tb := tb2 (i := 4) rfl rfl
theorem m_2_6 : Cond.laysFinal "HiredToWait" "HiredToWait" "text" "LHiredToWait$GuildText;" ∈ tb := tb2 (i := 6) rfl rfl
theorem m_2_8 : Cond.laysFinal "HiredToWait" "HiredToWait" "plan" "LHiredToWait$Rota;" ∈ tb := tb2 (i := 8) rfl rfl
theorem m_2_10 : Cond.laysFinal "HiredToWait" "HiredToWait" "bodies" "LHiredToWait$Bodies;" ∈ tb := tb2 (i := 10) rfl rfl
theorem m_2_12 : Cond.laysFinal "HiredToWait" "HiredToWait" "refusals" "[I" ∈ tb := tb2 (i := 12) rfl rfl
theorem m_2_14 : Cond.lays "HiredToWait" "HiredToWait" "imageTaken" "Z" ∈ tb := tb2 (i := 14) rfl rfl
theorem m_2_16 : Cond.lays "HiredToWait" "HiredToWait" "latestFault" "I" ∈ tb := tb2 (i := 16) rfl rfl
theorem m_2_18 : Cond.superclass "HiredToWait" "java/lang/Object" ∈ tb := tb2 (i := 18) rfl rfl
theorem m_2_19 : Cond.methodLink "HiredToWaitLaw" 13 ⟨"HiredToWait", "row", "(III)I"⟩ ∈ tb := tb2 (i := 19) rfl rfl
theorem m_2_20 : Cond.instanceMethod ⟨"HiredToWait", "row", "(III)I"⟩ ∈ tb := tb2 (i := 20) rfl rfl
theorem m_2_21 : Cond.selects "HiredToWait" ⟨"HiredToWait", "row", "(III)I"⟩ ⟨"HiredToWait", "row", "(III)I"⟩ ∈ tb := tb2 (i := 21) rfl rfl
theorem m_2_22 : Cond.code ⟨"HiredToWait", "row", "(III)I"⟩ prog_1_method_2_code 4 (some .int) ∈ tb := tb2 (i := 22) rfl rfl
theorem m_2_23 : Cond.methodLink "HiredToWait" 59 ⟨"HiredToWait", "isShelf", "(I)Z"⟩ ∈ tb := tb2 (i := 23) rfl rfl
theorem m_2_24 : Cond.static ⟨"HiredToWait", "isShelf", "(I)Z"⟩ ∈ tb := tb2 (i := 24) rfl rfl
theorem m_2_25 : Cond.code ⟨"HiredToWait", "isShelf", "(I)Z"⟩ prog_1_method_47_code 1 (some .boolean) ∈ tb := tb2 (i := 25) rfl rfl
theorem m_2_26 : Cond.methodLink "HiredToWait" 67 ⟨"HiredToWait", "within", "(III)Z"⟩ ∈ tb := tb2 (i := 26) rfl rfl
theorem m_2_27 : Cond.static ⟨"HiredToWait", "within", "(III)Z"⟩ ∈ tb := tb2 (i := 27) rfl rfl
theorem m_2_28 : Cond.code ⟨"HiredToWait", "within", "(III)Z"⟩ prog_1_method_46_code 3 (some .boolean) ∈ tb := tb2 (i := 28) rfl rfl
theorem m_2_29 : Cond.methodLink "HiredToWait" 63 ⟨"HiredToWait", "refuse", "(I)I"⟩ ∈ tb := tb2 (i := 29) rfl rfl
theorem m_2_31 : Cond.instanceMethod ⟨"HiredToWait", "refuse", "(I)I"⟩ ∈ tb := tb2 (i := 31) rfl rfl
theorem m_2_32 : Cond.code ⟨"HiredToWait", "refuse", "(I)I"⟩ prog_1_method_39_code 3 (some .int) ∈ tb := tb2 (i := 32) rfl rfl
theorem m_2_33 : Cond.methodLink "HiredToWait" 71 ⟨"HiredToWait$Shelf", "layRow", "(II)V"⟩ ∈ tb := tb2 (i := 33) rfl rfl
theorem m_2_34 : Cond.instanceMethod ⟨"HiredToWait$Shelf", "layRow", "(II)V"⟩ ∈ tb := tb2 (i := 34) rfl rfl
theorem m_2_35 : Cond.selects "HiredToWait$Shelf" ⟨"HiredToWait$Shelf", "layRow", "(II)V"⟩ ⟨"HiredToWait$Shelf", "layRow", "(II)V"⟩ ∈ tb := tb2 (i := 35) rfl rfl
theorem m_2_36 : Cond.code ⟨"HiredToWait$Shelf", "layRow", "(II)V"⟩ prog_6_method_3_code 4 none ∈ tb := tb2 (i := 36) rfl rfl
theorem m_2_37 : Cond.methodLink "HiredToWaitLaw" 20 ⟨"HiredToWait", "set", "(IIJ)I"⟩ ∈ tb := tb2 (i := 37) rfl rfl
theorem m_2_38 : Cond.instanceMethod ⟨"HiredToWait", "set", "(IIJ)I"⟩ ∈ tb := tb2 (i := 38) rfl rfl
theorem m_2_39 : Cond.selects "HiredToWait" ⟨"HiredToWait", "set", "(IIJ)I"⟩ ⟨"HiredToWait", "set", "(IIJ)I"⟩ ∈ tb := tb2 (i := 39) rfl rfl
theorem m_2_40 : Cond.code ⟨"HiredToWait", "set", "(IIJ)I"⟩ prog_1_method_3_code 6 (some .int) ∈ tb := tb2 (i := 40) rfl rfl
theorem m_2_41 : Cond.methodLink "HiredToWait" 75 ⟨"HiredToWait", "rowRefusal", "(I)I"⟩ ∈ tb := tb2 (i := 41) rfl rfl
theorem m_2_43 : Cond.instanceMethod ⟨"HiredToWait", "rowRefusal", "(I)I"⟩ ∈ tb := tb2 (i := 43) rfl rfl
theorem m_2_44 : Cond.code ⟨"HiredToWait", "rowRefusal", "(I)I"⟩ prog_1_method_41_code 2 (some .int) ∈ tb := tb2 (i := 44) rfl rfl
theorem m_2_45 : Cond.methodLink "HiredToWait" 120 ⟨"HiredToWait$Shelf", "isRow", "()Z"⟩ ∈ tb := tb2 (i := 45) rfl rfl
theorem m_2_46 : Cond.instanceMethod ⟨"HiredToWait$Shelf", "isRow", "()Z"⟩ ∈ tb := tb2 (i := 46) rfl rfl
theorem m_2_47 : Cond.selects "HiredToWait$Shelf" ⟨"HiredToWait$Shelf", "isRow", "()Z"⟩ ⟨"HiredToWait$Shelf", "isRow", "()Z"⟩ ∈ tb := tb2 (i := 47) rfl rfl
theorem m_2_48 : Cond.code ⟨"HiredToWait$Shelf", "isRow", "()Z"⟩ prog_6_method_2_code 1 (some .boolean) ∈ tb := tb2 (i := 48) rfl rfl
theorem m_2_49 : Cond.methodLink "HiredToWait" 78 ⟨"HiredToWait$Shelf", "hasElement", "(I)Z"⟩ ∈ tb := tb2 (i := 49) rfl rfl
theorem m_2_50 : Cond.instanceMethod ⟨"HiredToWait$Shelf", "hasElement", "(I)Z"⟩ ∈ tb := tb2 (i := 50) rfl rfl
theorem m_2_51 : Cond.selects "HiredToWait$Shelf" ⟨"HiredToWait$Shelf", "hasElement", "(I)Z"⟩ ⟨"HiredToWait$Shelf", "hasElement", "(I)Z"⟩ ∈ tb := tb2 (i := 51) rfl rfl
theorem m_2_52 : Cond.code ⟨"HiredToWait$Shelf", "hasElement", "(I)Z"⟩ prog_6_method_5_code 2 (some .boolean) ∈ tb := tb2 (i := 52) rfl rfl
theorem m_2_53 : Cond.methodLink "HiredToWait" 81 ⟨"HiredToWait$Shelf", "put", "(IJ)V"⟩ ∈ tb := tb2 (i := 53) rfl rfl
theorem m_2_54 : Cond.instanceMethod ⟨"HiredToWait$Shelf", "put", "(IJ)V"⟩ ∈ tb := tb2 (i := 54) rfl rfl
theorem m_2_55 : Cond.selects "HiredToWait$Shelf" ⟨"HiredToWait$Shelf", "put", "(IJ)V"⟩ ⟨"HiredToWait$Shelf", "put", "(IJ)V"⟩ ∈ tb := tb2 (i := 55) rfl rfl
theorem m_2_56 : Cond.code ⟨"HiredToWait$Shelf", "put", "(IJ)V"⟩ prog_6_method_7_code 4 none ∈ tb := tb2 (i := 56) rfl rfl
theorem m_2_57 : Cond.methodLink "HiredToWait$Shelf" 22 ⟨"HiredToWait$Shelf", "hasElement", "(I)Z"⟩ ∈ tb := tb2 (i := 57) rfl rfl
theorem m_2_58 : Cond.methodLink "HiredToWait$Shelf" 26 ⟨"HiredToWait$Shelf", "lowestBits", "(J)J"⟩ ∈ tb := tb2 (i := 58) rfl rfl
theorem m_2_60 : Cond.instanceMethod ⟨"HiredToWait$Shelf", "lowestBits", "(J)J"⟩ ∈ tb := tb2 (i := 60) rfl rfl
theorem m_2_61 : Cond.code ⟨"HiredToWait$Shelf", "lowestBits", "(J)J"⟩ prog_6_method_8_code 3 (some .long) ∈ tb := tb2 (i := 61) rfl rfl
theorem m_2_62 : Cond.methodLink "HiredToWaitLaw" 25 ⟨"HiredToWait", "copy", "(IIIII)I"⟩ ∈ tb := tb2 (i := 62) rfl rfl
theorem m_2_63 : Cond.instanceMethod ⟨"HiredToWait", "copy", "(IIIII)I"⟩ ∈ tb := tb2 (i := 63) rfl rfl
theorem m_2_64 : Cond.selects "HiredToWait" ⟨"HiredToWait", "copy", "(IIIII)I"⟩ ⟨"HiredToWait", "copy", "(IIIII)I"⟩ ∈ tb := tb2 (i := 64) rfl rfl
theorem m_2_65 : Cond.code ⟨"HiredToWait", "copy", "(IIIII)I"⟩ prog_1_method_4_code 7 (some .int) ∈ tb := tb2 (i := 65) rfl rfl
theorem m_2_66 : Cond.methodLink "HiredToWait" 85 ⟨"HiredToWait", "twoRowsRefusal", "(II)I"⟩ ∈ tb := tb2 (i := 66) rfl rfl
theorem m_2_68 : Cond.instanceMethod ⟨"HiredToWait", "twoRowsRefusal", "(II)I"⟩ ∈ tb := tb2 (i := 68) rfl rfl
theorem m_2_69 : Cond.code ⟨"HiredToWait", "twoRowsRefusal", "(II)I"⟩ prog_1_method_42_code 5 (some .int) ∈ tb := tb2 (i := 69) rfl rfl
theorem m_2_70 : Cond.methodLink "HiredToWait" 89 ⟨"HiredToWait$Shelf", "hasPart", "(II)Z"⟩ ∈ tb := tb2 (i := 70) rfl rfl
theorem m_2_71 : Cond.instanceMethod ⟨"HiredToWait$Shelf", "hasPart", "(II)Z"⟩ ∈ tb := tb2 (i := 71) rfl rfl
theorem m_2_72 : Cond.selects "HiredToWait$Shelf" ⟨"HiredToWait$Shelf", "hasPart", "(II)Z"⟩ ⟨"HiredToWait$Shelf", "hasPart", "(II)Z"⟩ ∈ tb := tb2 (i := 72) rfl rfl
theorem m_2_73 : Cond.code ⟨"HiredToWait$Shelf", "hasPart", "(II)Z"⟩ prog_6_method_6_code 3 (some .boolean) ∈ tb := tb2 (i := 73) rfl rfl
theorem m_2_74 : Cond.methodLink "HiredToWait" 97 ⟨"java/lang/System", "arraycopy", "(Ljava/lang/Object;ILjava/lang/Object;II)V"⟩ ∈ tb := tb2 (i := 74) rfl rfl
theorem m_2_75 : Cond.static ⟨"java/lang/System", "arraycopy", "(Ljava/lang/Object;ILjava/lang/Object;II)V"⟩ ∈ tb := tb2 (i := 75) rfl rfl
theorem m_2_76 : Cond.native ⟨"java/lang/System", "arraycopy", "(Ljava/lang/Object;ILjava/lang/Object;II)V"⟩ ∈ tb := tb2 (i := 76) rfl rfl
theorem m_2_77 : Cond.methodLink "HiredToWaitLaw" 30 ⟨"HiredToWait", "element", "(II)J"⟩ ∈ tb := tb2 (i := 77) rfl rfl
theorem m_2_78 : Cond.instanceMethod ⟨"HiredToWait", "element", "(II)J"⟩ ∈ tb := tb2 (i := 78) rfl rfl
theorem m_2_79 : Cond.selects "HiredToWait" ⟨"HiredToWait", "element", "(II)J"⟩ ⟨"HiredToWait", "element", "(II)J"⟩ ∈ tb := tb2 (i := 79) rfl rfl
theorem m_2_80 : Cond.code ⟨"HiredToWait", "element", "(II)J"⟩ prog_1_method_5_code 3 (some .long) ∈ tb := tb2 (i := 80) rfl rfl
theorem m_2_81 : Cond.methodLink "HiredToWait" 103 ⟨"HiredToWait$Shelf", "at", "(I)J"⟩ ∈ tb := tb2 (i := 81) rfl rfl
theorem m_2_82 : Cond.instanceMethod ⟨"HiredToWait$Shelf", "at", "(I)J"⟩ ∈ tb := tb2 (i := 82) rfl rfl
theorem m_2_83 : Cond.selects "HiredToWait$Shelf" ⟨"HiredToWait$Shelf", "at", "(I)J"⟩ ⟨"HiredToWait$Shelf", "at", "(I)J"⟩ ∈ tb := tb2 (i := 83) rfl rfl
theorem m_2_84 : Cond.code ⟨"HiredToWait$Shelf", "at", "(I)J"⟩ prog_6_method_9_code 2 (some .long) ∈ tb := tb2 (i := 84) rfl rfl
theorem m_2_85 : Cond.methodLink "HiredToWaitLaw" 35 ⟨"HiredToWait", "show", "(II)I"⟩ ∈ tb := tb2 (i := 85) rfl rfl
theorem m_2_86 : Cond.instanceMethod ⟨"HiredToWait", "show", "(II)I"⟩ ∈ tb := tb2 (i := 86) rfl rfl
theorem m_2_87 : Cond.selects "HiredToWait" ⟨"HiredToWait", "show", "(II)I"⟩ ⟨"HiredToWait", "show", "(II)I"⟩ ∈ tb := tb2 (i := 87) rfl rfl
theorem m_2_88 : Cond.code ⟨"HiredToWait", "show", "(II)I"⟩ prog_1_method_6_code 3 (some .int) ∈ tb := tb2 (i := 88) rfl rfl
theorem m_2_89 : Cond.methodLink "HiredToWait" 107 ⟨"HiredToWait$Guild", "hasWaiter", "(I)Z"⟩ ∈ tb := tb2 (i := 89) rfl rfl
theorem m_2_90 : Cond.instanceMethod ⟨"HiredToWait$Guild", "hasWaiter", "(I)Z"⟩ ∈ tb := tb2 (i := 90) rfl rfl
theorem m_2_91 : Cond.selects "HiredToWait$Guild" ⟨"HiredToWait$Guild", "hasWaiter", "(I)Z"⟩ ⟨"HiredToWait$Guild", "hasWaiter", "(I)Z"⟩ ∈ tb := tb2 (i := 91) rfl rfl
theorem m_2_92 : Cond.code ⟨"HiredToWait$Guild", "hasWaiter", "(I)Z"⟩ prog_3_method_4_code 2 (some .boolean) ∈ tb := tb2 (i := 92) rfl rfl
theorem m_2_93 : Cond.methodLink "HiredToWait" 110 ⟨"HiredToWait$Shelf", "hold", "(I)V"⟩ ∈ tb := tb2 (i := 93) rfl rfl
theorem m_2_94 : Cond.instanceMethod ⟨"HiredToWait$Shelf", "hold", "(I)V"⟩ ∈ tb := tb2 (i := 94) rfl rfl
theorem m_2_95 : Cond.selects "HiredToWait$Shelf" ⟨"HiredToWait$Shelf", "hold", "(I)V"⟩ ⟨"HiredToWait$Shelf", "hold", "(I)V"⟩ ∈ tb := tb2 (i := 95) rfl rfl
theorem m_2_96 : Cond.code ⟨"HiredToWait$Shelf", "hold", "(I)V"⟩ prog_6_method_4_code 2 none ∈ tb := tb2 (i := 96) rfl rfl
theorem m_2_97 : Cond.methodLink "HiredToWaitLaw" 40 ⟨"HiredToWait", "holds", "(I)I"⟩ ∈ tb := tb2 (i := 97) rfl rfl
theorem m_2_98 : Cond.instanceMethod ⟨"HiredToWait", "holds", "(I)I"⟩ ∈ tb := tb2 (i := 98) rfl rfl
theorem m_2_99 : Cond.selects "HiredToWait" ⟨"HiredToWait", "holds", "(I)I"⟩ ⟨"HiredToWait", "holds", "(I)I"⟩ ∈ tb := tb2 (i := 99) rfl rfl
theorem m_2_100 : Cond.code ⟨"HiredToWait", "holds", "(I)I"⟩ prog_1_method_7_code 2 (some .int) ∈ tb := tb2 (i := 100) rfl rfl
theorem m_2_101 : Cond.methodLink "HiredToWaitLaw" 45 ⟨"HiredToWait", "says", "(II)I"⟩ ∈ tb := tb2 (i := 101) rfl rfl
theorem m_2_102 : Cond.instanceMethod ⟨"HiredToWait", "says", "(II)I"⟩ ∈ tb := tb2 (i := 102) rfl rfl
theorem m_2_103 : Cond.selects "HiredToWait" ⟨"HiredToWait", "says", "(II)I"⟩ ⟨"HiredToWait", "says", "(II)I"⟩ ∈ tb := tb2 (i := 103) rfl rfl
theorem m_2_104 : Cond.code ⟨"HiredToWait", "says", "(II)I"⟩ prog_1_method_8_code 5 (some .int) ∈ tb := tb2 (i := 104) rfl rfl
theorem m_2_105 : Cond.methodLink "HiredToWait" 117 ⟨"HiredToWait", "isKind", "(I)Z"⟩ ∈ tb := tb2 (i := 105) rfl rfl
theorem m_2_106 : Cond.static ⟨"HiredToWait", "isKind", "(I)Z"⟩ ∈ tb := tb2 (i := 106) rfl rfl
theorem m_2_107 : Cond.code ⟨"HiredToWait", "isKind", "(I)Z"⟩ prog_1_method_48_code 1 (some .boolean) ∈ tb := tb2 (i := 107) rfl rfl
theorem m_2_108 : Cond.methodLink "HiredToWait" 133 ⟨"HiredToWait", "isUnder", "(II)Z"⟩ ∈ tb := tb2 (i := 108) rfl rfl
theorem m_2_109 : Cond.static ⟨"HiredToWait", "isUnder", "(II)Z"⟩ ∈ tb := tb2 (i := 109) rfl rfl
theorem m_2_110 : Cond.code ⟨"HiredToWait", "isUnder", "(II)Z"⟩ prog_1_method_51_code 4 (some .boolean) ∈ tb := tb2 (i := 110) rfl rfl
theorem m_2_111 : Cond.fieldLink "HiredToWait" 321 "HiredToWait" "ABOVE" "[I" ∈ tb := tb2 (i := 111) rfl rfl
theorem m_2_113 : Cond.methodLink "HiredToWait" 136 ⟨"HiredToWait$Waiter", "wordAs", "(I)I"⟩ ∈ tb := tb2 (i := 113) rfl rfl
theorem m_2_114 : Cond.instanceMethod ⟨"HiredToWait$Waiter", "wordAs", "(I)I"⟩ ∈ tb := tb2 (i := 114) rfl rfl
theorem m_2_115 : Cond.selects "HiredToWait$Waiter" ⟨"HiredToWait$Waiter", "wordAs", "(I)I"⟩ ⟨"HiredToWait$Waiter", "wordAs", "(I)I"⟩ ∈ tb := tb2 (i := 115) rfl rfl
theorem m_2_116 : Cond.code ⟨"HiredToWait$Waiter", "wordAs", "(I)I"⟩ prog_8_method_9_code 2 (some .int) ∈ tb := tb2 (i := 116) rfl rfl
theorem m_2_117 : Cond.methodLink "HiredToWaitLaw" 49 ⟨"HiredToWait", "thing", "(IIIIIII)I"⟩ ∈ tb := tb2 (i := 117) rfl rfl
theorem m_2_118 : Cond.instanceMethod ⟨"HiredToWait", "thing", "(IIIIIII)I"⟩ ∈ tb := tb2 (i := 118) rfl rfl
theorem m_2_119 : Cond.selects "HiredToWait" ⟨"HiredToWait", "thing", "(IIIIIII)I"⟩ ⟨"HiredToWait", "thing", "(IIIIIII)I"⟩ ∈ tb := tb2 (i := 119) rfl rfl
theorem m_2_120 : Cond.code ⟨"HiredToWait", "thing", "(IIIIIII)I"⟩ prog_1_method_9_code 10 (some .int) ∈ tb := tb2 (i := 120) rfl rfl
theorem m_2_121 : Cond.methodLink "HiredToWait" 139 ⟨"HiredToWait", "isCorner", "(I)Z"⟩ ∈ tb := tb2 (i := 121) rfl rfl
theorem m_2_122 : Cond.static ⟨"HiredToWait", "isCorner", "(I)Z"⟩ ∈ tb := tb2 (i := 122) rfl rfl
theorem m_2_123 : Cond.code ⟨"HiredToWait", "isCorner", "(I)Z"⟩ prog_1_method_49_code 1 (some .boolean) ∈ tb := tb2 (i := 123) rfl rfl
theorem m_2_124 : Cond.methodLink "HiredToWait" 142 ⟨"HiredToWait$Guild", "hasRoomForThing", "()Z"⟩ ∈ tb := tb2 (i := 124) rfl rfl
theorem m_2_125 : Cond.instanceMethod ⟨"HiredToWait$Guild", "hasRoomForThing", "()Z"⟩ ∈ tb := tb2 (i := 125) rfl rfl
theorem m_2_126 : Cond.selects "HiredToWait$Guild" ⟨"HiredToWait$Guild", "hasRoomForThing", "()Z"⟩ ⟨"HiredToWait$Guild", "hasRoomForThing", "()Z"⟩ ∈ tb := tb2 (i := 126) rfl rfl
theorem m_2_127 : Cond.code ⟨"HiredToWait$Guild", "hasRoomForThing", "()Z"⟩ prog_3_method_5_code 1 (some .boolean) ∈ tb := tb2 (i := 127) rfl rfl
theorem m_2_128 : Cond.methodLink "HiredToWait" 145 ⟨"HiredToWait$Guild", "addThing", "(IIIIIII)I"⟩ ∈ tb := tb2 (i := 128) rfl rfl
theorem m_2_129 : Cond.instanceMethod ⟨"HiredToWait$Guild", "addThing", "(IIIIIII)I"⟩ ∈ tb := tb2 (i := 129) rfl rfl
theorem m_2_130 : Cond.selects "HiredToWait$Guild" ⟨"HiredToWait$Guild", "addThing", "(IIIIIII)I"⟩ ⟨"HiredToWait$Guild", "addThing", "(IIIIIII)I"⟩ ∈ tb := tb2 (i := 130) rfl rfl
theorem m_2_131 : Cond.code ⟨"HiredToWait$Guild", "addThing", "(IIIIIII)I"⟩ prog_3_method_7_code 9 (some .int) ∈ tb := tb2 (i := 131) rfl rfl
theorem m_2_132 : Cond.methodLink "HiredToWait$Guild" 60 ⟨"HiredToWait$Guild", "hasRoomForThing", "()Z"⟩ ∈ tb := tb2 (i := 132) rfl rfl
theorem m_2_133 : Cond.methodLink "HiredToWaitLaw" 54 ⟨"HiredToWait", "waiter", "(IIIII)I"⟩ ∈ tb := tb2 (i := 133) rfl rfl
theorem m_2_134 : Cond.instanceMethod ⟨"HiredToWait", "waiter", "(IIIII)I"⟩ ∈ tb := tb2 (i := 134) rfl rfl
theorem m_2_135 : Cond.selects "HiredToWait" ⟨"HiredToWait", "waiter", "(IIIII)I"⟩ ⟨"HiredToWait", "waiter", "(IIIII)I"⟩ ∈ tb := tb2 (i := 135) rfl rfl
theorem m_2_136 : Cond.code ⟨"HiredToWait", "waiter", "(IIIII)I"⟩ prog_1_method_10_code 7 (some .int) ∈ tb := tb2 (i := 136) rfl rfl
theorem m_2_137 : Cond.methodLink "HiredToWait" 149 ⟨"HiredToWait$Guild", "hasRoomForWaiter", "()Z"⟩ ∈ tb := tb2 (i := 137) rfl rfl
theorem m_2_138 : Cond.instanceMethod ⟨"HiredToWait$Guild", "hasRoomForWaiter", "()Z"⟩ ∈ tb := tb2 (i := 138) rfl rfl
theorem m_2_139 : Cond.selects "HiredToWait$Guild" ⟨"HiredToWait$Guild", "hasRoomForWaiter", "()Z"⟩ ⟨"HiredToWait$Guild", "hasRoomForWaiter", "()Z"⟩ ∈ tb := tb2 (i := 139) rfl rfl
theorem m_2_140 : Cond.code ⟨"HiredToWait$Guild", "hasRoomForWaiter", "()Z"⟩ prog_3_method_6_code 1 (some .boolean) ∈ tb := tb2 (i := 140) rfl rfl
theorem m_2_141 : Cond.methodLink "HiredToWait" 152 ⟨"HiredToWait$Guild", "addWaiter", "(IIIII)I"⟩ ∈ tb := tb2 (i := 141) rfl rfl
theorem m_2_142 : Cond.instanceMethod ⟨"HiredToWait$Guild", "addWaiter", "(IIIII)I"⟩ ∈ tb := tb2 (i := 142) rfl rfl
theorem m_2_143 : Cond.selects "HiredToWait$Guild" ⟨"HiredToWait$Guild", "addWaiter", "(IIIII)I"⟩ ⟨"HiredToWait$Guild", "addWaiter", "(IIIII)I"⟩ ∈ tb := tb2 (i := 143) rfl rfl
theorem m_2_144 : Cond.code ⟨"HiredToWait$Guild", "addWaiter", "(IIIII)I"⟩ prog_3_method_8_code 7 (some .int) ∈ tb := tb2 (i := 144) rfl rfl
theorem m_2_145 : Cond.methodLink "HiredToWait$Guild" 85 ⟨"HiredToWait$Guild", "hasRoomForWaiter", "()Z"⟩ ∈ tb := tb2 (i := 145) rfl rfl
theorem m_2_146 : Cond.methodLink "HiredToWaitLaw" 58 ⟨"HiredToWait", "move", "(II)I"⟩ ∈ tb := tb2 (i := 146) rfl rfl
theorem m_2_147 : Cond.instanceMethod ⟨"HiredToWait", "move", "(II)I"⟩ ∈ tb := tb2 (i := 147) rfl rfl
theorem m_2_148 : Cond.selects "HiredToWait" ⟨"HiredToWait", "move", "(II)I"⟩ ⟨"HiredToWait", "move", "(II)I"⟩ ∈ tb := tb2 (i := 148) rfl rfl
theorem m_2_149 : Cond.code ⟨"HiredToWait", "move", "(II)I"⟩ prog_1_method_11_code 4 (some .int) ∈ tb := tb2 (i := 149) rfl rfl
theorem m_2_150 : Cond.methodLink "HiredToWaitLaw" 62 ⟨"HiredToWait", "ask", "(I)I"⟩ ∈ tb := tb2 (i := 150) rfl rfl
theorem m_2_151 : Cond.instanceMethod ⟨"HiredToWait", "ask", "(I)I"⟩ ∈ tb := tb2 (i := 151) rfl rfl
theorem m_2_152 : Cond.selects "HiredToWait" ⟨"HiredToWait", "ask", "(I)I"⟩ ⟨"HiredToWait", "ask", "(I)I"⟩ ∈ tb := tb2 (i := 152) rfl rfl
theorem m_2_153 : Cond.code ⟨"HiredToWait", "ask", "(I)I"⟩ prog_1_method_12_code 3 (some .int) ∈ tb := tb2 (i := 153) rfl rfl
theorem m_2_154 : Cond.methodLink "HiredToWaitLaw" 66 ⟨"HiredToWait", "thingOf", "(II)I"⟩ ∈ tb := tb2 (i := 154) rfl rfl
theorem m_2_155 : Cond.instanceMethod ⟨"HiredToWait", "thingOf", "(II)I"⟩ ∈ tb := tb2 (i := 155) rfl rfl
theorem m_2_156 : Cond.selects "HiredToWait" ⟨"HiredToWait", "thingOf", "(II)I"⟩ ⟨"HiredToWait", "thingOf", "(II)I"⟩ ∈ tb := tb2 (i := 156) rfl rfl
theorem m_2_157 : Cond.code ⟨"HiredToWait", "thingOf", "(II)I"⟩ prog_1_method_13_code 3 (some .int) ∈ tb := tb2 (i := 157) rfl rfl
theorem m_2_158 : Cond.methodLink "HiredToWait" 161 ⟨"HiredToWait$Guild", "hasThing", "(I)Z"⟩ ∈ tb := tb2 (i := 158) rfl rfl
theorem m_2_159 : Cond.instanceMethod ⟨"HiredToWait$Guild", "hasThing", "(I)Z"⟩ ∈ tb := tb2 (i := 159) rfl rfl
theorem m_2_160 : Cond.selects "HiredToWait$Guild" ⟨"HiredToWait$Guild", "hasThing", "(I)Z"⟩ ⟨"HiredToWait$Guild", "hasThing", "(I)Z"⟩ ∈ tb := tb2 (i := 160) rfl rfl
theorem m_2_161 : Cond.code ⟨"HiredToWait$Guild", "hasThing", "(I)Z"⟩ prog_3_method_3_code 2 (some .boolean) ∈ tb := tb2 (i := 161) rfl rfl
theorem m_2_162 : Cond.methodLink "HiredToWait" 168 ⟨"HiredToWait$Thing", "tell", "(I)I"⟩ ∈ tb := tb2 (i := 162) rfl rfl
theorem m_2_163 : Cond.instanceMethod ⟨"HiredToWait$Thing", "tell", "(I)I"⟩ ∈ tb := tb2 (i := 163) rfl rfl
theorem m_2_164 : Cond.selects "HiredToWait$Thing" ⟨"HiredToWait$Thing", "tell", "(I)I"⟩ ⟨"HiredToWait$Thing", "tell", "(I)I"⟩ ∈ tb := tb2 (i := 164) rfl rfl
theorem m_2_165 : Cond.code ⟨"HiredToWait$Thing", "tell", "(I)I"⟩ prog_7_method_10_code 2 (some .int) ∈ tb := tb2 (i := 165) rfl rfl
theorem m_2_166 : Cond.methodLink "HiredToWait$Thing" 58 ⟨"HiredToWait$Thing", "cases", "()I"⟩ ∈ tb := tb2 (i := 166) rfl rfl
theorem m_2_167 : Cond.instanceMethod ⟨"HiredToWait$Thing", "cases", "()I"⟩ ∈ tb := tb2 (i := 167) rfl rfl
theorem m_2_168 : Cond.selects "HiredToWait$Thing" ⟨"HiredToWait$Thing", "cases", "()I"⟩ ⟨"HiredToWait$Thing", "cases", "()I"⟩ ∈ tb := tb2 (i := 168) rfl rfl
theorem m_2_169 : Cond.code ⟨"HiredToWait$Thing", "cases", "()I"⟩ prog_7_method_4_code 1 (some .int) ∈ tb := tb2 (i := 169) rfl rfl
theorem m_2_170 : Cond.methodLink "HiredToWait$Thing" 33 ⟨"HiredToWait$Thing", "quarters", "()I"⟩ ∈ tb := tb2 (i := 170) rfl rfl
theorem m_2_171 : Cond.instanceMethod ⟨"HiredToWait$Thing", "quarters", "()I"⟩ ∈ tb := tb2 (i := 171) rfl rfl
theorem m_2_172 : Cond.selects "HiredToWait$Thing" ⟨"HiredToWait$Thing", "quarters", "()I"⟩ ⟨"HiredToWait$Thing", "quarters", "()I"⟩ ∈ tb := tb2 (i := 172) rfl rfl
theorem m_2_173 : Cond.code ⟨"HiredToWait$Thing", "quarters", "()I"⟩ prog_7_method_3_code 1 (some .int) ∈ tb := tb2 (i := 173) rfl rfl
theorem m_2_174 : Cond.methodLink "HiredToWaitLaw" 70 ⟨"HiredToWait", "waiterOf", "(II)I"⟩ ∈ tb := tb2 (i := 174) rfl rfl
theorem m_2_175 : Cond.instanceMethod ⟨"HiredToWait", "waiterOf", "(II)I"⟩ ∈ tb := tb2 (i := 175) rfl rfl
theorem m_2_176 : Cond.selects "HiredToWait" ⟨"HiredToWait", "waiterOf", "(II)I"⟩ ⟨"HiredToWait", "waiterOf", "(II)I"⟩ ∈ tb := tb2 (i := 176) rfl rfl
theorem m_2_177 : Cond.code ⟨"HiredToWait", "waiterOf", "(II)I"⟩ prog_1_method_14_code 3 (some .int) ∈ tb := tb2 (i := 177) rfl rfl
theorem m_2_178 : Cond.methodLink "HiredToWait" 173 ⟨"HiredToWait$Waiter", "tell", "(II)I"⟩ ∈ tb := tb2 (i := 178) rfl rfl
theorem m_2_179 : Cond.instanceMethod ⟨"HiredToWait$Waiter", "tell", "(II)I"⟩ ∈ tb := tb2 (i := 179) rfl rfl
theorem m_2_180 : Cond.selects "HiredToWait$Waiter" ⟨"HiredToWait$Waiter", "tell", "(II)I"⟩ ⟨"HiredToWait$Waiter", "tell", "(II)I"⟩ ∈ tb := tb2 (i := 180) rfl rfl
theorem m_2_181 : Cond.code ⟨"HiredToWait$Waiter", "tell", "(II)I"⟩ prog_8_method_10_code 3 (some .int) ∈ tb := tb2 (i := 181) rfl rfl
theorem m_2_182 : Cond.methodLink "HiredToWait$Waiter" 49 ⟨"HiredToWait$Waiter", "quartersHeld", "(I)I"⟩ ∈ tb := tb2 (i := 182) rfl rfl
theorem m_2_183 : Cond.instanceMethod ⟨"HiredToWait$Waiter", "quartersHeld", "(I)I"⟩ ∈ tb := tb2 (i := 183) rfl rfl
theorem m_2_184 : Cond.selects "HiredToWait$Waiter" ⟨"HiredToWait$Waiter", "quartersHeld", "(I)I"⟩ ⟨"HiredToWait$Waiter", "quartersHeld", "(I)I"⟩ ∈ tb := tb2 (i := 184) rfl rfl
theorem m_2_185 : Cond.code ⟨"HiredToWait$Waiter", "quartersHeld", "(I)I"⟩ prog_8_method_3_code 2 (some .int) ∈ tb := tb2 (i := 185) rfl rfl
theorem m_2_186 : Cond.methodLink "HiredToWait$Waiter" 30 ⟨"HiredToWait$Waiter", "wouldHold", "(I)I"⟩ ∈ tb := tb2 (i := 186) rfl rfl
theorem m_2_188 : Cond.instanceMethod ⟨"HiredToWait$Waiter", "wouldHold", "(I)I"⟩ ∈ tb := tb2 (i := 188) rfl rfl
theorem m_2_189 : Cond.code ⟨"HiredToWait$Waiter", "wouldHold", "(I)I"⟩ prog_8_method_4_code 2 (some .int) ∈ tb := tb2 (i := 189) rfl rfl
theorem m_2_190 : Cond.methodLink "HiredToWait$Waiter" 40 ⟨"java/lang/Math", "max", "(II)I"⟩ ∈ tb := tb2 (i := 190) rfl rfl
theorem m_2_191 : Cond.static ⟨"java/lang/Math", "max", "(II)I"⟩ ∈ tb := tb2 (i := 191) rfl rfl
theorem m_2_192 : Cond.code ⟨"java/lang/Math", "max", "(II)I"⟩ prog_12_method_65_code 2 (some .int) ∈ tb := tb2 (i := 192) rfl rfl
theorem m_2_193 : Cond.methodLink "HiredToWait$Waiter" 34 ⟨"java/lang/Math", "min", "(II)I"⟩ ∈ tb := tb2 (i := 193) rfl rfl
theorem m_2_194 : Cond.static ⟨"java/lang/Math", "min", "(II)I"⟩ ∈ tb := tb2 (i := 194) rfl rfl
theorem m_2_195 : Cond.code ⟨"java/lang/Math", "min", "(II)I"⟩ prog_12_method_69_code 2 (some .int) ∈ tb := tb2 (i := 195) rfl rfl
theorem m_2_196 : Cond.methodLink "HiredToWait$Waiter" 52 ⟨"HiredToWait$Waiter", "sight", "()I"⟩ ∈ tb := tb2 (i := 196) rfl rfl
theorem m_2_197 : Cond.instanceMethod ⟨"HiredToWait$Waiter", "sight", "()I"⟩ ∈ tb := tb2 (i := 197) rfl rfl
theorem m_2_198 : Cond.selects "HiredToWait$Waiter" ⟨"HiredToWait$Waiter", "sight", "()I"⟩ ⟨"HiredToWait$Waiter", "sight", "()I"⟩ ∈ tb := tb2 (i := 198) rfl rfl
theorem m_2_199 : Cond.code ⟨"HiredToWait$Waiter", "sight", "()I"⟩ prog_8_method_8_code 1 (some .int) ∈ tb := tb2 (i := 199) rfl rfl
theorem m_2_200 : Cond.methodLink "HiredToWaitLaw" 74 ⟨"HiredToWait", "cost", "(II)I"⟩ ∈ tb := tb2 (i := 200) rfl rfl
theorem m_2_201 : Cond.instanceMethod ⟨"HiredToWait", "cost", "(II)I"⟩ ∈ tb := tb2 (i := 201) rfl rfl
theorem m_2_202 : Cond.selects "HiredToWait" ⟨"HiredToWait", "cost", "(II)I"⟩ ⟨"HiredToWait", "cost", "(II)I"⟩ ∈ tb := tb2 (i := 202) rfl rfl
theorem m_2_203 : Cond.code ⟨"HiredToWait", "cost", "(II)I"⟩ prog_1_method_15_code 3 (some .int) ∈ tb := tb2 (i := 203) rfl rfl
theorem m_2_204 : Cond.methodLink "HiredToWait" 175 ⟨"HiredToWait$Waiter", "wageFor", "(II)I"⟩ ∈ tb := tb2 (i := 204) rfl rfl
theorem m_2_205 : Cond.instanceMethod ⟨"HiredToWait$Waiter", "wageFor", "(II)I"⟩ ∈ tb := tb2 (i := 205) rfl rfl
theorem m_2_206 : Cond.selects "HiredToWait$Waiter" ⟨"HiredToWait$Waiter", "wageFor", "(II)I"⟩ ⟨"HiredToWait$Waiter", "wageFor", "(II)I"⟩ ∈ tb := tb2 (i := 206) rfl rfl
theorem m_2_207 : Cond.code ⟨"HiredToWait$Waiter", "wageFor", "(II)I"⟩ prog_8_method_5_code 3 (some .int) ∈ tb := tb2 (i := 207) rfl rfl
theorem m_2_208 : Cond.methodLink "HiredToWait$Waiter" 43 ⟨"HiredToWait$Waiter", "masterWage", "(I)I"⟩ ∈ tb := tb2 (i := 208) rfl rfl
theorem m_2_210 : Cond.instanceMethod ⟨"HiredToWait$Waiter", "masterWage", "(I)I"⟩ ∈ tb := tb2 (i := 210) rfl rfl
theorem m_2_211 : Cond.code ⟨"HiredToWait$Waiter", "masterWage", "(I)I"⟩ prog_8_method_6_code 2 (some .int) ∈ tb := tb2 (i := 211) rfl rfl
theorem m_2_212 : Cond.methodLink "HiredToWait$Waiter" 46 ⟨"HiredToWait$Waiter", "loverWage", "(I)I"⟩ ∈ tb := tb2 (i := 212) rfl rfl
theorem m_2_214 : Cond.instanceMethod ⟨"HiredToWait$Waiter", "loverWage", "(I)I"⟩ ∈ tb := tb2 (i := 214) rfl rfl
theorem m_2_215 : Cond.code ⟨"HiredToWait$Waiter", "loverWage", "(I)I"⟩ prog_8_method_7_code 2 (some .int) ∈ tb := tb2 (i := 215) rfl rfl
theorem m_2_216 : Cond.methodLink "HiredToWaitLaw" 78 ⟨"HiredToWait", "guild", "(I)I"⟩ ∈ tb := tb2 (i := 216) rfl rfl
theorem m_2_217 : Cond.instanceMethod ⟨"HiredToWait", "guild", "(I)I"⟩ ∈ tb := tb2 (i := 217) rfl rfl
theorem m_2_218 : Cond.selects "HiredToWait" ⟨"HiredToWait", "guild", "(I)I"⟩ ⟨"HiredToWait", "guild", "(I)I"⟩ ∈ tb := tb2 (i := 218) rfl rfl
theorem m_2_219 : Cond.code ⟨"HiredToWait", "guild", "(I)I"⟩ prog_1_method_16_code 3 (some .int) ∈ tb := tb2 (i := 219) rfl rfl
theorem m_2_220 : Cond.methodLink "HiredToWait" 178 ⟨"HiredToWait$GuildText", "readFault", "(LHiredToWait$Shelf;LHiredToWait$Guild;)I"⟩ ∈ tb := tb2 (i := 220) rfl rfl
theorem m_2_221 : Cond.instanceMethod ⟨"HiredToWait$GuildText", "readFault", "(LHiredToWait$Shelf;LHiredToWait$Guild;)I"⟩ ∈ tb := tb2 (i := 221) rfl rfl
theorem m_2_222 : Cond.selects "HiredToWait$GuildText" ⟨"HiredToWait$GuildText", "readFault", "(LHiredToWait$Shelf;LHiredToWait$Guild;)I"⟩ ⟨"HiredToWait$GuildText", "readFault", "(LHiredToWait$Shelf;LHiredToWait$Guild;)I"⟩ ∈ tb := tb2 (i := 222) rfl rfl
theorem m_2_223 : Cond.code ⟨"HiredToWait$GuildText", "readFault", "(LHiredToWait$Shelf;LHiredToWait$Guild;)I"⟩ prog_4_method_2_code 4 (some .int) ∈ tb := tb2 (i := 223) rfl rfl
theorem m_2_224 : Cond.methodLink "HiredToWait$GuildText" 35 ⟨"HiredToWait$Guild", "become", "(LHiredToWait$Guild;)V"⟩ ∈ tb := tb2 (i := 224) rfl rfl
theorem m_2_225 : Cond.instanceMethod ⟨"HiredToWait$Guild", "become", "(LHiredToWait$Guild;)V"⟩ ∈ tb := tb2 (i := 225) rfl rfl
theorem m_2_226 : Cond.selects "HiredToWait$Guild" ⟨"HiredToWait$Guild", "become", "(LHiredToWait$Guild;)V"⟩ ⟨"HiredToWait$Guild", "become", "(LHiredToWait$Guild;)V"⟩ ∈ tb := tb2 (i := 226) rfl rfl
theorem m_2_227 : Cond.code ⟨"HiredToWait$Guild", "become", "(LHiredToWait$Guild;)V"⟩ prog_3_method_2_code 3 none ∈ tb := tb2 (i := 227) rfl rfl
theorem m_2_228 : Cond.methodLink "HiredToWait$Guild" 53 ⟨"HiredToWait$Thing", "become", "(LHiredToWait$Thing;)V"⟩ ∈ tb := tb2 (i := 228) rfl rfl
theorem m_2_229 : Cond.instanceMethod ⟨"HiredToWait$Thing", "become", "(LHiredToWait$Thing;)V"⟩ ∈ tb := tb2 (i := 229) rfl rfl
theorem m_2_230 : Cond.selects "HiredToWait$Thing" ⟨"HiredToWait$Thing", "become", "(LHiredToWait$Thing;)V"⟩ ⟨"HiredToWait$Thing", "become", "(LHiredToWait$Thing;)V"⟩ ∈ tb := tb2 (i := 230) rfl rfl
theorem m_2_231 : Cond.code ⟨"HiredToWait$Thing", "become", "(LHiredToWait$Thing;)V"⟩ prog_7_method_2_code 2 none ∈ tb := tb2 (i := 231) rfl rfl
theorem m_2_232 : Cond.methodLink "HiredToWait$Guild" 57 ⟨"HiredToWait$Waiter", "become", "(LHiredToWait$Waiter;)V"⟩ ∈ tb := tb2 (i := 232) rfl rfl
theorem m_2_233 : Cond.instanceMethod ⟨"HiredToWait$Waiter", "become", "(LHiredToWait$Waiter;)V"⟩ ∈ tb := tb2 (i := 233) rfl rfl
theorem m_2_234 : Cond.selects "HiredToWait$Waiter" ⟨"HiredToWait$Waiter", "become", "(LHiredToWait$Waiter;)V"⟩ ⟨"HiredToWait$Waiter", "become", "(LHiredToWait$Waiter;)V"⟩ ∈ tb := tb2 (i := 234) rfl rfl
theorem m_2_235 : Cond.code ⟨"HiredToWait$Waiter", "become", "(LHiredToWait$Waiter;)V"⟩ prog_8_method_2_code 2 none ∈ tb := tb2 (i := 235) rfl rfl
theorem m_2_236 : Cond.methodLink "HiredToWait$GuildText" 42 ⟨"HiredToWait$Shelf", "number", "(I)I"⟩ ∈ tb := tb2 (i := 236) rfl rfl
theorem m_2_237 : Cond.instanceMethod ⟨"HiredToWait$Shelf", "number", "(I)I"⟩ ∈ tb := tb2 (i := 237) rfl rfl
theorem m_2_238 : Cond.selects "HiredToWait$Shelf" ⟨"HiredToWait$Shelf", "number", "(I)I"⟩ ⟨"HiredToWait$Shelf", "number", "(I)I"⟩ ∈ tb := tb2 (i := 238) rfl rfl
theorem m_2_239 : Cond.code ⟨"HiredToWait$Shelf", "number", "(I)I"⟩ prog_6_method_10_code 2 (some .int) ∈ tb := tb2 (i := 239) rfl rfl
theorem m_3_0 : Cond.methodLink "HiredToWait$Shelf" 30 ⟨"HiredToWait$Shelf", "at", "(I)J"⟩ ∈ tb := tb3 (i := 0) rfl rfl
theorem m_3_1 : Cond.methodLink "HiredToWait$GuildText" 46 ⟨"HiredToWait$GuildText", "readItem", "()V"⟩ ∈ tb := tb3 (i := 1) rfl rfl
theorem m_3_3 : Cond.instanceMethod ⟨"HiredToWait$GuildText", "readItem", "()V"⟩ ∈ tb := tb3 (i := 3) rfl rfl
theorem m_3_4 : Cond.code ⟨"HiredToWait$GuildText", "readItem", "()V"⟩ prog_4_method_3_code 1 none ∈ tb := tb3 (i := 4) rfl rfl
theorem m_3_5 : Cond.methodLink "HiredToWait$GuildText" 53 ⟨"HiredToWait$GuildText", "letter", "()I"⟩ ∈ tb := tb3 (i := 5) rfl rfl
theorem m_3_7 : Cond.instanceMethod ⟨"HiredToWait$GuildText", "letter", "()I"⟩ ∈ tb := tb3 (i := 7) rfl rfl
theorem m_3_8 : Cond.code ⟨"HiredToWait$GuildText", "letter", "()I"⟩ prog_4_method_9_code 1 (some .int) ∈ tb := tb3 (i := 8) rfl rfl
theorem m_3_9 : Cond.methodLink "HiredToWait$GuildText" 57 ⟨"HiredToWait$GuildText", "readThing", "()V"⟩ ∈ tb := tb3 (i := 9) rfl rfl
theorem m_3_11 : Cond.instanceMethod ⟨"HiredToWait$GuildText", "readThing", "()V"⟩ ∈ tb := tb3 (i := 11) rfl rfl
theorem m_3_12 : Cond.code ⟨"HiredToWait$GuildText", "readThing", "()V"⟩ prog_4_method_4_code 8 none ∈ tb := tb3 (i := 12) rfl rfl
theorem m_3_14 : Cond.methodLink "HiredToWait$GuildText" 74 ⟨"HiredToWait$Guild", "hasRoomForThing", "()Z"⟩ ∈ tb := tb3 (i := 14) rfl rfl
theorem m_3_15 : Cond.methodLink "HiredToWait$GuildText" 78 ⟨"HiredToWait$GuildText", "readWord", "(Ljava/lang/String;Z)V"⟩ ∈ tb := tb3 (i := 15) rfl rfl
theorem m_3_17 : Cond.instanceMethod ⟨"HiredToWait$GuildText", "readWord", "(Ljava/lang/String;Z)V"⟩ ∈ tb := tb3 (i := 17) rfl rfl
theorem m_3_18 : Cond.code ⟨"HiredToWait$GuildText", "readWord", "(Ljava/lang/String;Z)V"⟩ prog_4_method_8_code 5 none ∈ tb := tb3 (i := 18) rfl rfl
theorem m_3_19 : Cond.methodLink "HiredToWait$GuildText" 121 ⟨"java/lang/String", "length", "()I"⟩ ∈ tb := tb3 (i := 19) rfl rfl
theorem m_3_20 : Cond.instanceMethod ⟨"java/lang/String", "length", "()I"⟩ ∈ tb := tb3 (i := 20) rfl rfl
theorem m_3_21 : Cond.selects "java/lang/String" ⟨"java/lang/String", "length", "()I"⟩ ⟨"java/lang/String", "length", "()I"⟩ ∈ tb := tb3 (i := 21) rfl rfl
theorem m_3_22 : Cond.code ⟨"java/lang/String", "length", "()I"⟩ prog_13_method_54_code 1 (some .int) ∈ tb := tb3 (i := 22) rfl rfl
theorem m_3_23 : Cond.methodLink "java/lang/String" 335 ⟨"java/lang/String", "coder", "()B"⟩ ∈ tb := tb3 (i := 23) rfl rfl
theorem m_3_24 : Cond.instanceMethod ⟨"java/lang/String", "coder", "()B"⟩ ∈ tb := tb3 (i := 24) rfl rfl
theorem m_3_25 : Cond.selects "java/lang/String" ⟨"java/lang/String", "coder", "()B"⟩ ⟨"java/lang/String", "coder", "()B"⟩ ∈ tb := tb3 (i := 25) rfl rfl
theorem m_3_26 : Cond.code ⟨"java/lang/String", "coder", "()B"⟩ prog_13_method_152_code 1 (some .byte) ∈ tb := tb3 (i := 26) rfl rfl
theorem m_3_27 : Cond.fieldLink "java/lang/String" 38 "java/lang/String" "COMPACT_STRINGS" "Z" ∈ tb := tb3 (i := 27) rfl rfl
theorem m_3_29 : Cond.methodLink "HiredToWait$GuildText" 126 ⟨"java/lang/String", "charAt", "(I)C"⟩ ∈ tb := tb3 (i := 29) rfl rfl
theorem m_3_30 : Cond.instanceMethod ⟨"java/lang/String", "charAt", "(I)C"⟩ ∈ tb := tb3 (i := 30) rfl rfl
theorem m_3_31 : Cond.selects "java/lang/String" ⟨"java/lang/String", "charAt", "(I)C"⟩ ⟨"java/lang/String", "charAt", "(I)C"⟩ ∈ tb := tb3 (i := 31) rfl rfl
theorem m_3_32 : Cond.code ⟨"java/lang/String", "charAt", "(I)C"⟩ prog_13_method_56_code 2 (some .char) ∈ tb := tb3 (i := 32) rfl rfl
theorem m_3_33 : Cond.methodLink "java/lang/String" 492 ⟨"java/lang/String", "isLatin1", "()Z"⟩ ∈ tb := tb3 (i := 33) rfl rfl
theorem m_3_34 : Cond.instanceMethod ⟨"java/lang/String", "isLatin1", "()Z"⟩ ∈ tb := tb3 (i := 34) rfl rfl
theorem m_3_35 : Cond.selects "java/lang/String" ⟨"java/lang/String", "isLatin1", "()Z"⟩ ⟨"java/lang/String", "isLatin1", "()Z"⟩ ∈ tb := tb3 (i := 35) rfl rfl
theorem m_3_36 : Cond.code ⟨"java/lang/String", "isLatin1", "()Z"⟩ prog_13_method_154_code 1 (some .boolean) ∈ tb := tb3 (i := 36) rfl rfl
theorem m_3_37 : Cond.methodLink "java/lang/String" 495 ⟨"java/lang/StringLatin1", "charAt", "([BI)C"⟩ ∈ tb := tb3 (i := 37) rfl rfl
theorem m_3_38 : Cond.static ⟨"java/lang/StringLatin1", "charAt", "([BI)C"⟩ ∈ tb := tb3 (i := 38) rfl rfl
theorem m_3_39 : Cond.code ⟨"java/lang/StringLatin1", "charAt", "([BI)C"⟩ prog_14_method_2_code 2 (some .char) ∈ tb := tb3 (i := 39) rfl rfl
theorem m_3_40 : Cond.methodLink "java/lang/StringLatin1" 9 ⟨"java/lang/String", "checkIndex", "(II)V"⟩ ∈ tb := tb3 (i := 40) rfl rfl
theorem m_3_41 : Cond.static ⟨"java/lang/String", "checkIndex", "(II)V"⟩ ∈ tb := tb3 (i := 41) rfl rfl
theorem m_3_42 : Cond.code ⟨"java/lang/String", "checkIndex", "(II)V"⟩ prog_13_method_155_code 2 none ∈ tb := tb3 (i := 42) rfl rfl
theorem m_3_43 : Cond.fieldLink "java/lang/String" 1053 "jdk/internal/util/Preconditions" "SIOOBE_FORMATTER" "Ljava/util/function/BiFunction;" ∈ tb := tb3 (i := 43) rfl rfl
theorem m_3_45 : Cond.methodLink "java/lang/String" 1059 ⟨"jdk/internal/util/Preconditions", "checkIndex", "(IILjava/util/function/BiFunction;)I"⟩ ∈ tb := tb3 (i := 45) rfl rfl
theorem m_3_46 : Cond.static ⟨"jdk/internal/util/Preconditions", "checkIndex", "(IILjava/util/function/BiFunction;)I"⟩ ∈ tb := tb3 (i := 46) rfl rfl
theorem m_3_47 : Cond.code ⟨"jdk/internal/util/Preconditions", "checkIndex", "(IILjava/util/function/BiFunction;)I"⟩ prog_17_method_11_code 3 (some .int) ∈ tb := tb3 (i := 47) rfl rfl
theorem m_3_48 : Cond.methodLink "java/lang/String" 498 ⟨"java/lang/StringUTF16", "charAt", "([BI)C"⟩ ∈ tb := tb3 (i := 48) rfl rfl
theorem m_3_49 : Cond.static ⟨"java/lang/StringUTF16", "charAt", "([BI)C"⟩ ∈ tb := tb3 (i := 49) rfl rfl
theorem m_3_50 : Cond.code ⟨"java/lang/StringUTF16", "charAt", "([BI)C"⟩ prog_15_method_83_code 2 (some .char) ∈ tb := tb3 (i := 50) rfl rfl
theorem m_3_51 : Cond.methodLink "java/lang/StringUTF16" 67 ⟨"java/lang/StringUTF16", "checkIndex", "(I[B)V"⟩ ∈ tb := tb3 (i := 51) rfl rfl
theorem m_3_52 : Cond.static ⟨"java/lang/StringUTF16", "checkIndex", "(I[B)V"⟩ ∈ tb := tb3 (i := 52) rfl rfl
theorem m_3_53 : Cond.code ⟨"java/lang/StringUTF16", "checkIndex", "(I[B)V"⟩ prog_15_method_91_code 2 none ∈ tb := tb3 (i := 53) rfl rfl
theorem m_3_54 : Cond.methodLink "java/lang/StringUTF16" 48 ⟨"java/lang/StringUTF16", "length", "([B)I"⟩ ∈ tb := tb3 (i := 54) rfl rfl
theorem m_3_55 : Cond.static ⟨"java/lang/StringUTF16", "length", "([B)I"⟩ ∈ tb := tb3 (i := 55) rfl rfl
theorem m_3_56 : Cond.code ⟨"java/lang/StringUTF16", "length", "([B)I"⟩ prog_15_method_6_code 1 (some .int) ∈ tb := tb3 (i := 56) rfl rfl
theorem m_3_57 : Cond.methodLink "java/lang/StringUTF16" 414 ⟨"java/lang/String", "checkIndex", "(II)V"⟩ ∈ tb := tb3 (i := 57) rfl rfl
theorem m_3_58 : Cond.methodLink "java/lang/StringUTF16" 71 ⟨"java/lang/StringUTF16", "getChar", "([BI)C"⟩ ∈ tb := tb3 (i := 58) rfl rfl
theorem m_3_59 : Cond.static ⟨"java/lang/StringUTF16", "getChar", "([BI)C"⟩ ∈ tb := tb3 (i := 59) rfl rfl
theorem m_3_60 : Cond.code ⟨"java/lang/StringUTF16", "getChar", "([BI)C"⟩ prog_15_method_5_code 2 (some .char) ∈ tb := tb3 (i := 60) rfl rfl
theorem m_3_61 : Cond.fieldLink "java/lang/StringUTF16" 44 "java/lang/StringUTF16" "$assertionsDisabled" "Z" ∈ tb := tb3 (i := 61) rfl rfl
theorem m_3_63 : Cond.fieldLink "java/lang/StringUTF16" 59 "java/lang/StringUTF16" "HI_BYTE_SHIFT" "I" ∈ tb := tb3 (i := 63) rfl rfl
theorem m_3_65 : Cond.fieldLink "java/lang/StringUTF16" 63 "java/lang/StringUTF16" "LO_BYTE_SHIFT" "I" ∈ tb := tb3 (i := 65) rfl rfl
theorem m_3_67 : Cond.methodLink "HiredToWait$GuildText" 49 ⟨"HiredToWait$GuildText", "readSign", "(I)V"⟩ ∈ tb := tb3 (i := 67) rfl rfl
theorem m_3_69 : Cond.instanceMethod ⟨"HiredToWait$GuildText", "readSign", "(I)V"⟩ ∈ tb := tb3 (i := 69) rfl rfl
theorem m_3_70 : Cond.code ⟨"HiredToWait$GuildText", "readSign", "(I)V"⟩ prog_4_method_10_code 2 none ∈ tb := tb3 (i := 70) rfl rfl
theorem m_3_71 : Cond.methodLink "HiredToWait$GuildText" 69 ⟨"HiredToWait$GuildText", "failAt", "(I)I"⟩ ∈ tb := tb3 (i := 71) rfl rfl
theorem m_3_73 : Cond.instanceMethod ⟨"HiredToWait$GuildText", "failAt", "(I)I"⟩ ∈ tb := tb3 (i := 73) rfl rfl
theorem m_3_74 : Cond.code ⟨"HiredToWait$GuildText", "failAt", "(I)I"⟩ prog_4_method_14_code 2 (some .int) ∈ tb := tb3 (i := 74) rfl rfl
theorem m_3_75 : Cond.methodLink "HiredToWait$GuildText" 82 ⟨"HiredToWait$GuildText", "readNumber", "(II)I"⟩ ∈ tb := tb3 (i := 75) rfl rfl
theorem m_3_77 : Cond.instanceMethod ⟨"HiredToWait$GuildText", "readNumber", "(II)I"⟩ ∈ tb := tb3 (i := 77) rfl rfl
theorem m_3_78 : Cond.code ⟨"HiredToWait$GuildText", "readNumber", "(II)I"⟩ prog_4_method_11_code 5 (some .int) ∈ tb := tb3 (i := 78) rfl rfl
theorem m_3_79 : Cond.methodLink "HiredToWait$GuildText" 130 ⟨"HiredToWait$GuildText", "isAtDigit", "()Z"⟩ ∈ tb := tb3 (i := 79) rfl rfl
theorem m_3_81 : Cond.instanceMethod ⟨"HiredToWait$GuildText", "isAtDigit", "()Z"⟩ ∈ tb := tb3 (i := 81) rfl rfl
theorem m_3_82 : Cond.code ⟨"HiredToWait$GuildText", "isAtDigit", "()Z"⟩ prog_4_method_12_code 1 (some .boolean) ∈ tb := tb3 (i := 82) rfl rfl
theorem m_3_84 : Cond.methodLink "HiredToWait$GuildText" 133 ⟨"HiredToWait$GuildText", "readDigit", "()I"⟩ ∈ tb := tb3 (i := 84) rfl rfl
theorem m_3_86 : Cond.instanceMethod ⟨"HiredToWait$GuildText", "readDigit", "()I"⟩ ∈ tb := tb3 (i := 86) rfl rfl
theorem m_3_87 : Cond.code ⟨"HiredToWait$GuildText", "readDigit", "()I"⟩ prog_4_method_13_code 2 (some .int) ∈ tb := tb3 (i := 87) rfl rfl
theorem m_3_88 : Cond.methodLink "HiredToWait$GuildText" 86 ⟨"HiredToWait$Guild", "addThing", "(IIIIIII)I"⟩ ∈ tb := tb3 (i := 88) rfl rfl
theorem m_3_89 : Cond.methodLink "HiredToWait$GuildText" 60 ⟨"HiredToWait$GuildText", "readWaiter", "()V"⟩ ∈ tb := tb3 (i := 89) rfl rfl
theorem m_3_91 : Cond.instanceMethod ⟨"HiredToWait$GuildText", "readWaiter", "()V"⟩ ∈ tb := tb3 (i := 91) rfl rfl
theorem m_3_92 : Cond.code ⟨"HiredToWait$GuildText", "readWaiter", "()V"⟩ prog_4_method_5_code 6 none ∈ tb := tb3 (i := 92) rfl rfl
theorem m_3_94 : Cond.methodLink "HiredToWait$GuildText" 92 ⟨"HiredToWait$Guild", "hasRoomForWaiter", "()Z"⟩ ∈ tb := tb3 (i := 94) rfl rfl
theorem m_3_95 : Cond.methodLink "HiredToWait$GuildText" 95 ⟨"HiredToWait$Guild", "addWaiter", "(IIIII)I"⟩ ∈ tb := tb3 (i := 95) rfl rfl
theorem m_3_96 : Cond.methodLink "HiredToWait$GuildText" 63 ⟨"HiredToWait$GuildText", "readMoves", "()V"⟩ ∈ tb := tb3 (i := 96) rfl rfl
theorem m_3_98 : Cond.instanceMethod ⟨"HiredToWait$GuildText", "readMoves", "()V"⟩ ∈ tb := tb3 (i := 98) rfl rfl
theorem m_3_99 : Cond.code ⟨"HiredToWait$GuildText", "readMoves", "()V"⟩ prog_4_method_6_code 3 none ∈ tb := tb3 (i := 99) rfl rfl
theorem m_3_101 : Cond.methodLink "HiredToWait$GuildText" 104 ⟨"HiredToWait$Guild", "hasWaiter", "(I)Z"⟩ ∈ tb := tb3 (i := 101) rfl rfl
theorem m_3_102 : Cond.methodLink "HiredToWait$GuildText" 66 ⟨"HiredToWait$GuildText", "readHope", "()V"⟩ ∈ tb := tb3 (i := 102) rfl rfl
theorem m_3_104 : Cond.instanceMethod ⟨"HiredToWait$GuildText", "readHope", "()V"⟩ ∈ tb := tb3 (i := 104) rfl rfl
theorem m_3_105 : Cond.code ⟨"HiredToWait$GuildText", "readHope", "()V"⟩ prog_4_method_7_code 2 none ∈ tb := tb3 (i := 105) rfl rfl
theorem m_3_107 : Cond.methodLink "HiredToWait" 185 ⟨"HiredToWait$Guild", "become", "(LHiredToWait$Guild;)V"⟩ ∈ tb := tb3 (i := 107) rfl rfl
theorem m_3_108 : Cond.arrayClass .byte ∈ tb := tb3 (i := 108) rfl rfl
theorem m_3_109 : Cond.methodLink "HiredToWaitLaw" 82 ⟨"HiredToWait", "fault", "()I"⟩ ∈ tb := tb3 (i := 109) rfl rfl
theorem m_3_110 : Cond.instanceMethod ⟨"HiredToWait", "fault", "()I"⟩ ∈ tb := tb3 (i := 110) rfl rfl
theorem m_3_111 : Cond.selects "HiredToWait" ⟨"HiredToWait", "fault", "()I"⟩ ⟨"HiredToWait", "fault", "()I"⟩ ∈ tb := tb3 (i := 111) rfl rfl
theorem m_3_112 : Cond.code ⟨"HiredToWait", "fault", "()I"⟩ prog_1_method_17_code 1 (some .int) ∈ tb := tb3 (i := 112) rfl rfl
theorem m_3_113 : Cond.methodLink "HiredToWaitLaw" 87 ⟨"HiredToWait", "by", "(II)I"⟩ ∈ tb := tb3 (i := 113) rfl rfl
theorem m_3_114 : Cond.instanceMethod ⟨"HiredToWait", "by", "(II)I"⟩ ∈ tb := tb3 (i := 114) rfl rfl
theorem m_3_115 : Cond.selects "HiredToWait" ⟨"HiredToWait", "by", "(II)I"⟩ ⟨"HiredToWait", "by", "(II)I"⟩ ∈ tb := tb3 (i := 115) rfl rfl
theorem m_3_116 : Cond.code ⟨"HiredToWait", "by", "(II)I"⟩ prog_1_method_18_code 3 (some .int) ∈ tb := tb3 (i := 116) rfl rfl
theorem m_3_117 : Cond.methodLink "HiredToWait" 192 ⟨"HiredToWait", "isQuarter", "(I)Z"⟩ ∈ tb := tb3 (i := 117) rfl rfl
theorem m_3_118 : Cond.static ⟨"HiredToWait", "isQuarter", "(I)Z"⟩ ∈ tb := tb3 (i := 118) rfl rfl
theorem m_3_119 : Cond.code ⟨"HiredToWait", "isQuarter", "(I)Z"⟩ prog_1_method_50_code 1 (some .boolean) ∈ tb := tb3 (i := 119) rfl rfl
theorem m_3_120 : Cond.methodLink "HiredToWait" 195 ⟨"HiredToWait$Thing", "casesBy", "(I)I"⟩ ∈ tb := tb3 (i := 120) rfl rfl
theorem m_3_121 : Cond.instanceMethod ⟨"HiredToWait$Thing", "casesBy", "(I)I"⟩ ∈ tb := tb3 (i := 121) rfl rfl
theorem m_3_122 : Cond.selects "HiredToWait$Thing" ⟨"HiredToWait$Thing", "casesBy", "(I)I"⟩ ⟨"HiredToWait$Thing", "casesBy", "(I)I"⟩ ∈ tb := tb3 (i := 122) rfl rfl
theorem m_3_123 : Cond.code ⟨"HiredToWait$Thing", "casesBy", "(I)I"⟩ prog_7_method_5_code 2 (some .int) ∈ tb := tb3 (i := 123) rfl rfl
theorem m_3_124 : Cond.methodLink "HiredToWait$Thing" 37 ⟨"java/lang/Math", "min", "(II)I"⟩ ∈ tb := tb3 (i := 124) rfl rfl
theorem m_3_125 : Cond.methodLink "HiredToWait$Thing" 43 ⟨"java/lang/Math", "max", "(II)I"⟩ ∈ tb := tb3 (i := 125) rfl rfl
theorem m_3_126 : Cond.methodLink "HiredToWaitLaw" 91 ⟨"HiredToWait", "stop", "(III)I"⟩ ∈ tb := tb3 (i := 126) rfl rfl
theorem m_3_127 : Cond.instanceMethod ⟨"HiredToWait", "stop", "(III)I"⟩ ∈ tb := tb3 (i := 127) rfl rfl
theorem m_3_128 : Cond.selects "HiredToWait" ⟨"HiredToWait", "stop", "(III)I"⟩ ⟨"HiredToWait", "stop", "(III)I"⟩ ∈ tb := tb3 (i := 128) rfl rfl
theorem m_3_129 : Cond.code ⟨"HiredToWait", "stop", "(III)I"⟩ prog_1_method_19_code 6 (some .int) ∈ tb := tb3 (i := 129) rfl rfl
theorem m_3_130 : Cond.methodLink "HiredToWait" 198 ⟨"HiredToWait", "refuseApart", "(I)I"⟩ ∈ tb := tb3 (i := 130) rfl rfl
theorem m_3_132 : Cond.instanceMethod ⟨"HiredToWait", "refuseApart", "(I)I"⟩ ∈ tb := tb3 (i := 132) rfl rfl
theorem m_3_133 : Cond.code ⟨"HiredToWait", "refuseApart", "(I)I"⟩ prog_1_method_40_code 2 (some .int) ∈ tb := tb3 (i := 133) rfl rfl
theorem m_3_134 : Cond.methodLink "HiredToWait" 201 ⟨"HiredToWait$Guild", "stopQuarter", "(LHiredToWait$Thing;LHiredToWait$Waiter;)I"⟩ ∈ tb := tb3 (i := 134) rfl rfl
theorem m_3_135 : Cond.instanceMethod ⟨"HiredToWait$Guild", "stopQuarter", "(LHiredToWait$Thing;LHiredToWait$Waiter;)I"⟩ ∈ tb := tb3 (i := 135) rfl rfl
theorem m_3_136 : Cond.selects "HiredToWait$Guild" ⟨"HiredToWait$Guild", "stopQuarter", "(LHiredToWait$Thing;LHiredToWait$Waiter;)I"⟩ ⟨"HiredToWait$Guild", "stopQuarter", "(LHiredToWait$Thing;LHiredToWait$Waiter;)I"⟩ ∈ tb := tb3 (i := 136) rfl rfl
theorem m_3_137 : Cond.code ⟨"HiredToWait$Guild", "stopQuarter", "(LHiredToWait$Thing;LHiredToWait$Waiter;)I"⟩ prog_3_method_10_code 8 (some .int) ∈ tb := tb3 (i := 137) rfl rfl
theorem m_3_138 : Cond.methodLink "HiredToWait$Guild" 115 ⟨"HiredToWait$Waiter", "quartersHeld", "(I)I"⟩ ∈ tb := tb3 (i := 138) rfl rfl
theorem m_3_139 : Cond.methodLink "HiredToWait$Guild" 118 ⟨"java/lang/Math", "min", "(II)I"⟩ ∈ tb := tb3 (i := 139) rfl rfl
theorem m_3_140 : Cond.methodLink "HiredToWait$Guild" 123 ⟨"HiredToWait$Guild", "gainBy", "(LHiredToWait$Thing;LHiredToWait$Waiter;I)I"⟩ ∈ tb := tb3 (i := 140) rfl rfl
theorem m_3_141 : Cond.instanceMethod ⟨"HiredToWait$Guild", "gainBy", "(LHiredToWait$Thing;LHiredToWait$Waiter;I)I"⟩ ∈ tb := tb3 (i := 141) rfl rfl
theorem m_3_142 : Cond.selects "HiredToWait$Guild" ⟨"HiredToWait$Guild", "gainBy", "(LHiredToWait$Thing;LHiredToWait$Waiter;I)I"⟩ ⟨"HiredToWait$Guild", "gainBy", "(LHiredToWait$Thing;LHiredToWait$Waiter;I)I"⟩ ∈ tb := tb3 (i := 142) rfl rfl
theorem m_3_143 : Cond.code ⟨"HiredToWait$Guild", "gainBy", "(LHiredToWait$Thing;LHiredToWait$Waiter;I)I"⟩ prog_3_method_9_code 8 (some .int) ∈ tb := tb3 (i := 143) rfl rfl
theorem m_3_144 : Cond.methodLink "HiredToWait$Guild" 103 ⟨"HiredToWait$Waiter", "wageFor", "(II)I"⟩ ∈ tb := tb3 (i := 144) rfl rfl
theorem m_3_145 : Cond.methodLink "HiredToWait$Guild" 107 ⟨"HiredToWait$Thing", "casesBy", "(I)I"⟩ ∈ tb := tb3 (i := 145) rfl rfl
theorem m_3_146 : Cond.methodLink "HiredToWait$Guild" 111 ⟨"HiredToWait$Thing", "cases", "()I"⟩ ∈ tb := tb3 (i := 146) rfl rfl
theorem m_3_147 : Cond.methodLink "HiredToWait" 205 ⟨"HiredToWait$Guild", "bestGain", "(LHiredToWait$Thing;LHiredToWait$Waiter;)I"⟩ ∈ tb := tb3 (i := 147) rfl rfl
theorem m_3_148 : Cond.instanceMethod ⟨"HiredToWait$Guild", "bestGain", "(LHiredToWait$Thing;LHiredToWait$Waiter;)I"⟩ ∈ tb := tb3 (i := 148) rfl rfl
theorem m_3_149 : Cond.selects "HiredToWait$Guild" ⟨"HiredToWait$Guild", "bestGain", "(LHiredToWait$Thing;LHiredToWait$Waiter;)I"⟩ ⟨"HiredToWait$Guild", "bestGain", "(LHiredToWait$Thing;LHiredToWait$Waiter;)I"⟩ ∈ tb := tb3 (i := 149) rfl rfl
theorem m_3_150 : Cond.code ⟨"HiredToWait$Guild", "bestGain", "(LHiredToWait$Thing;LHiredToWait$Waiter;)I"⟩ prog_3_method_11_code 4 (some .int) ∈ tb := tb3 (i := 150) rfl rfl
theorem m_3_151 : Cond.methodLink "HiredToWait$Guild" 127 ⟨"HiredToWait$Guild", "stopQuarter", "(LHiredToWait$Thing;LHiredToWait$Waiter;)I"⟩ ∈ tb := tb3 (i := 151) rfl rfl
theorem m_3_152 : Cond.methodLink "HiredToWaitLaw" 95 ⟨"HiredToWait", "best", "(I)I"⟩ ∈ tb := tb3 (i := 152) rfl rfl
theorem m_3_153 : Cond.instanceMethod ⟨"HiredToWait", "best", "(I)I"⟩ ∈ tb := tb3 (i := 153) rfl rfl
theorem m_3_154 : Cond.selects "HiredToWait" ⟨"HiredToWait", "best", "(I)I"⟩ ⟨"HiredToWait", "best", "(I)I"⟩ ∈ tb := tb3 (i := 154) rfl rfl
theorem m_3_155 : Cond.code ⟨"HiredToWait", "best", "(I)I"⟩ prog_1_method_20_code 2 (some .int) ∈ tb := tb3 (i := 155) rfl rfl
theorem m_3_156 : Cond.methodLink "HiredToWait" 208 ⟨"HiredToWait$Guild", "bestWaiter", "(LHiredToWait$Thing;)I"⟩ ∈ tb := tb3 (i := 156) rfl rfl
theorem m_3_157 : Cond.instanceMethod ⟨"HiredToWait$Guild", "bestWaiter", "(LHiredToWait$Thing;)I"⟩ ∈ tb := tb3 (i := 157) rfl rfl
theorem m_3_158 : Cond.selects "HiredToWait$Guild" ⟨"HiredToWait$Guild", "bestWaiter", "(LHiredToWait$Thing;)I"⟩ ⟨"HiredToWait$Guild", "bestWaiter", "(LHiredToWait$Thing;)I"⟩ ∈ tb := tb3 (i := 158) rfl rfl
theorem m_3_159 : Cond.code ⟨"HiredToWait$Guild", "bestWaiter", "(LHiredToWait$Thing;)I"⟩ prog_3_method_12_code 6 (some .int) ∈ tb := tb3 (i := 159) rfl rfl
theorem m_3_160 : Cond.methodLink "HiredToWait$Guild" 131 ⟨"HiredToWait$Guild", "bestGain", "(LHiredToWait$Thing;LHiredToWait$Waiter;)I"⟩ ∈ tb := tb3 (i := 160) rfl rfl
theorem m_3_161 : Cond.methodLink "HiredToWaitLaw" 99 ⟨"HiredToWait", "lookouts", "(I)I"⟩ ∈ tb := tb3 (i := 161) rfl rfl
theorem m_3_162 : Cond.instanceMethod ⟨"HiredToWait", "lookouts", "(I)I"⟩ ∈ tb := tb3 (i := 162) rfl rfl
theorem m_3_163 : Cond.selects "HiredToWait" ⟨"HiredToWait", "lookouts", "(I)I"⟩ ⟨"HiredToWait", "lookouts", "(I)I"⟩ ∈ tb := tb3 (i := 163) rfl rfl
theorem m_3_164 : Cond.code ⟨"HiredToWait", "lookouts", "(I)I"⟩ prog_1_method_21_code 2 (some .int) ∈ tb := tb3 (i := 164) rfl rfl
theorem m_3_165 : Cond.methodLink "HiredToWait" 212 ⟨"HiredToWait$Guild", "cornersWithSight", "(LHiredToWait$Waiter;)I"⟩ ∈ tb := tb3 (i := 165) rfl rfl
theorem m_3_166 : Cond.instanceMethod ⟨"HiredToWait$Guild", "cornersWithSight", "(LHiredToWait$Waiter;)I"⟩ ∈ tb := tb3 (i := 166) rfl rfl
theorem m_3_167 : Cond.selects "HiredToWait$Guild" ⟨"HiredToWait$Guild", "cornersWithSight", "(LHiredToWait$Waiter;)I"⟩ ⟨"HiredToWait$Guild", "cornersWithSight", "(LHiredToWait$Waiter;)I"⟩ ∈ tb := tb3 (i := 167) rfl rfl
theorem m_3_168 : Cond.code ⟨"HiredToWait$Guild", "cornersWithSight", "(LHiredToWait$Waiter;)I"⟩ prog_3_method_14_code 4 (some .int) ∈ tb := tb3 (i := 168) rfl rfl
theorem m_3_169 : Cond.methodLink "HiredToWait$Guild" 140 ⟨"HiredToWait$Guild", "thingsSeen", "(LHiredToWait$Waiter;I)I"⟩ ∈ tb := tb3 (i := 169) rfl rfl
theorem m_3_170 : Cond.instanceMethod ⟨"HiredToWait$Guild", "thingsSeen", "(LHiredToWait$Waiter;I)I"⟩ ∈ tb := tb3 (i := 170) rfl rfl
theorem m_3_171 : Cond.selects "HiredToWait$Guild" ⟨"HiredToWait$Guild", "thingsSeen", "(LHiredToWait$Waiter;I)I"⟩ ⟨"HiredToWait$Guild", "thingsSeen", "(LHiredToWait$Waiter;I)I"⟩ ∈ tb := tb3 (i := 171) rfl rfl
theorem m_3_172 : Cond.code ⟨"HiredToWait$Guild", "thingsSeen", "(LHiredToWait$Waiter;I)I"⟩ prog_3_method_13_code 5 (some .int) ∈ tb := tb3 (i := 172) rfl rfl
theorem m_3_173 : Cond.methodLink "HiredToWait$Guild" 134 ⟨"java/lang/Math", "abs", "(I)I"⟩ ∈ tb := tb3 (i := 173) rfl rfl
theorem m_3_174 : Cond.static ⟨"java/lang/Math", "abs", "(I)I"⟩ ∈ tb := tb3 (i := 174) rfl rfl
theorem m_3_175 : Cond.code ⟨"java/lang/Math", "abs", "(I)I"⟩ prog_12_method_59_code 1 (some .int) ∈ tb := tb3 (i := 175) rfl rfl
theorem m_3_176 : Cond.methodLink "HiredToWait$Guild" 137 ⟨"HiredToWait$Waiter", "sight", "()I"⟩ ∈ tb := tb3 (i := 176) rfl rfl
theorem m_3_177 : Cond.methodLink "HiredToWaitLaw" 103 ⟨"HiredToWait", "rota", "(II)I"⟩ ∈ tb := tb3 (i := 177) rfl rfl
theorem m_3_178 : Cond.instanceMethod ⟨"HiredToWait", "rota", "(II)I"⟩ ∈ tb := tb3 (i := 178) rfl rfl
theorem m_3_179 : Cond.selects "HiredToWait" ⟨"HiredToWait", "rota", "(II)I"⟩ ⟨"HiredToWait", "rota", "(II)I"⟩ ∈ tb := tb3 (i := 179) rfl rfl
theorem m_3_180 : Cond.code ⟨"HiredToWait", "rota", "(II)I"⟩ prog_1_method_22_code 3 (some .int) ∈ tb := tb3 (i := 180) rfl rfl
theorem m_3_181 : Cond.methodLink "HiredToWait" 216 ⟨"HiredToWait$Thing", "quarters", "()I"⟩ ∈ tb := tb3 (i := 181) rfl rfl
theorem m_3_182 : Cond.methodLink "HiredToWait" 220 ⟨"HiredToWait$Rota", "layOut", "(LHiredToWait$Guild;I)V"⟩ ∈ tb := tb3 (i := 182) rfl rfl
theorem m_3_183 : Cond.instanceMethod ⟨"HiredToWait$Rota", "layOut", "(LHiredToWait$Guild;I)V"⟩ ∈ tb := tb3 (i := 183) rfl rfl
theorem m_3_184 : Cond.selects "HiredToWait$Rota" ⟨"HiredToWait$Rota", "layOut", "(LHiredToWait$Guild;I)V"⟩ ⟨"HiredToWait$Rota", "layOut", "(LHiredToWait$Guild;I)V"⟩ ∈ tb := tb3 (i := 184) rfl rfl
theorem m_3_185 : Cond.code ⟨"HiredToWait$Rota", "layOut", "(LHiredToWait$Guild;I)V"⟩ prog_5_method_2_code 5 none ∈ tb := tb3 (i := 185) rfl rfl
theorem m_3_186 : Cond.methodLink "HiredToWait$Rota" 20 ⟨"java/lang/Math", "min", "(II)I"⟩ ∈ tb := tb3 (i := 186) rfl rfl
theorem m_3_187 : Cond.methodLink "HiredToWait$Rota" 26 ⟨"java/lang/Math", "max", "(II)I"⟩ ∈ tb := tb3 (i := 187) rfl rfl
theorem m_3_188 : Cond.constant "HiredToWait$Rota" 34 (1000000) ∈ tb := tb3 (i := 188) rfl rfl
theorem m_3_189 : Cond.methodLink "HiredToWait$Rota" 35 ⟨"HiredToWait$Rota", "firstBest", "(LHiredToWait$Guild;II)I"⟩ ∈ tb := tb3 (i := 189) rfl rfl
theorem m_3_191 : Cond.instanceMethod ⟨"HiredToWait$Rota", "firstBest", "(LHiredToWait$Guild;II)I"⟩ ∈ tb := tb3 (i := 191) rfl rfl
theorem m_3_192 : Cond.code ⟨"HiredToWait$Rota", "firstBest", "(LHiredToWait$Guild;II)I"⟩ prog_5_method_5_code 7 (some .int) ∈ tb := tb3 (i := 192) rfl rfl
theorem m_3_193 : Cond.methodLink "HiredToWait$Rota" 54 ⟨"HiredToWait$Waiter", "quartersHeld", "(I)I"⟩ ∈ tb := tb3 (i := 193) rfl rfl
theorem m_3_194 : Cond.methodLink "HiredToWait$Rota" 39 ⟨"HiredToWait$Rota", "payWith", "(LHiredToWait$Guild;III)I"⟩ ∈ tb := tb3 (i := 194) rfl rfl
theorem m_3_196 : Cond.instanceMethod ⟨"HiredToWait$Rota", "payWith", "(LHiredToWait$Guild;III)I"⟩ ∈ tb := tb3 (i := 196) rfl rfl
theorem m_3_197 : Cond.code ⟨"HiredToWait$Rota", "payWith", "(LHiredToWait$Guild;III)I"⟩ prog_5_method_6_code 5 (some .int) ∈ tb := tb3 (i := 197) rfl rfl
theorem m_3_198 : Cond.methodLink "HiredToWait$Rota" 60 ⟨"HiredToWait$Waiter", "wageFor", "(II)I"⟩ ∈ tb := tb3 (i := 198) rfl rfl
theorem m_3_199 : Cond.methodLink "HiredToWait" 224 ⟨"HiredToWait$Rota", "leastCost", "()I"⟩ ∈ tb := tb3 (i := 199) rfl rfl
theorem m_3_200 : Cond.instanceMethod ⟨"HiredToWait$Rota", "leastCost", "()I"⟩ ∈ tb := tb3 (i := 200) rfl rfl
theorem m_3_201 : Cond.selects "HiredToWait$Rota" ⟨"HiredToWait$Rota", "leastCost", "()I"⟩ ⟨"HiredToWait$Rota", "leastCost", "()I"⟩ ∈ tb := tb3 (i := 201) rfl rfl
theorem m_3_202 : Cond.code ⟨"HiredToWait$Rota", "leastCost", "()I"⟩ prog_5_method_3_code 2 (some .int) ∈ tb := tb3 (i := 202) rfl rfl
theorem m_3_203 : Cond.methodLink "HiredToWait" 227 ⟨"HiredToWait$Rota", "shareOf", "(LHiredToWait$Guild;I)I"⟩ ∈ tb := tb3 (i := 203) rfl rfl
theorem m_3_204 : Cond.instanceMethod ⟨"HiredToWait$Rota", "shareOf", "(LHiredToWait$Guild;I)I"⟩ ∈ tb := tb3 (i := 204) rfl rfl
theorem m_3_205 : Cond.selects "HiredToWait$Rota" ⟨"HiredToWait$Rota", "shareOf", "(LHiredToWait$Guild;I)I"⟩ ⟨"HiredToWait$Rota", "shareOf", "(LHiredToWait$Guild;I)I"⟩ ∈ tb := tb3 (i := 205) rfl rfl
theorem m_3_206 : Cond.code ⟨"HiredToWait$Rota", "shareOf", "(LHiredToWait$Guild;I)I"⟩ prog_5_method_4_code 6 (some .int) ∈ tb := tb3 (i := 206) rfl rfl
theorem m_3_207 : Cond.methodLink "HiredToWait$Rota" 43 ⟨"HiredToWait$Rota", "leastCost", "()I"⟩ ∈ tb := tb3 (i := 207) rfl rfl
theorem m_3_208 : Cond.methodLink "HiredToWaitLaw" 107 ⟨"HiredToWait", "posts", "(I)I"⟩ ∈ tb := tb3 (i := 208) rfl rfl
theorem m_3_209 : Cond.instanceMethod ⟨"HiredToWait", "posts", "(I)I"⟩ ∈ tb := tb3 (i := 209) rfl rfl
theorem m_3_210 : Cond.selects "HiredToWait" ⟨"HiredToWait", "posts", "(I)I"⟩ ⟨"HiredToWait", "posts", "(I)I"⟩ ∈ tb := tb3 (i := 210) rfl rfl
theorem m_3_211 : Cond.code ⟨"HiredToWait", "posts", "(I)I"⟩ prog_1_method_23_code 3 (some .int) ∈ tb := tb3 (i := 211) rfl rfl
theorem m_3_212 : Cond.methodLink "HiredToWait" 231 ⟨"HiredToWait$Guild", "fewestPosts", "()I"⟩ ∈ tb := tb3 (i := 212) rfl rfl
theorem m_3_213 : Cond.instanceMethod ⟨"HiredToWait$Guild", "fewestPosts", "()I"⟩ ∈ tb := tb3 (i := 213) rfl rfl
theorem m_3_214 : Cond.selects "HiredToWait$Guild" ⟨"HiredToWait$Guild", "fewestPosts", "()I"⟩ ⟨"HiredToWait$Guild", "fewestPosts", "()I"⟩ ∈ tb := tb3 (i := 214) rfl rfl
theorem m_3_215 : Cond.code ⟨"HiredToWait$Guild", "fewestPosts", "()I"⟩ prog_3_method_17_code 6 (some .int) ∈ tb := tb3 (i := 215) rfl rfl
theorem m_3_216 : Cond.methodLink "HiredToWait$Guild" 147 ⟨"java/lang/Integer", "bitCount", "(I)I"⟩ ∈ tb := tb3 (i := 216) rfl rfl
theorem m_3_217 : Cond.static ⟨"java/lang/Integer", "bitCount", "(I)I"⟩ ∈ tb := tb3 (i := 217) rfl rfl
theorem m_3_218 : Cond.code ⟨"java/lang/Integer", "bitCount", "(I)I"⟩ prog_11_method_49_code 1 (some .int) ∈ tb := tb3 (i := 218) rfl rfl
theorem m_3_219 : Cond.constant "java/lang/Integer" 265 (1431655765) ∈ tb := tb3 (i := 219) rfl rfl
theorem m_3_220 : Cond.constant "java/lang/Integer" 266 (858993459) ∈ tb := tb3 (i := 220) rfl rfl
theorem m_3_221 : Cond.constant "java/lang/Integer" 267 (252645135) ∈ tb := tb3 (i := 221) rfl rfl
theorem m_3_222 : Cond.methodLink "HiredToWait$Guild" 152 ⟨"HiredToWait$Guild", "seenFromPosts", "(I)I"⟩ ∈ tb := tb3 (i := 222) rfl rfl
theorem m_3_224 : Cond.instanceMethod ⟨"HiredToWait$Guild", "seenFromPosts", "(I)I"⟩ ∈ tb := tb3 (i := 224) rfl rfl
theorem m_3_225 : Cond.code ⟨"HiredToWait$Guild", "seenFromPosts", "(I)I"⟩ prog_3_method_18_code 4 (some .int) ∈ tb := tb3 (i := 225) rfl rfl
theorem m_3_226 : Cond.methodLink "HiredToWait" 234 ⟨"java/lang/Integer", "bitCount", "(I)I"⟩ ∈ tb := tb3 (i := 226) rfl rfl
theorem m_3_227 : Cond.methodLink "HiredToWaitLaw" 111 ⟨"HiredToWait", "seen", "(II)I"⟩ ∈ tb := tb3 (i := 227) rfl rfl
theorem m_3_228 : Cond.instanceMethod ⟨"HiredToWait", "seen", "(II)I"⟩ ∈ tb := tb3 (i := 228) rfl rfl
theorem m_3_229 : Cond.selects "HiredToWait" ⟨"HiredToWait", "seen", "(II)I"⟩ ⟨"HiredToWait", "seen", "(II)I"⟩ ∈ tb := tb3 (i := 229) rfl rfl
theorem m_3_230 : Cond.code ⟨"HiredToWait", "seen", "(II)I"⟩ prog_1_method_24_code 4 (some .int) ∈ tb := tb3 (i := 230) rfl rfl
theorem m_3_231 : Cond.methodLink "HiredToWait" 239 ⟨"HiredToWait$Guild", "thingsSeen", "(LHiredToWait$Waiter;I)I"⟩ ∈ tb := tb3 (i := 231) rfl rfl
theorem m_3_232 : Cond.methodLink "HiredToWait" 243 ⟨"HiredToWait$Guild", "bestStand", "(LHiredToWait$Waiter;)I"⟩ ∈ tb := tb3 (i := 232) rfl rfl
theorem m_3_233 : Cond.instanceMethod ⟨"HiredToWait$Guild", "bestStand", "(LHiredToWait$Waiter;)I"⟩ ∈ tb := tb3 (i := 233) rfl rfl
theorem m_3_234 : Cond.selects "HiredToWait$Guild" ⟨"HiredToWait$Guild", "bestStand", "(LHiredToWait$Waiter;)I"⟩ ⟨"HiredToWait$Guild", "bestStand", "(LHiredToWait$Waiter;)I"⟩ ∈ tb := tb3 (i := 234) rfl rfl
theorem m_3_235 : Cond.code ⟨"HiredToWait$Guild", "bestStand", "(LHiredToWait$Waiter;)I"⟩ prog_3_method_15_code 6 (some .int) ∈ tb := tb3 (i := 235) rfl rfl
theorem m_3_236 : Cond.methodLink "HiredToWait$Guild" 144 ⟨"HiredToWait$Guild", "worthOf", "(I)I"⟩ ∈ tb := tb3 (i := 236) rfl rfl
theorem m_3_238 : Cond.instanceMethod ⟨"HiredToWait$Guild", "worthOf", "(I)I"⟩ ∈ tb := tb3 (i := 238) rfl rfl
theorem m_3_239 : Cond.code ⟨"HiredToWait$Guild", "worthOf", "(I)I"⟩ prog_3_method_16_code 4 (some .int) ∈ tb := tb3 (i := 239) rfl rfl
theorem m_4_0 : Cond.methodLink "HiredToWaitLaw" 115 ⟨"HiredToWait", "met", "(II)I"⟩ ∈ tb := tb4 (i := 0) rfl rfl
theorem m_4_1 : Cond.instanceMethod ⟨"HiredToWait", "met", "(II)I"⟩ ∈ tb := tb4 (i := 1) rfl rfl
theorem m_4_2 : Cond.selects "HiredToWait" ⟨"HiredToWait", "met", "(II)I"⟩ ⟨"HiredToWait", "met", "(II)I"⟩ ∈ tb := tb4 (i := 2) rfl rfl
theorem m_4_3 : Cond.code ⟨"HiredToWait", "met", "(II)I"⟩ prog_1_method_25_code 3 (some .int) ∈ tb := tb4 (i := 3) rfl rfl
theorem m_4_4 : Cond.methodLink "HiredToWait" 246 ⟨"HiredToWait$Thing", "isMet", "(Z)Z"⟩ ∈ tb := tb4 (i := 4) rfl rfl
theorem m_4_5 : Cond.instanceMethod ⟨"HiredToWait$Thing", "isMet", "(Z)Z"⟩ ∈ tb := tb4 (i := 5) rfl rfl
theorem m_4_6 : Cond.selects "HiredToWait$Thing" ⟨"HiredToWait$Thing", "isMet", "(Z)Z"⟩ ⟨"HiredToWait$Thing", "isMet", "(Z)Z"⟩ ∈ tb := tb4 (i := 6) rfl rfl
theorem m_4_7 : Cond.code ⟨"HiredToWait$Thing", "isMet", "(Z)Z"⟩ prog_7_method_8_code 2 (some .boolean) ∈ tb := tb4 (i := 7) rfl rfl
theorem m_4_8 : Cond.methodLink "HiredToWaitLaw" 119 ⟨"HiredToWait", "runners", "(II)I"⟩ ∈ tb := tb4 (i := 8) rfl rfl
theorem m_4_9 : Cond.instanceMethod ⟨"HiredToWait", "runners", "(II)I"⟩ ∈ tb := tb4 (i := 9) rfl rfl
theorem m_4_10 : Cond.selects "HiredToWait" ⟨"HiredToWait", "runners", "(II)I"⟩ ⟨"HiredToWait", "runners", "(II)I"⟩ ∈ tb := tb4 (i := 10) rfl rfl
theorem m_4_11 : Cond.code ⟨"HiredToWait", "runners", "(II)I"⟩ prog_1_method_26_code 4 (some .int) ∈ tb := tb4 (i := 11) rfl rfl
theorem m_4_12 : Cond.methodLink "HiredToWait" 250 ⟨"HiredToWait$Guild", "thingsToRunFor", "(I)I"⟩ ∈ tb := tb4 (i := 12) rfl rfl
theorem m_4_13 : Cond.instanceMethod ⟨"HiredToWait$Guild", "thingsToRunFor", "(I)I"⟩ ∈ tb := tb4 (i := 13) rfl rfl
theorem m_4_14 : Cond.selects "HiredToWait$Guild" ⟨"HiredToWait$Guild", "thingsToRunFor", "(I)I"⟩ ⟨"HiredToWait$Guild", "thingsToRunFor", "(I)I"⟩ ∈ tb := tb4 (i := 14) rfl rfl
theorem m_4_15 : Cond.code ⟨"HiredToWait$Guild", "thingsToRunFor", "(I)I"⟩ prog_3_method_20_code 5 (some .int) ∈ tb := tb4 (i := 15) rfl rfl
theorem m_4_16 : Cond.methodLink "HiredToWait$Guild" 159 ⟨"HiredToWait$Guild", "worthiestInNeed", "(I)I"⟩ ∈ tb := tb4 (i := 16) rfl rfl
theorem m_4_18 : Cond.instanceMethod ⟨"HiredToWait$Guild", "worthiestInNeed", "(I)I"⟩ ∈ tb := tb4 (i := 18) rfl rfl
theorem m_4_19 : Cond.code ⟨"HiredToWait$Guild", "worthiestInNeed", "(I)I"⟩ prog_3_method_21_code 6 (some .int) ∈ tb := tb4 (i := 19) rfl rfl
theorem m_4_20 : Cond.methodLink "HiredToWait$Guild" 162 ⟨"HiredToWait$Thing", "needsRunner", "()Z"⟩ ∈ tb := tb4 (i := 20) rfl rfl
theorem m_4_21 : Cond.instanceMethod ⟨"HiredToWait$Thing", "needsRunner", "()Z"⟩ ∈ tb := tb4 (i := 21) rfl rfl
theorem m_4_22 : Cond.selects "HiredToWait$Thing" ⟨"HiredToWait$Thing", "needsRunner", "()Z"⟩ ⟨"HiredToWait$Thing", "needsRunner", "()Z"⟩ ∈ tb := tb4 (i := 22) rfl rfl
theorem m_4_23 : Cond.code ⟨"HiredToWait$Thing", "needsRunner", "()Z"⟩ prog_7_method_9_code 1 (some .boolean) ∈ tb := tb4 (i := 23) rfl rfl
theorem m_4_24 : Cond.methodLink "HiredToWait$Thing" 54 ⟨"HiredToWait$Thing", "isMet", "(Z)Z"⟩ ∈ tb := tb4 (i := 24) rfl rfl
theorem m_4_25 : Cond.methodLink "HiredToWait" 253 ⟨"HiredToWait$Guild", "worthMet", "(I)I"⟩ ∈ tb := tb4 (i := 25) rfl rfl
theorem m_4_26 : Cond.instanceMethod ⟨"HiredToWait$Guild", "worthMet", "(I)I"⟩ ∈ tb := tb4 (i := 26) rfl rfl
theorem m_4_27 : Cond.selects "HiredToWait$Guild" ⟨"HiredToWait$Guild", "worthMet", "(I)I"⟩ ⟨"HiredToWait$Guild", "worthMet", "(I)I"⟩ ∈ tb := tb4 (i := 27) rfl rfl
theorem m_4_28 : Cond.code ⟨"HiredToWait$Guild", "worthMet", "(I)I"⟩ prog_3_method_19_code 4 (some .int) ∈ tb := tb4 (i := 28) rfl rfl
theorem m_4_29 : Cond.methodLink "HiredToWait$Guild" 155 ⟨"HiredToWait$Thing", "isMet", "(Z)Z"⟩ ∈ tb := tb4 (i := 29) rfl rfl
theorem m_4_30 : Cond.methodLink "HiredToWaitLaw" 123 ⟨"HiredToWait", "left", "(II)I"⟩ ∈ tb := tb4 (i := 30) rfl rfl
theorem m_4_31 : Cond.instanceMethod ⟨"HiredToWait", "left", "(II)I"⟩ ∈ tb := tb4 (i := 31) rfl rfl
theorem m_4_32 : Cond.selects "HiredToWait" ⟨"HiredToWait", "left", "(II)I"⟩ ⟨"HiredToWait", "left", "(II)I"⟩ ∈ tb := tb4 (i := 32) rfl rfl
theorem m_4_33 : Cond.code ⟨"HiredToWait", "left", "(II)I"⟩ prog_1_method_27_code 8 (some .int) ∈ tb := tb4 (i := 33) rfl rfl
theorem m_4_34 : Cond.methodLink "HiredToWait" 256 ⟨"HiredToWait", "toldRefusal", "(IIIZ)I"⟩ ∈ tb := tb4 (i := 34) rfl rfl
theorem m_4_36 : Cond.instanceMethod ⟨"HiredToWait", "toldRefusal", "(IIIZ)I"⟩ ∈ tb := tb4 (i := 36) rfl rfl
theorem m_4_37 : Cond.code ⟨"HiredToWait", "toldRefusal", "(IIIZ)I"⟩ prog_1_method_43_code 6 (some .int) ∈ tb := tb4 (i := 37) rfl rfl
theorem m_4_38 : Cond.methodLink "HiredToWait" 263 ⟨"HiredToWait$Shelf", "number", "(I)I"⟩ ∈ tb := tb4 (i := 38) rfl rfl
theorem m_4_39 : Cond.methodLink "HiredToWait" 266 ⟨"HiredToWait$Guild", "thingsIn", "(I)I"⟩ ∈ tb := tb4 (i := 39) rfl rfl
theorem m_4_40 : Cond.instanceMethod ⟨"HiredToWait$Guild", "thingsIn", "(I)I"⟩ ∈ tb := tb4 (i := 40) rfl rfl
theorem m_4_41 : Cond.selects "HiredToWait$Guild" ⟨"HiredToWait$Guild", "thingsIn", "(I)I"⟩ ⟨"HiredToWait$Guild", "thingsIn", "(I)I"⟩ ∈ tb := tb4 (i := 41) rfl rfl
theorem m_4_42 : Cond.code ⟨"HiredToWait$Guild", "thingsIn", "(I)I"⟩ prog_3_method_22_code 4 (some .int) ∈ tb := tb4 (i := 42) rfl rfl
theorem m_4_43 : Cond.methodLink "HiredToWait$Guild" 165 ⟨"HiredToWait$Thing", "canComeIn", "(I)Z"⟩ ∈ tb := tb4 (i := 43) rfl rfl
theorem m_4_44 : Cond.instanceMethod ⟨"HiredToWait$Thing", "canComeIn", "(I)Z"⟩ ∈ tb := tb4 (i := 44) rfl rfl
theorem m_4_45 : Cond.selects "HiredToWait$Thing" ⟨"HiredToWait$Thing", "canComeIn", "(I)Z"⟩ ⟨"HiredToWait$Thing", "canComeIn", "(I)Z"⟩ ∈ tb := tb4 (i := 45) rfl rfl
theorem m_4_46 : Cond.code ⟨"HiredToWait$Thing", "canComeIn", "(I)Z"⟩ prog_7_method_6_code 2 (some .boolean) ∈ tb := tb4 (i := 46) rfl rfl
theorem m_4_48 : Cond.methodLink "HiredToWaitLaw" 127 ⟨"HiredToWait", "await", "(I)I"⟩ ∈ tb := tb4 (i := 48) rfl rfl
theorem m_4_49 : Cond.instanceMethod ⟨"HiredToWait", "await", "(I)I"⟩ ∈ tb := tb4 (i := 49) rfl rfl
theorem m_4_50 : Cond.selects "HiredToWait" ⟨"HiredToWait", "await", "(I)I"⟩ ⟨"HiredToWait", "await", "(I)I"⟩ ∈ tb := tb4 (i := 50) rfl rfl
theorem m_4_51 : Cond.code ⟨"HiredToWait", "await", "(I)I"⟩ prog_1_method_28_code 2 (some .int) ∈ tb := tb4 (i := 51) rfl rfl
theorem m_4_52 : Cond.methodLink "HiredToWait" 269 ⟨"HiredToWait$Guild", "fullestQuarter", "()I"⟩ ∈ tb := tb4 (i := 52) rfl rfl
theorem m_4_53 : Cond.instanceMethod ⟨"HiredToWait$Guild", "fullestQuarter", "()I"⟩ ∈ tb := tb4 (i := 53) rfl rfl
theorem m_4_54 : Cond.selects "HiredToWait$Guild" ⟨"HiredToWait$Guild", "fullestQuarter", "()I"⟩ ⟨"HiredToWait$Guild", "fullestQuarter", "()I"⟩ ∈ tb := tb4 (i := 54) rfl rfl
theorem m_4_55 : Cond.code ⟨"HiredToWait$Guild", "fullestQuarter", "()I"⟩ prog_3_method_23_code 5 (some .int) ∈ tb := tb4 (i := 55) rfl rfl
theorem m_4_56 : Cond.methodLink "HiredToWait$Guild" 169 ⟨"HiredToWait$Guild", "thingsIn", "(I)I"⟩ ∈ tb := tb4 (i := 56) rfl rfl
theorem m_4_57 : Cond.methodLink "HiredToWaitLaw" 131 ⟨"HiredToWait", "judge", "(II)I"⟩ ∈ tb := tb4 (i := 57) rfl rfl
theorem m_4_58 : Cond.instanceMethod ⟨"HiredToWait", "judge", "(II)I"⟩ ∈ tb := tb4 (i := 58) rfl rfl
theorem m_4_59 : Cond.selects "HiredToWait" ⟨"HiredToWait", "judge", "(II)I"⟩ ⟨"HiredToWait", "judge", "(II)I"⟩ ∈ tb := tb4 (i := 59) rfl rfl
theorem m_4_60 : Cond.code ⟨"HiredToWait", "judge", "(II)I"⟩ prog_1_method_29_code 4 (some .int) ∈ tb := tb4 (i := 60) rfl rfl
theorem m_4_61 : Cond.methodLink "HiredToWait" 272 ⟨"HiredToWait", "firstWrong", "(LHiredToWait$Shelf;I)I"⟩ ∈ tb := tb4 (i := 61) rfl rfl
theorem m_4_63 : Cond.instanceMethod ⟨"HiredToWait", "firstWrong", "(LHiredToWait$Shelf;I)I"⟩ ∈ tb := tb4 (i := 63) rfl rfl
theorem m_4_64 : Cond.code ⟨"HiredToWait", "firstWrong", "(LHiredToWait$Shelf;I)I"⟩ prog_1_method_45_code 7 (some .int) ∈ tb := tb4 (i := 64) rfl rfl
theorem m_4_65 : Cond.methodLink "HiredToWait" 318 ⟨"HiredToWait$Guild", "mayBeTold", "(I)Z"⟩ ∈ tb := tb4 (i := 65) rfl rfl
theorem m_4_66 : Cond.instanceMethod ⟨"HiredToWait$Guild", "mayBeTold", "(I)Z"⟩ ∈ tb := tb4 (i := 66) rfl rfl
theorem m_4_67 : Cond.selects "HiredToWait$Guild" ⟨"HiredToWait$Guild", "mayBeTold", "(I)Z"⟩ ⟨"HiredToWait$Guild", "mayBeTold", "(I)Z"⟩ ∈ tb := tb4 (i := 67) rfl rfl
theorem m_4_68 : Cond.code ⟨"HiredToWait$Guild", "mayBeTold", "(I)Z"⟩ prog_3_method_24_code 3 (some .boolean) ∈ tb := tb4 (i := 68) rfl rfl
theorem m_4_69 : Cond.methodLink "HiredToWait$Guild" 172 ⟨"HiredToWait$Guild", "hasThing", "(I)Z"⟩ ∈ tb := tb4 (i := 69) rfl rfl
theorem m_4_70 : Cond.methodLink "HiredToWait$Guild" 175 ⟨"HiredToWait$Thing", "mayHave", "(I)Z"⟩ ∈ tb := tb4 (i := 70) rfl rfl
theorem m_4_71 : Cond.instanceMethod ⟨"HiredToWait$Thing", "mayHave", "(I)Z"⟩ ∈ tb := tb4 (i := 71) rfl rfl
theorem m_4_72 : Cond.selects "HiredToWait$Thing" ⟨"HiredToWait$Thing", "mayHave", "(I)Z"⟩ ⟨"HiredToWait$Thing", "mayHave", "(I)Z"⟩ ∈ tb := tb4 (i := 72) rfl rfl
theorem m_4_73 : Cond.code ⟨"HiredToWait$Thing", "mayHave", "(I)Z"⟩ prog_7_method_7_code 2 (some .boolean) ∈ tb := tb4 (i := 73) rfl rfl
theorem m_4_74 : Cond.methodLink "HiredToWait$Thing" 50 ⟨"HiredToWait$Thing", "canComeIn", "(I)Z"⟩ ∈ tb := tb4 (i := 74) rfl rfl
theorem m_4_75 : Cond.methodLink "HiredToWaitLaw" 135 ⟨"HiredToWait", "behind", "(III)I"⟩ ∈ tb := tb4 (i := 75) rfl rfl
theorem m_4_76 : Cond.instanceMethod ⟨"HiredToWait", "behind", "(III)I"⟩ ∈ tb := tb4 (i := 76) rfl rfl
theorem m_4_77 : Cond.selects "HiredToWait" ⟨"HiredToWait", "behind", "(III)I"⟩ ⟨"HiredToWait", "behind", "(III)I"⟩ ∈ tb := tb4 (i := 77) rfl rfl
theorem m_4_78 : Cond.code ⟨"HiredToWait", "behind", "(III)I"⟩ prog_1_method_30_code 10 (some .int) ∈ tb := tb4 (i := 78) rfl rfl
theorem m_4_79 : Cond.methodLink "HiredToWait" 276 ⟨"HiredToWait", "dayRefusal", "(IIZ)I"⟩ ∈ tb := tb4 (i := 79) rfl rfl
theorem m_4_81 : Cond.instanceMethod ⟨"HiredToWait", "dayRefusal", "(IIZ)I"⟩ ∈ tb := tb4 (i := 81) rfl rfl
theorem m_4_82 : Cond.code ⟨"HiredToWait", "dayRefusal", "(IIZ)I"⟩ prog_1_method_44_code 5 (some .int) ∈ tb := tb4 (i := 82) rfl rfl
theorem m_4_83 : Cond.methodLink "HiredToWait" 280 ⟨"HiredToWait$Guild", "isMetAsTold", "(I)Z"⟩ ∈ tb := tb4 (i := 83) rfl rfl
theorem m_4_84 : Cond.instanceMethod ⟨"HiredToWait$Guild", "isMetAsTold", "(I)Z"⟩ ∈ tb := tb4 (i := 84) rfl rfl
theorem m_4_85 : Cond.selects "HiredToWait$Guild" ⟨"HiredToWait$Guild", "isMetAsTold", "(I)Z"⟩ ⟨"HiredToWait$Guild", "isMetAsTold", "(I)Z"⟩ ∈ tb := tb4 (i := 85) rfl rfl
theorem m_4_86 : Cond.code ⟨"HiredToWait$Guild", "isMetAsTold", "(I)Z"⟩ prog_3_method_25_code 2 (some .boolean) ∈ tb := tb4 (i := 86) rfl rfl
theorem m_4_87 : Cond.methodLink "HiredToWait$Guild" 178 ⟨"HiredToWait$Guild", "mayBeTold", "(I)Z"⟩ ∈ tb := tb4 (i := 87) rfl rfl
theorem m_4_88 : Cond.methodLink "HiredToWait" 283 ⟨"HiredToWait$Guild", "worthAsTold", "(I)I"⟩ ∈ tb := tb4 (i := 88) rfl rfl
theorem m_4_89 : Cond.instanceMethod ⟨"HiredToWait$Guild", "worthAsTold", "(I)I"⟩ ∈ tb := tb4 (i := 89) rfl rfl
theorem m_4_90 : Cond.selects "HiredToWait$Guild" ⟨"HiredToWait$Guild", "worthAsTold", "(I)I"⟩ ⟨"HiredToWait$Guild", "worthAsTold", "(I)I"⟩ ∈ tb := tb4 (i := 90) rfl rfl
theorem m_4_91 : Cond.code ⟨"HiredToWait$Guild", "worthAsTold", "(I)I"⟩ prog_3_method_26_code 2 (some .int) ∈ tb := tb4 (i := 91) rfl rfl
theorem m_4_92 : Cond.methodLink "HiredToWaitLaw" 139 ⟨"HiredToWait", "done", "(II)I"⟩ ∈ tb := tb4 (i := 92) rfl rfl
theorem m_4_93 : Cond.instanceMethod ⟨"HiredToWait", "done", "(II)I"⟩ ∈ tb := tb4 (i := 93) rfl rfl
theorem m_4_94 : Cond.selects "HiredToWait" ⟨"HiredToWait", "done", "(II)I"⟩ ⟨"HiredToWait", "done", "(II)I"⟩ ∈ tb := tb4 (i := 94) rfl rfl
theorem m_4_95 : Cond.code ⟨"HiredToWait", "done", "(II)I"⟩ prog_1_method_31_code 6 (some .int) ∈ tb := tb4 (i := 95) rfl rfl
theorem m_4_96 : Cond.methodLink "HiredToWaitLaw" 143 ⟨"HiredToWait", "days", "(I)I"⟩ ∈ tb := tb4 (i := 96) rfl rfl
theorem m_4_97 : Cond.instanceMethod ⟨"HiredToWait", "days", "(I)I"⟩ ∈ tb := tb4 (i := 97) rfl rfl
theorem m_4_98 : Cond.selects "HiredToWait" ⟨"HiredToWait", "days", "(I)I"⟩ ⟨"HiredToWait", "days", "(I)I"⟩ ∈ tb := tb4 (i := 98) rfl rfl
theorem m_4_99 : Cond.code ⟨"HiredToWait", "days", "(I)I"⟩ prog_1_method_32_code 3 (some .int) ∈ tb := tb4 (i := 99) rfl rfl
theorem m_4_100 : Cond.methodLink "HiredToWait" 292 ⟨"HiredToWait$Guild", "passDay", "()V"⟩ ∈ tb := tb4 (i := 100) rfl rfl
theorem m_4_101 : Cond.instanceMethod ⟨"HiredToWait$Guild", "passDay", "()V"⟩ ∈ tb := tb4 (i := 101) rfl rfl
theorem m_4_102 : Cond.selects "HiredToWait$Guild" ⟨"HiredToWait$Guild", "passDay", "()V"⟩ ⟨"HiredToWait$Guild", "passDay", "()V"⟩ ∈ tb := tb4 (i := 102) rfl rfl
theorem m_4_103 : Cond.code ⟨"HiredToWait$Guild", "passDay", "()V"⟩ prog_3_method_27_code 4 none ∈ tb := tb4 (i := 103) rfl rfl
theorem m_4_104 : Cond.methodLink "HiredToWait$Guild" 181 ⟨"HiredToWait$Guild", "draw", "(I)I"⟩ ∈ tb := tb4 (i := 104) rfl rfl
theorem m_4_106 : Cond.instanceMethod ⟨"HiredToWait$Guild", "draw", "(I)I"⟩ ∈ tb := tb4 (i := 106) rfl rfl
theorem m_4_107 : Cond.code ⟨"HiredToWait$Guild", "draw", "(I)I"⟩ prog_3_method_28_code 2 (some .int) ∈ tb := tb4 (i := 107) rfl rfl
theorem m_4_108 : Cond.constant "HiredToWait$Guild" 184 (1103515245) ∈ tb := tb4 (i := 108) rfl rfl
theorem m_4_109 : Cond.methodLink "HiredToWaitLaw" 147 ⟨"HiredToWait", "seed", "(I)I"⟩ ∈ tb := tb4 (i := 109) rfl rfl
theorem m_4_110 : Cond.instanceMethod ⟨"HiredToWait", "seed", "(I)I"⟩ ∈ tb := tb4 (i := 110) rfl rfl
theorem m_4_111 : Cond.selects "HiredToWait" ⟨"HiredToWait", "seed", "(I)I"⟩ ⟨"HiredToWait", "seed", "(I)I"⟩ ∈ tb := tb4 (i := 111) rfl rfl
theorem m_4_112 : Cond.code ⟨"HiredToWait", "seed", "(I)I"⟩ prog_1_method_33_code 3 (some .int) ∈ tb := tb4 (i := 112) rfl rfl
theorem m_4_113 : Cond.methodLink "HiredToWaitLaw" 151 ⟨"HiredToWait", "act", "(III)I"⟩ ∈ tb := tb4 (i := 113) rfl rfl
theorem m_4_114 : Cond.instanceMethod ⟨"HiredToWait", "act", "(III)I"⟩ ∈ tb := tb4 (i := 114) rfl rfl
theorem m_4_115 : Cond.selects "HiredToWait" ⟨"HiredToWait", "act", "(III)I"⟩ ⟨"HiredToWait", "act", "(III)I"⟩ ∈ tb := tb4 (i := 115) rfl rfl
theorem m_4_116 : Cond.code ⟨"HiredToWait", "act", "(III)I"⟩ prog_1_method_34_code 4 (some .int) ∈ tb := tb4 (i := 116) rfl rfl
theorem m_4_117 : Cond.methodLink "HiredToWait" 298 ⟨"HiredToWait$Bodies", "forget", "()V"⟩ ∈ tb := tb4 (i := 117) rfl rfl
theorem m_4_118 : Cond.instanceMethod ⟨"HiredToWait$Bodies", "forget", "()V"⟩ ∈ tb := tb4 (i := 118) rfl rfl
theorem m_4_119 : Cond.selects "HiredToWait$Bodies" ⟨"HiredToWait$Bodies", "forget", "()V"⟩ ⟨"HiredToWait$Bodies", "forget", "()V"⟩ ∈ tb := tb4 (i := 119) rfl rfl
theorem m_4_120 : Cond.code ⟨"HiredToWait$Bodies", "forget", "()V"⟩ prog_2_method_2_code 1 none ∈ tb := tb4 (i := 120) rfl rfl
theorem m_4_121 : Cond.methodLink "HiredToWait" 301 ⟨"HiredToWait$Bodies", "start", "(LHiredToWait$Waiter;II)I"⟩ ∈ tb := tb4 (i := 121) rfl rfl
theorem m_4_122 : Cond.instanceMethod ⟨"HiredToWait$Bodies", "start", "(LHiredToWait$Waiter;II)I"⟩ ∈ tb := tb4 (i := 122) rfl rfl
theorem m_4_123 : Cond.selects "HiredToWait$Bodies" ⟨"HiredToWait$Bodies", "start", "(LHiredToWait$Waiter;II)I"⟩ ⟨"HiredToWait$Bodies", "start", "(LHiredToWait$Waiter;II)I"⟩ ∈ tb := tb4 (i := 123) rfl rfl
theorem m_4_124 : Cond.code ⟨"HiredToWait$Bodies", "start", "(LHiredToWait$Waiter;II)I"⟩ prog_2_method_4_code 4 (some .int) ∈ tb := tb4 (i := 124) rfl rfl
theorem m_4_125 : Cond.methodLink "HiredToWait$Bodies" 24 ⟨"HiredToWait$Bodies", "run", "(LHiredToWait$Waiter;IIII)I"⟩ ∈ tb := tb4 (i := 125) rfl rfl
theorem m_4_127 : Cond.instanceMethod ⟨"HiredToWait$Bodies", "run", "(LHiredToWait$Waiter;IIII)I"⟩ ∈ tb := tb4 (i := 127) rfl rfl
theorem m_4_128 : Cond.code ⟨"HiredToWait$Bodies", "run", "(LHiredToWait$Waiter;IIII)I"⟩ prog_2_method_5_code 8 (some .int) ∈ tb := tb4 (i := 128) rfl rfl
theorem m_4_129 : Cond.methodLink "HiredToWait$Bodies" 28 ⟨"HiredToWait$Bodies", "nextWithBody", "(II)I"⟩ ∈ tb := tb4 (i := 129) rfl rfl
theorem m_4_130 : Cond.static ⟨"HiredToWait$Bodies", "nextWithBody", "(II)I"⟩ ∈ tb := tb4 (i := 130) rfl rfl
theorem m_4_131 : Cond.code ⟨"HiredToWait$Bodies", "nextWithBody", "(II)I"⟩ prog_2_method_7_code 4 (some .int) ∈ tb := tb4 (i := 131) rfl rfl
theorem m_4_133 : Cond.methodLink "HiredToWait$Bodies" 32 ⟨"HiredToWait$Bodies", "bodyOf", "(II)I"⟩ ∈ tb := tb4 (i := 133) rfl rfl
theorem m_4_134 : Cond.static ⟨"HiredToWait$Bodies", "bodyOf", "(II)I"⟩ ∈ tb := tb4 (i := 134) rfl rfl
theorem m_4_135 : Cond.code ⟨"HiredToWait$Bodies", "bodyOf", "(II)I"⟩ prog_2_method_8_code 3 (some .int) ∈ tb := tb4 (i := 135) rfl rfl
theorem m_4_136 : Cond.fieldLink "HiredToWait$Bodies" 56 "HiredToWait$Bodies" "NUMBERS" "[I" ∈ tb := tb4 (i := 136) rfl rfl
theorem m_4_140 : Cond.methodLink "HiredToWait$Bodies" 35 ⟨"HiredToWait$Bodies", "begin", "(I)V"⟩ ∈ tb := tb4 (i := 140) rfl rfl
theorem m_4_142 : Cond.instanceMethod ⟨"HiredToWait$Bodies", "begin", "(I)V"⟩ ∈ tb := tb4 (i := 142) rfl rfl
theorem m_4_143 : Cond.code ⟨"HiredToWait$Bodies", "begin", "(I)V"⟩ prog_2_method_9_code 2 none ∈ tb := tb4 (i := 143) rfl rfl
theorem m_4_144 : Cond.methodLink "HiredToWait$Bodies" 42 ⟨"HiredToWait$Bodies", "answerOf", "(ILHiredToWait$Waiter;III)I"⟩ ∈ tb := tb4 (i := 144) rfl rfl
theorem m_4_146 : Cond.instanceMethod ⟨"HiredToWait$Bodies", "answerOf", "(ILHiredToWait$Waiter;III)I"⟩ ∈ tb := tb4 (i := 146) rfl rfl
theorem m_4_147 : Cond.code ⟨"HiredToWait$Bodies", "answerOf", "(ILHiredToWait$Waiter;III)I"⟩ prog_2_method_6_code 8 (some .int) ∈ tb := tb4 (i := 147) rfl rfl
theorem m_4_148 : Cond.methodLink "HiredToWaitLaw" 155 ⟨"HiredToWait", "trace", "(I)I"⟩ ∈ tb := tb4 (i := 148) rfl rfl
theorem m_4_149 : Cond.instanceMethod ⟨"HiredToWait", "trace", "(I)I"⟩ ∈ tb := tb4 (i := 149) rfl rfl
theorem m_4_150 : Cond.selects "HiredToWait" ⟨"HiredToWait", "trace", "(I)I"⟩ ⟨"HiredToWait", "trace", "(I)I"⟩ ∈ tb := tb4 (i := 150) rfl rfl
theorem m_4_151 : Cond.code ⟨"HiredToWait", "trace", "(I)I"⟩ prog_1_method_35_code 2 (some .int) ∈ tb := tb4 (i := 151) rfl rfl
theorem m_4_152 : Cond.methodLink "HiredToWait" 305 ⟨"HiredToWait$Bodies", "tell", "(I)I"⟩ ∈ tb := tb4 (i := 152) rfl rfl
theorem m_4_153 : Cond.instanceMethod ⟨"HiredToWait$Bodies", "tell", "(I)I"⟩ ∈ tb := tb4 (i := 153) rfl rfl
theorem m_4_154 : Cond.selects "HiredToWait$Bodies" ⟨"HiredToWait$Bodies", "tell", "(I)I"⟩ ⟨"HiredToWait$Bodies", "tell", "(I)I"⟩ ∈ tb := tb4 (i := 154) rfl rfl
theorem m_4_155 : Cond.code ⟨"HiredToWait$Bodies", "tell", "(I)I"⟩ prog_2_method_3_code 2 (some .int) ∈ tb := tb4 (i := 155) rfl rfl
theorem m_4_156 : Cond.methodLink "HiredToWaitLaw" 159 ⟨"HiredToWait", "image", "()I"⟩ ∈ tb := tb4 (i := 156) rfl rfl
theorem m_4_157 : Cond.instanceMethod ⟨"HiredToWait", "image", "()I"⟩ ∈ tb := tb4 (i := 157) rfl rfl
theorem m_4_158 : Cond.selects "HiredToWait" ⟨"HiredToWait", "image", "()I"⟩ ⟨"HiredToWait", "image", "()I"⟩ ∈ tb := tb4 (i := 158) rfl rfl
theorem m_4_159 : Cond.code ⟨"HiredToWait", "image", "()I"⟩ prog_1_method_36_code 1 (some .int) ∈ tb := tb4 (i := 159) rfl rfl
theorem m_4_160 : Cond.methodLink "HiredToWaitLaw" 163 ⟨"HiredToWait", "restore", "()I"⟩ ∈ tb := tb4 (i := 160) rfl rfl
theorem m_4_161 : Cond.instanceMethod ⟨"HiredToWait", "restore", "()I"⟩ ∈ tb := tb4 (i := 161) rfl rfl
theorem m_4_162 : Cond.selects "HiredToWait" ⟨"HiredToWait", "restore", "()I"⟩ ⟨"HiredToWait", "restore", "()I"⟩ ∈ tb := tb4 (i := 162) rfl rfl
theorem m_4_163 : Cond.code ⟨"HiredToWait", "restore", "()I"⟩ prog_1_method_37_code 3 (some .int) ∈ tb := tb4 (i := 163) rfl rfl
theorem m_4_164 : Cond.methodLink "HiredToWaitLaw" 167 ⟨"HiredToWait", "status", "(I)I"⟩ ∈ tb := tb4 (i := 164) rfl rfl
theorem m_4_165 : Cond.instanceMethod ⟨"HiredToWait", "status", "(I)I"⟩ ∈ tb := tb4 (i := 165) rfl rfl
theorem m_4_166 : Cond.selects "HiredToWait" ⟨"HiredToWait", "status", "(I)I"⟩ ⟨"HiredToWait", "status", "(I)I"⟩ ∈ tb := tb4 (i := 166) rfl rfl
theorem m_4_167 : Cond.code ⟨"HiredToWait", "status", "(I)I"⟩ prog_1_method_38_code 2 (some .int) ∈ tb := tb4 (i := 167) rfl rfl
theorem m_4_168 : Cond.classLink "HiredToWaitLaw" 10 "HiredToWaitModel" ∈ tb := tb4 (i := 168) rfl rfl
theorem m_4_169 : Cond.instantiable "HiredToWaitModel" 47 ∈ tb := tb4 (i := 169) rfl rfl
theorem m_4_170 : Cond.methodLink "HiredToWaitLaw" 12 ⟨"HiredToWaitModel", "<init>", "()V"⟩ ∈ tb := tb4 (i := 170) rfl rfl
theorem m_4_171 : Cond.instanceMethod ⟨"HiredToWaitModel", "<init>", "()V"⟩ ∈ tb := tb4 (i := 171) rfl rfl
theorem m_4_172 : Cond.code ⟨"HiredToWaitModel", "<init>", "()V"⟩ prog_10_method_1_code 1 none ∈ tb := tb4 (i := 172) rfl rfl
theorem m_4_173 : Cond.methodLink "HiredToWaitModel" 1 ⟨"java/lang/Object", "<init>", "()V"⟩ ∈ tb := tb4 (i := 173) rfl rfl
theorem m_4_174 : Cond.fieldLink "HiredToWaitModel" 105 "HiredToWaitModel" "waiters" "I" ∈ tb := tb4 (i := 174) rfl rfl
theorem m_4_175 : Cond.fieldLink "HiredToWaitModel" 108 "HiredToWaitModel" "things" "I" ∈ tb := tb4 (i := 175) rfl rfl
theorem m_4_176 : Cond.fieldLink "HiredToWaitModel" 7 "HiredToWaitModel" "hope" "I" ∈ tb := tb4 (i := 176) rfl rfl
theorem m_4_177 : Cond.fieldLink "HiredToWaitModel" 186 "HiredToWaitModel" "gone" "I" ∈ tb := tb4 (i := 177) rfl rfl
theorem m_4_178 : Cond.fieldLink "HiredToWaitModel" 189 "HiredToWaitModel" "takings" "I" ∈ tb := tb4 (i := 178) rfl rfl
theorem m_4_179 : Cond.fieldLink "HiredToWaitModel" 192 "HiredToWaitModel" "wages" "I" ∈ tb := tb4 (i := 179) rfl rfl
theorem m_4_180 : Cond.fieldLink "HiredToWaitModel" 13 "HiredToWaitModel" "seed" "I" ∈ tb := tb4 (i := 180) rfl rfl
theorem m_4_181 : Cond.fieldLink "HiredToWaitModel" 16 "HiredToWaitModel" "fault" "I" ∈ tb := tb4 (i := 181) rfl rfl
theorem m_4_182 : Cond.fieldLink "HiredToWaitModel" 19 "HiredToWaitModel" "refused" "[I" ∈ tb := tb4 (i := 182) rfl rfl
theorem m_4_183 : Cond.fieldLink "HiredToWaitModel" 23 "HiredToWaitModel" "kind" "[I" ∈ tb := tb4 (i := 183) rfl rfl
theorem m_4_184 : Cond.fieldLink "HiredToWaitModel" 26 "HiredToWaitModel" "part" "[I" ∈ tb := tb4 (i := 184) rfl rfl
theorem m_4_185 : Cond.fieldLink "HiredToWaitModel" 29 "HiredToWaitModel" "pay" "[I" ∈ tb := tb4 (i := 185) rfl rfl
theorem m_4_186 : Cond.fieldLink "HiredToWaitModel" 32 "HiredToWaitModel" "patience" "[I" ∈ tb := tb4 (i := 186) rfl rfl
theorem m_4_187 : Cond.fieldLink "HiredToWaitModel" 35 "HiredToWaitModel" "at" "[I" ∈ tb := tb4 (i := 187) rfl rfl
theorem m_4_188 : Cond.fieldLink "HiredToWaitModel" 38 "HiredToWaitModel" "corner" "[I" ∈ tb := tb4 (i := 188) rfl rfl
theorem m_4_189 : Cond.fieldLink "HiredToWaitModel" 41 "HiredToWaitModel" "first" "[I" ∈ tb := tb4 (i := 189) rfl rfl
theorem m_4_190 : Cond.fieldLink "HiredToWaitModel" 44 "HiredToWaitModel" "last" "[I" ∈ tb := tb4 (i := 190) rfl rfl
theorem m_4_191 : Cond.fieldLink "HiredToWaitModel" 47 "HiredToWaitModel" "never" "[I" ∈ tb := tb4 (i := 191) rfl rfl
theorem m_4_192 : Cond.fieldLink "HiredToWaitModel" 50 "HiredToWaitModel" "worth" "[I" ∈ tb := tb4 (i := 192) rfl rfl
theorem m_4_193 : Cond.fieldLink "HiredToWaitModel" 53 "HiredToWaitModel" "stays" "[I" ∈ tb := tb4 (i := 193) rfl rfl
theorem m_4_194 : Cond.fieldLink "HiredToWaitModel" 56 "HiredToWaitModel" "away" "[I" ∈ tb := tb4 (i := 194) rfl rfl
theorem m_4_195 : Cond.fieldLink "HiredToWaitModel" 59 "HiredToWaitModel" "held" "[I" ∈ tb := tb4 (i := 195) rfl rfl
theorem m_4_196 : Cond.fieldLink "HiredToWaitModel" 62 "HiredToWaitModel" "sort" "[I" ∈ tb := tb4 (i := 196) rfl rfl
theorem m_4_197 : Cond.fieldLink "HiredToWaitModel" 65 "HiredToWaitModel" "size" "[I" ∈ tb := tb4 (i := 197) rfl rfl
theorem m_4_198 : Cond.fieldLink "HiredToWaitModel" 68 "HiredToWaitModel" "shown" "[I" ∈ tb := tb4 (i := 198) rfl rfl
theorem m_4_199 : Cond.fieldLink "HiredToWaitModel" 71 "HiredToWaitModel" "cells" "[J" ∈ tb := tb4 (i := 199) rfl rfl
theorem m_4_200 : Cond.fieldLink "HiredToWaitModel" 75 "HiredToWaitModel" "carried" "[J" ∈ tb := tb4 (i := 200) rfl rfl
theorem m_4_201 : Cond.fieldLink "HiredToWaitModel" 78 "HiredToWaitModel" "words" "[I" ∈ tb := tb4 (i := 201) rfl rfl
theorem m_4_202 : Cond.fieldLink "HiredToWaitModel" 81 "HiredToWaitModel" "numbers" "[I" ∈ tb := tb4 (i := 202) rfl rfl
theorem m_4_203 : Cond.fieldLink "HiredToWaitModel" 84 "HiredToWaitModel" "mosts" "[I" ∈ tb := tb4 (i := 203) rfl rfl
theorem m_4_204 : Cond.fieldLink "HiredToWaitModel" 87 "HiredToWaitModel" "others" "[I" ∈ tb := tb4 (i := 204) rfl rfl
theorem m_4_205 : Cond.fieldLink "HiredToWaitModel" 90 "HiredToWaitModel" "told" "[I" ∈ tb := tb4 (i := 205) rfl rfl
theorem m_4_206 : Cond.fieldLink "HiredToWaitModel" 155 "HiredToWaitModel" "base" "I" ∈ tb := tb4 (i := 206) rfl rfl
theorem m_4_207 : Cond.fieldLink "HiredToWaitModel" 149 "HiredToWaitModel" "place" "I" ∈ tb := tb4 (i := 207) rfl rfl
theorem m_4_208 : Cond.fieldLink "HiredToWaitModel" 152 "HiredToWaitModel" "end" "I" ∈ tb := tb4 (i := 208) rfl rfl
theorem m_4_209 : Cond.fieldLink "HiredToWaitModel" 158 "HiredToWaitModel" "number" "I" ∈ tb := tb4 (i := 209) rfl rfl
theorem m_4_210 : Cond.fieldLink "HiredToWaitModel" 146 "HiredToWaitModel" "wrongAt" "I" ∈ tb := tb4 (i := 210) rfl rfl
theorem m_4_211 : Cond.fieldLink "HiredToWaitModel" 93 "HiredToWaitModel" "was" "[I" ∈ tb := tb4 (i := 211) rfl rfl
theorem m_4_212 : Cond.fieldLink "HiredToWaitModel" 96 "HiredToWaitModel" "kept" "[I" ∈ tb := tb4 (i := 212) rfl rfl
theorem m_4_213 : Cond.fieldLink "HiredToWaitModel" 212 "HiredToWaitModel" "gainOf" "I" ∈ tb := tb4 (i := 213) rfl rfl
theorem m_4_214 : Cond.fieldLink "HiredToWaitModel" 99 "HiredToWaitModel" "leastOf" "[I" ∈ tb := tb4 (i := 214) rfl rfl
theorem m_4_215 : Cond.fieldLink "HiredToWaitModel" 247 "HiredToWaitModel" "metThen" "I" ∈ tb := tb4 (i := 215) rfl rfl
theorem m_4_216 : Cond.fieldLink "HiredToWaitModel" 250 "HiredToWaitModel" "worthThen" "I" ∈ tb := tb4 (i := 216) rfl rfl
theorem m_4_217 : Cond.fieldLink "HiredToWaitModel" 253 "HiredToWaitModel" "neverThen" "I" ∈ tb := tb4 (i := 217) rfl rfl
theorem m_4_218 : Cond.fieldLink "HiredToWaitModel" 102 "HiredToWaitModel" "trace" "[I" ∈ tb := tb4 (i := 218) rfl rfl
theorem m_4_219 : Cond.fieldLink "HiredToWaitModel" 266 "HiredToWaitModel" "ran" "I" ∈ tb := tb4 (i := 219) rfl rfl
theorem m_4_220 : Cond.fieldLink "HiredToWaitModel" 281 "HiredToWaitModel" "isThere" "Z" ∈ tb := tb4 (i := 220) rfl rfl
theorem m_4_221 : Cond.lays "HiredToWaitModel" "HiredToWaitModel" "waiters" "I" ∈ tb := tb4 (i := 221) rfl rfl
theorem m_4_223 : Cond.lays "HiredToWaitModel" "HiredToWaitModel" "things" "I" ∈ tb := tb4 (i := 223) rfl rfl
theorem m_4_225 : Cond.lays "HiredToWaitModel" "HiredToWaitModel" "hope" "I" ∈ tb := tb4 (i := 225) rfl rfl
theorem m_4_227 : Cond.lays "HiredToWaitModel" "HiredToWaitModel" "gone" "I" ∈ tb := tb4 (i := 227) rfl rfl
theorem m_4_229 : Cond.lays "HiredToWaitModel" "HiredToWaitModel" "takings" "I" ∈ tb := tb4 (i := 229) rfl rfl
theorem m_4_231 : Cond.lays "HiredToWaitModel" "HiredToWaitModel" "wages" "I" ∈ tb := tb4 (i := 231) rfl rfl
theorem m_4_233 : Cond.lays "HiredToWaitModel" "HiredToWaitModel" "seed" "I" ∈ tb := tb4 (i := 233) rfl rfl
theorem m_4_235 : Cond.lays "HiredToWaitModel" "HiredToWaitModel" "fault" "I" ∈ tb := tb4 (i := 235) rfl rfl
theorem m_4_237 : Cond.laysFinal "HiredToWaitModel" "HiredToWaitModel" "refused" "[I" ∈ tb := tb4 (i := 237) rfl rfl
theorem m_4_239 : Cond.laysFinal "HiredToWaitModel" "HiredToWaitModel" "kind" "[I" ∈ tb := tb4 (i := 239) rfl rfl
theorem m_5_1 : Cond.laysFinal "HiredToWaitModel" "HiredToWaitModel" "part" "[I" ∈ tb := tb5 (i := 1) rfl rfl
theorem m_5_3 : Cond.laysFinal "HiredToWaitModel" "HiredToWaitModel" "pay" "[I" ∈ tb := tb5 (i := 3) rfl rfl
theorem m_5_5 : Cond.laysFinal "HiredToWaitModel" "HiredToWaitModel" "patience" "[I" ∈ tb := tb5 (i := 5) rfl rfl
theorem m_5_7 : Cond.laysFinal "HiredToWaitModel" "HiredToWaitModel" "at" "[I" ∈ tb := tb5 (i := 7) rfl rfl
theorem m_5_9 : Cond.laysFinal "HiredToWaitModel" "HiredToWaitModel" "corner" "[I" ∈ tb := tb5 (i := 9) rfl rfl
theorem m_5_11 : Cond.laysFinal "HiredToWaitModel" "HiredToWaitModel" "first" "[I" ∈ tb := tb5 (i := 11) rfl rfl
theorem m_5_13 : Cond.laysFinal "HiredToWaitModel" "HiredToWaitModel" "last" "[I" ∈ tb := tb5 (i := 13) rfl rfl
theorem m_5_15 : Cond.laysFinal "HiredToWaitModel" "HiredToWaitModel" "never" "[I" ∈ tb := tb5 (i := 15) rfl rfl
theorem m_5_17 : Cond.laysFinal "HiredToWaitModel" "HiredToWaitModel" "worth" "[I" ∈ tb := tb5 (i := 17) rfl rfl
theorem m_5_19 : Cond.laysFinal "HiredToWaitModel" "HiredToWaitModel" "stays" "[I" ∈ tb := tb5 (i := 19) rfl rfl
theorem m_5_21 : Cond.laysFinal "HiredToWaitModel" "HiredToWaitModel" "away" "[I" ∈ tb := tb5 (i := 21) rfl rfl
theorem m_5_23 : Cond.laysFinal "HiredToWaitModel" "HiredToWaitModel" "held" "[I" ∈ tb := tb5 (i := 23) rfl rfl
theorem m_5_25 : Cond.laysFinal "HiredToWaitModel" "HiredToWaitModel" "sort" "[I" ∈ tb := tb5 (i := 25) rfl rfl
theorem m_5_27 : Cond.laysFinal "HiredToWaitModel" "HiredToWaitModel" "size" "[I" ∈ tb := tb5 (i := 27) rfl rfl
theorem m_5_29 : Cond.laysFinal "HiredToWaitModel" "HiredToWaitModel" "shown" "[I" ∈ tb := tb5 (i := 29) rfl rfl
theorem m_5_31 : Cond.laysFinal "HiredToWaitModel" "HiredToWaitModel" "cells" "[J" ∈ tb := tb5 (i := 31) rfl rfl
theorem m_5_33 : Cond.laysFinal "HiredToWaitModel" "HiredToWaitModel" "carried" "[J" ∈ tb := tb5 (i := 33) rfl rfl
theorem m_5_35 : Cond.laysFinal "HiredToWaitModel" "HiredToWaitModel" "words" "[I" ∈ tb := tb5 (i := 35) rfl rfl
theorem m_5_37 : Cond.laysFinal "HiredToWaitModel" "HiredToWaitModel" "numbers" "[I" ∈ tb := tb5 (i := 37) rfl rfl
theorem m_5_39 : Cond.laysFinal "HiredToWaitModel" "HiredToWaitModel" "mosts" "[I" ∈ tb := tb5 (i := 39) rfl rfl
theorem m_5_41 : Cond.laysFinal "HiredToWaitModel" "HiredToWaitModel" "others" "[I" ∈ tb := tb5 (i := 41) rfl rfl
theorem m_5_43 : Cond.laysFinal "HiredToWaitModel" "HiredToWaitModel" "told" "[I" ∈ tb := tb5 (i := 43) rfl rfl
theorem m_5_45 : Cond.lays "HiredToWaitModel" "HiredToWaitModel" "base" "I" ∈ tb := tb5 (i := 45) rfl rfl
theorem m_5_47 : Cond.lays "HiredToWaitModel" "HiredToWaitModel" "place" "I" ∈ tb := tb5 (i := 47) rfl rfl
theorem m_5_49 : Cond.lays "HiredToWaitModel" "HiredToWaitModel" "end" "I" ∈ tb := tb5 (i := 49) rfl rfl
theorem m_5_51 : Cond.lays "HiredToWaitModel" "HiredToWaitModel" "number" "I" ∈ tb := tb5 (i := 51) rfl rfl
theorem m_5_53 : Cond.lays "HiredToWaitModel" "HiredToWaitModel" "wrongAt" "I" ∈ tb := tb5 (i := 53) rfl rfl
theorem m_5_55 : Cond.laysFinal "HiredToWaitModel" "HiredToWaitModel" "was" "[I" ∈ tb := tb5 (i := 55) rfl rfl
theorem m_5_57 : Cond.laysFinal "HiredToWaitModel" "HiredToWaitModel" "kept" "[I" ∈ tb := tb5 (i := 57) rfl rfl
theorem m_5_59 : Cond.lays "HiredToWaitModel" "HiredToWaitModel" "gainOf" "I" ∈ tb := tb5 (i := 59) rfl rfl
theorem m_5_61 : Cond.laysFinal "HiredToWaitModel" "HiredToWaitModel" "leastOf" "[I" ∈ tb := tb5 (i := 61) rfl rfl
theorem m_5_63 : Cond.lays "HiredToWaitModel" "HiredToWaitModel" "metThen" "I" ∈ tb := tb5 (i := 63) rfl rfl
theorem m_5_65 : Cond.lays "HiredToWaitModel" "HiredToWaitModel" "worthThen" "I" ∈ tb := tb5 (i := 65) rfl rfl
theorem m_5_67 : Cond.lays "HiredToWaitModel" "HiredToWaitModel" "neverThen" "I" ∈ tb := tb5 (i := 67) rfl rfl
theorem m_5_69 : Cond.laysFinal "HiredToWaitModel" "HiredToWaitModel" "trace" "[I" ∈ tb := tb5 (i := 69) rfl rfl
theorem m_5_71 : Cond.lays "HiredToWaitModel" "HiredToWaitModel" "ran" "I" ∈ tb := tb5 (i := 71) rfl rfl
theorem m_5_73 : Cond.lays "HiredToWaitModel" "HiredToWaitModel" "isThere" "Z" ∈ tb := tb5 (i := 73) rfl rfl
theorem m_5_75 : Cond.superclass "HiredToWaitModel" "java/lang/Object" ∈ tb := tb5 (i := 75) rfl rfl
theorem m_5_76 : Cond.methodLink "HiredToWaitLaw" 17 ⟨"HiredToWaitModel", "row", "(III)I"⟩ ∈ tb := tb5 (i := 76) rfl rfl
theorem m_5_77 : Cond.instanceMethod ⟨"HiredToWaitModel", "row", "(III)I"⟩ ∈ tb := tb5 (i := 77) rfl rfl
theorem m_5_78 : Cond.selects "HiredToWaitModel" ⟨"HiredToWaitModel", "row", "(III)I"⟩ ⟨"HiredToWaitModel", "row", "(III)I"⟩ ∈ tb := tb5 (i := 78) rfl rfl
theorem m_5_79 : Cond.code ⟨"HiredToWaitModel", "row", "(III)I"⟩ prog_10_method_8_code 5 (some .int) ∈ tb := tb5 (i := 79) rfl rfl
theorem m_5_80 : Cond.methodLink "HiredToWaitModel" 111 ⟨"HiredToWaitModel", "isShelf", "(I)Z"⟩ ∈ tb := tb5 (i := 80) rfl rfl
theorem m_5_82 : Cond.instanceMethod ⟨"HiredToWaitModel", "isShelf", "(I)Z"⟩ ∈ tb := tb5 (i := 82) rfl rfl
theorem m_5_83 : Cond.code ⟨"HiredToWaitModel", "isShelf", "(I)Z"⟩ prog_10_method_4_code 2 (some .boolean) ∈ tb := tb5 (i := 83) rfl rfl
theorem m_5_84 : Cond.methodLink "HiredToWaitModel" 115 ⟨"HiredToWaitModel", "no", "(I)I"⟩ ∈ tb := tb5 (i := 84) rfl rfl
theorem m_5_86 : Cond.instanceMethod ⟨"HiredToWaitModel", "no", "(I)I"⟩ ∈ tb := tb5 (i := 86) rfl rfl
theorem m_5_87 : Cond.code ⟨"HiredToWaitModel", "no", "(I)I"⟩ prog_10_method_2_code 2 (some .int) ∈ tb := tb5 (i := 87) rfl rfl
theorem m_5_88 : Cond.methodLink "HiredToWaitLaw" 24 ⟨"HiredToWaitModel", "set", "(IIJ)I"⟩ ∈ tb := tb5 (i := 88) rfl rfl
theorem m_5_89 : Cond.instanceMethod ⟨"HiredToWaitModel", "set", "(IIJ)I"⟩ ∈ tb := tb5 (i := 89) rfl rfl
theorem m_5_90 : Cond.selects "HiredToWaitModel" ⟨"HiredToWaitModel", "set", "(IIJ)I"⟩ ⟨"HiredToWaitModel", "set", "(IIJ)I"⟩ ∈ tb := tb5 (i := 90) rfl rfl
theorem m_5_91 : Cond.code ⟨"HiredToWaitModel", "set", "(IIJ)I"⟩ prog_10_method_9_code 5 (some .int) ∈ tb := tb5 (i := 91) rfl rfl
theorem m_5_92 : Cond.methodLink "HiredToWaitLaw" 29 ⟨"HiredToWaitModel", "copy", "(IIIII)I"⟩ ∈ tb := tb5 (i := 92) rfl rfl
theorem m_5_93 : Cond.instanceMethod ⟨"HiredToWaitModel", "copy", "(IIIII)I"⟩ ∈ tb := tb5 (i := 93) rfl rfl
theorem m_5_94 : Cond.selects "HiredToWaitModel" ⟨"HiredToWaitModel", "copy", "(IIIII)I"⟩ ⟨"HiredToWaitModel", "copy", "(IIIII)I"⟩ ∈ tb := tb5 (i := 94) rfl rfl
theorem m_5_95 : Cond.code ⟨"HiredToWaitModel", "copy", "(IIIII)I"⟩ prog_10_method_10_code 7 (some .int) ∈ tb := tb5 (i := 95) rfl rfl
theorem m_5_96 : Cond.methodLink "HiredToWaitLaw" 34 ⟨"HiredToWaitModel", "element", "(II)J"⟩ ∈ tb := tb5 (i := 96) rfl rfl
theorem m_5_97 : Cond.instanceMethod ⟨"HiredToWaitModel", "element", "(II)J"⟩ ∈ tb := tb5 (i := 97) rfl rfl
theorem m_5_98 : Cond.selects "HiredToWaitModel" ⟨"HiredToWaitModel", "element", "(II)J"⟩ ⟨"HiredToWaitModel", "element", "(II)J"⟩ ∈ tb := tb5 (i := 98) rfl rfl
theorem m_5_99 : Cond.code ⟨"HiredToWaitModel", "element", "(II)J"⟩ prog_10_method_11_code 3 (some .long) ∈ tb := tb5 (i := 99) rfl rfl
theorem m_5_100 : Cond.methodLink "HiredToWaitLaw" 39 ⟨"HiredToWaitModel", "show", "(II)I"⟩ ∈ tb := tb5 (i := 100) rfl rfl
theorem m_5_101 : Cond.instanceMethod ⟨"HiredToWaitModel", "show", "(II)I"⟩ ∈ tb := tb5 (i := 101) rfl rfl
theorem m_5_102 : Cond.selects "HiredToWaitModel" ⟨"HiredToWaitModel", "show", "(II)I"⟩ ⟨"HiredToWaitModel", "show", "(II)I"⟩ ∈ tb := tb5 (i := 102) rfl rfl
theorem m_5_103 : Cond.code ⟨"HiredToWaitModel", "show", "(II)I"⟩ prog_10_method_12_code 3 (some .int) ∈ tb := tb5 (i := 103) rfl rfl
theorem m_5_104 : Cond.methodLink "HiredToWaitModel" 119 ⟨"HiredToWaitModel", "isWaiter", "(I)Z"⟩ ∈ tb := tb5 (i := 104) rfl rfl
theorem m_5_106 : Cond.instanceMethod ⟨"HiredToWaitModel", "isWaiter", "(I)Z"⟩ ∈ tb := tb5 (i := 106) rfl rfl
theorem m_5_107 : Cond.code ⟨"HiredToWaitModel", "isWaiter", "(I)Z"⟩ prog_10_method_5_code 2 (some .boolean) ∈ tb := tb5 (i := 107) rfl rfl
theorem m_5_108 : Cond.methodLink "HiredToWaitLaw" 44 ⟨"HiredToWaitModel", "holds", "(I)I"⟩ ∈ tb := tb5 (i := 108) rfl rfl
theorem m_5_109 : Cond.instanceMethod ⟨"HiredToWaitModel", "holds", "(I)I"⟩ ∈ tb := tb5 (i := 109) rfl rfl
theorem m_5_110 : Cond.selects "HiredToWaitModel" ⟨"HiredToWaitModel", "holds", "(I)I"⟩ ⟨"HiredToWaitModel", "holds", "(I)I"⟩ ∈ tb := tb5 (i := 110) rfl rfl
theorem m_5_111 : Cond.code ⟨"HiredToWaitModel", "holds", "(I)I"⟩ prog_10_method_13_code 2 (some .int) ∈ tb := tb5 (i := 111) rfl rfl
theorem m_5_112 : Cond.methodLink "HiredToWaitLaw" 48 ⟨"HiredToWaitModel", "says", "(II)I"⟩ ∈ tb := tb5 (i := 112) rfl rfl
theorem m_5_113 : Cond.instanceMethod ⟨"HiredToWaitModel", "says", "(II)I"⟩ ∈ tb := tb5 (i := 113) rfl rfl
theorem m_5_114 : Cond.selects "HiredToWaitModel" ⟨"HiredToWaitModel", "says", "(II)I"⟩ ⟨"HiredToWaitModel", "says", "(II)I"⟩ ∈ tb := tb5 (i := 114) rfl rfl
theorem m_5_115 : Cond.code ⟨"HiredToWaitModel", "says", "(II)I"⟩ prog_10_method_14_code 6 (some .int) ∈ tb := tb5 (i := 115) rfl rfl
theorem m_5_116 : Cond.methodLink "HiredToWaitLaw" 53 ⟨"HiredToWaitModel", "thing", "(IIIIIII)I"⟩ ∈ tb := tb5 (i := 116) rfl rfl
theorem m_5_117 : Cond.instanceMethod ⟨"HiredToWaitModel", "thing", "(IIIIIII)I"⟩ ∈ tb := tb5 (i := 117) rfl rfl
theorem m_5_118 : Cond.selects "HiredToWaitModel" ⟨"HiredToWaitModel", "thing", "(IIIIIII)I"⟩ ⟨"HiredToWaitModel", "thing", "(IIIIIII)I"⟩ ∈ tb := tb5 (i := 118) rfl rfl
theorem m_5_119 : Cond.code ⟨"HiredToWaitModel", "thing", "(IIIIIII)I"⟩ prog_10_method_19_code 8 (some .int) ∈ tb := tb5 (i := 119) rfl rfl
theorem m_5_120 : Cond.methodLink "HiredToWaitModel" 122 ⟨"HiredToWaitModel", "isFrom", "(III)Z"⟩ ∈ tb := tb5 (i := 120) rfl rfl
theorem m_5_122 : Cond.instanceMethod ⟨"HiredToWaitModel", "isFrom", "(III)Z"⟩ ∈ tb := tb5 (i := 122) rfl rfl
theorem m_5_123 : Cond.code ⟨"HiredToWaitModel", "isFrom", "(III)Z"⟩ prog_10_method_7_code 4 (some .boolean) ∈ tb := tb5 (i := 123) rfl rfl
theorem m_5_124 : Cond.methodLink "HiredToWaitModel" 126 ⟨"HiredToWaitModel", "addsThing", "(IIIIIII)I"⟩ ∈ tb := tb5 (i := 124) rfl rfl
theorem m_5_126 : Cond.instanceMethod ⟨"HiredToWaitModel", "addsThing", "(IIIIIII)I"⟩ ∈ tb := tb5 (i := 126) rfl rfl
theorem m_5_127 : Cond.code ⟨"HiredToWaitModel", "addsThing", "(IIIIIII)I"⟩ prog_10_method_17_code 8 (some .int) ∈ tb := tb5 (i := 127) rfl rfl
theorem m_5_128 : Cond.methodLink "HiredToWaitLaw" 57 ⟨"HiredToWaitModel", "waiter", "(IIIII)I"⟩ ∈ tb := tb5 (i := 128) rfl rfl
theorem m_5_129 : Cond.instanceMethod ⟨"HiredToWaitModel", "waiter", "(IIIII)I"⟩ ∈ tb := tb5 (i := 129) rfl rfl
theorem m_5_130 : Cond.selects "HiredToWaitModel" ⟨"HiredToWaitModel", "waiter", "(IIIII)I"⟩ ⟨"HiredToWaitModel", "waiter", "(IIIII)I"⟩ ∈ tb := tb5 (i := 130) rfl rfl
theorem m_5_131 : Cond.code ⟨"HiredToWaitModel", "waiter", "(IIIII)I"⟩ prog_10_method_20_code 6 (some .int) ∈ tb := tb5 (i := 131) rfl rfl
theorem m_5_132 : Cond.methodLink "HiredToWaitModel" 130 ⟨"HiredToWaitModel", "addsWaiter", "(IIIII)I"⟩ ∈ tb := tb5 (i := 132) rfl rfl
theorem m_5_134 : Cond.instanceMethod ⟨"HiredToWaitModel", "addsWaiter", "(IIIII)I"⟩ ∈ tb := tb5 (i := 134) rfl rfl
theorem m_5_135 : Cond.code ⟨"HiredToWaitModel", "addsWaiter", "(IIIII)I"⟩ prog_10_method_18_code 6 (some .int) ∈ tb := tb5 (i := 135) rfl rfl
theorem m_5_136 : Cond.methodLink "HiredToWaitLaw" 61 ⟨"HiredToWaitModel", "move", "(II)I"⟩ ∈ tb := tb5 (i := 136) rfl rfl
theorem m_5_137 : Cond.instanceMethod ⟨"HiredToWaitModel", "move", "(II)I"⟩ ∈ tb := tb5 (i := 137) rfl rfl
theorem m_5_138 : Cond.selects "HiredToWaitModel" ⟨"HiredToWaitModel", "move", "(II)I"⟩ ⟨"HiredToWaitModel", "move", "(II)I"⟩ ∈ tb := tb5 (i := 138) rfl rfl
theorem m_5_139 : Cond.code ⟨"HiredToWaitModel", "move", "(II)I"⟩ prog_10_method_21_code 4 (some .int) ∈ tb := tb5 (i := 139) rfl rfl
theorem m_5_140 : Cond.methodLink "HiredToWaitLaw" 65 ⟨"HiredToWaitModel", "ask", "(I)I"⟩ ∈ tb := tb5 (i := 140) rfl rfl
theorem m_5_141 : Cond.instanceMethod ⟨"HiredToWaitModel", "ask", "(I)I"⟩ ∈ tb := tb5 (i := 141) rfl rfl
theorem m_5_142 : Cond.selects "HiredToWaitModel" ⟨"HiredToWaitModel", "ask", "(I)I"⟩ ⟨"HiredToWaitModel", "ask", "(I)I"⟩ ∈ tb := tb5 (i := 142) rfl rfl
theorem m_5_143 : Cond.code ⟨"HiredToWaitModel", "ask", "(I)I"⟩ prog_10_method_22_code 3 (some .int) ∈ tb := tb5 (i := 143) rfl rfl
theorem m_5_144 : Cond.methodLink "HiredToWaitLaw" 69 ⟨"HiredToWaitModel", "thingOf", "(II)I"⟩ ∈ tb := tb5 (i := 144) rfl rfl
theorem m_5_145 : Cond.instanceMethod ⟨"HiredToWaitModel", "thingOf", "(II)I"⟩ ∈ tb := tb5 (i := 145) rfl rfl
theorem m_5_146 : Cond.selects "HiredToWaitModel" ⟨"HiredToWaitModel", "thingOf", "(II)I"⟩ ⟨"HiredToWaitModel", "thingOf", "(II)I"⟩ ∈ tb := tb5 (i := 146) rfl rfl
theorem m_5_147 : Cond.code ⟨"HiredToWaitModel", "thingOf", "(II)I"⟩ prog_10_method_24_code 3 (some .int) ∈ tb := tb5 (i := 147) rfl rfl
theorem m_5_148 : Cond.methodLink "HiredToWaitModel" 134 ⟨"HiredToWaitModel", "isThing", "(I)Z"⟩ ∈ tb := tb5 (i := 148) rfl rfl
theorem m_5_150 : Cond.instanceMethod ⟨"HiredToWaitModel", "isThing", "(I)Z"⟩ ∈ tb := tb5 (i := 150) rfl rfl
theorem m_5_151 : Cond.code ⟨"HiredToWaitModel", "isThing", "(I)Z"⟩ prog_10_method_6_code 2 (some .boolean) ∈ tb := tb5 (i := 151) rfl rfl
theorem m_5_152 : Cond.methodLink "HiredToWaitModel" 137 ⟨"HiredToWaitModel", "cases", "(I)I"⟩ ∈ tb := tb5 (i := 152) rfl rfl
theorem m_5_154 : Cond.instanceMethod ⟨"HiredToWaitModel", "cases", "(I)I"⟩ ∈ tb := tb5 (i := 154) rfl rfl
theorem m_5_155 : Cond.code ⟨"HiredToWaitModel", "cases", "(I)I"⟩ prog_10_method_23_code 2 (some .int) ∈ tb := tb5 (i := 155) rfl rfl
theorem m_5_156 : Cond.methodLink "HiredToWaitLaw" 73 ⟨"HiredToWaitModel", "waiterOf", "(II)I"⟩ ∈ tb := tb5 (i := 156) rfl rfl
theorem m_5_157 : Cond.instanceMethod ⟨"HiredToWaitModel", "waiterOf", "(II)I"⟩ ∈ tb := tb5 (i := 157) rfl rfl
theorem m_5_158 : Cond.selects "HiredToWaitModel" ⟨"HiredToWaitModel", "waiterOf", "(II)I"⟩ ⟨"HiredToWaitModel", "waiterOf", "(II)I"⟩ ∈ tb := tb5 (i := 158) rfl rfl
theorem m_5_159 : Cond.code ⟨"HiredToWaitModel", "waiterOf", "(II)I"⟩ prog_10_method_25_code 3 (some .int) ∈ tb := tb5 (i := 159) rfl rfl
theorem m_5_160 : Cond.methodLink "HiredToWaitModel" 140 ⟨"HiredToWaitModel", "holding", "(I)I"⟩ ∈ tb := tb5 (i := 160) rfl rfl
theorem m_5_162 : Cond.instanceMethod ⟨"HiredToWaitModel", "holding", "(I)I"⟩ ∈ tb := tb5 (i := 162) rfl rfl
theorem m_5_163 : Cond.code ⟨"HiredToWaitModel", "holding", "(I)I"⟩ prog_10_method_37_code 4 (some .int) ∈ tb := tb5 (i := 163) rfl rfl
theorem m_5_164 : Cond.methodLink "HiredToWaitModel" 143 ⟨"HiredToWaitModel", "sees", "(I)I"⟩ ∈ tb := tb5 (i := 164) rfl rfl
theorem m_5_166 : Cond.instanceMethod ⟨"HiredToWaitModel", "sees", "(I)I"⟩ ∈ tb := tb5 (i := 166) rfl rfl
theorem m_5_167 : Cond.code ⟨"HiredToWaitModel", "sees", "(I)I"⟩ prog_10_method_38_code 2 (some .int) ∈ tb := tb5 (i := 167) rfl rfl
theorem m_5_168 : Cond.methodLink "HiredToWaitLaw" 81 ⟨"HiredToWaitModel", "guild", "(I)I"⟩ ∈ tb := tb5 (i := 168) rfl rfl
theorem m_5_169 : Cond.instanceMethod ⟨"HiredToWaitModel", "guild", "(I)I"⟩ ∈ tb := tb5 (i := 169) rfl rfl
theorem m_5_170 : Cond.selects "HiredToWaitModel" ⟨"HiredToWaitModel", "guild", "(I)I"⟩ ⟨"HiredToWaitModel", "guild", "(I)I"⟩ ∈ tb := tb5 (i := 170) rfl rfl
theorem m_5_171 : Cond.code ⟨"HiredToWaitModel", "guild", "(I)I"⟩ prog_10_method_35_code 5 (some .int) ∈ tb := tb5 (i := 171) rfl rfl
theorem m_5_172 : Cond.methodLink "HiredToWaitModel" 195 ⟨"HiredToWaitModel", "wanted", "(I)I"⟩ ∈ tb := tb5 (i := 172) rfl rfl
theorem m_5_174 : Cond.instanceMethod ⟨"HiredToWaitModel", "wanted", "(I)I"⟩ ∈ tb := tb5 (i := 174) rfl rfl
theorem m_5_175 : Cond.code ⟨"HiredToWaitModel", "wanted", "(I)I"⟩ prog_10_method_15_code 2 (some .int) ∈ tb := tb5 (i := 175) rfl rfl
theorem m_5_176 : Cond.methodLink "HiredToWaitModel" 198 ⟨"HiredToWaitModel", "all", "([IZ)V"⟩ ∈ tb := tb5 (i := 176) rfl rfl
theorem m_5_178 : Cond.instanceMethod ⟨"HiredToWaitModel", "all", "([IZ)V"⟩ ∈ tb := tb5 (i := 178) rfl rfl
theorem m_5_179 : Cond.code ⟨"HiredToWaitModel", "all", "([IZ)V"⟩ prog_10_method_34_code 4 none ∈ tb := tb5 (i := 179) rfl rfl
theorem m_5_180 : Cond.methodLink "HiredToWaitModel" 182 ⟨"HiredToWaitModel", "carries", "([II[IIZ)I"⟩ ∈ tb := tb5 (i := 180) rfl rfl
theorem m_5_182 : Cond.instanceMethod ⟨"HiredToWaitModel", "carries", "([II[IIZ)I"⟩ ∈ tb := tb5 (i := 182) rfl rfl
theorem m_5_183 : Cond.code ⟨"HiredToWaitModel", "carries", "([II[IIZ)I"⟩ prog_10_method_33_code 7 (some .int) ∈ tb := tb5 (i := 183) rfl rfl
theorem m_5_184 : Cond.methodLink "HiredToWaitModel" 202 ⟨"HiredToWaitModel", "item", "()Z"⟩ ∈ tb := tb5 (i := 184) rfl rfl
theorem m_5_186 : Cond.instanceMethod ⟨"HiredToWaitModel", "item", "()Z"⟩ ∈ tb := tb5 (i := 186) rfl rfl
theorem m_5_187 : Cond.code ⟨"HiredToWaitModel", "item", "()Z"⟩ prog_10_method_32_code 4 (some .boolean) ∈ tb := tb5 (i := 187) rfl rfl
theorem m_5_188 : Cond.methodLink "HiredToWaitModel" 168 ⟨"HiredToWaitModel", "stands", "(I)Z"⟩ ∈ tb := tb5 (i := 188) rfl rfl
theorem m_5_190 : Cond.instanceMethod ⟨"HiredToWaitModel", "stands", "(I)Z"⟩ ∈ tb := tb5 (i := 190) rfl rfl
theorem m_5_191 : Cond.code ⟨"HiredToWaitModel", "stands", "(I)Z"⟩ prog_10_method_27_code 4 (some .boolean) ∈ tb := tb5 (i := 191) rfl rfl
theorem m_5_192 : Cond.methodLink "HiredToWaitModel" 165 ⟨"HiredToWaitModel", "wrong", "(I)Z"⟩ ∈ tb := tb5 (i := 192) rfl rfl
theorem m_5_194 : Cond.instanceMethod ⟨"HiredToWaitModel", "wrong", "(I)Z"⟩ ∈ tb := tb5 (i := 194) rfl rfl
theorem m_5_195 : Cond.code ⟨"HiredToWaitModel", "wrong", "(I)Z"⟩ prog_10_method_26_code 2 (some .boolean) ∈ tb := tb5 (i := 195) rfl rfl
theorem m_5_196 : Cond.methodLink "HiredToWaitModel" 171 ⟨"HiredToWaitModel", "word", "()I"⟩ ∈ tb := tb5 (i := 196) rfl rfl
theorem m_5_198 : Cond.instanceMethod ⟨"HiredToWaitModel", "word", "()I"⟩ ∈ tb := tb5 (i := 198) rfl rfl
theorem m_5_199 : Cond.code ⟨"HiredToWaitModel", "word", "()I"⟩ prog_10_method_28_code 6 (some .int) ∈ tb := tb5 (i := 199) rfl rfl
theorem m_5_200 : Cond.methodLink "HiredToWaitModel" 175 ⟨"HiredToWaitModel", "reads", "()Z"⟩ ∈ tb := tb5 (i := 200) rfl rfl
theorem m_5_202 : Cond.instanceMethod ⟨"HiredToWaitModel", "reads", "()Z"⟩ ∈ tb := tb5 (i := 202) rfl rfl
theorem m_5_203 : Cond.code ⟨"HiredToWaitModel", "reads", "()Z"⟩ prog_10_method_30_code 2 (some .boolean) ∈ tb := tb5 (i := 203) rfl rfl
theorem m_5_204 : Cond.methodLink "HiredToWaitModel" 161 ⟨"HiredToWaitModel", "isDigit", "()Z"⟩ ∈ tb := tb5 (i := 204) rfl rfl
theorem m_5_206 : Cond.instanceMethod ⟨"HiredToWaitModel", "isDigit", "()Z"⟩ ∈ tb := tb5 (i := 206) rfl rfl
theorem m_5_207 : Cond.code ⟨"HiredToWaitModel", "isDigit", "()Z"⟩ prog_10_method_29_code 1 (some .boolean) ∈ tb := tb5 (i := 207) rfl rfl
theorem m_5_208 : Cond.methodLink "HiredToWaitModel" 178 ⟨"HiredToWaitModel", "isSo", "(II)Z"⟩ ∈ tb := tb5 (i := 208) rfl rfl
theorem m_5_210 : Cond.instanceMethod ⟨"HiredToWaitModel", "isSo", "(II)Z"⟩ ∈ tb := tb5 (i := 210) rfl rfl
theorem m_5_211 : Cond.code ⟨"HiredToWaitModel", "isSo", "(II)Z"⟩ prog_10_method_31_code 3 (some .boolean) ∈ tb := tb5 (i := 211) rfl rfl
theorem m_5_212 : Cond.methodLink "HiredToWaitLaw" 86 ⟨"HiredToWaitModel", "fault", "()I"⟩ ∈ tb := tb5 (i := 212) rfl rfl
theorem m_5_213 : Cond.instanceMethod ⟨"HiredToWaitModel", "fault", "()I"⟩ ∈ tb := tb5 (i := 213) rfl rfl
theorem m_5_214 : Cond.selects "HiredToWaitModel" ⟨"HiredToWaitModel", "fault", "()I"⟩ ⟨"HiredToWaitModel", "fault", "()I"⟩ ∈ tb := tb5 (i := 214) rfl rfl
theorem m_5_215 : Cond.code ⟨"HiredToWaitModel", "fault", "()I"⟩ prog_10_method_36_code 1 (some .int) ∈ tb := tb5 (i := 215) rfl rfl
theorem m_5_216 : Cond.methodLink "HiredToWaitLaw" 77 ⟨"HiredToWaitModel", "cost", "(II)I"⟩ ∈ tb := tb5 (i := 216) rfl rfl
theorem m_5_217 : Cond.instanceMethod ⟨"HiredToWaitModel", "cost", "(II)I"⟩ ∈ tb := tb5 (i := 217) rfl rfl
theorem m_5_218 : Cond.selects "HiredToWaitModel" ⟨"HiredToWaitModel", "cost", "(II)I"⟩ ⟨"HiredToWaitModel", "cost", "(II)I"⟩ ∈ tb := tb5 (i := 218) rfl rfl
theorem m_5_219 : Cond.code ⟨"HiredToWaitModel", "cost", "(II)I"⟩ prog_10_method_41_code 3 (some .int) ∈ tb := tb5 (i := 219) rfl rfl
theorem m_5_220 : Cond.methodLink "HiredToWaitModel" 205 ⟨"HiredToWaitModel", "costs", "(II)I"⟩ ∈ tb := tb5 (i := 220) rfl rfl
theorem m_5_222 : Cond.instanceMethod ⟨"HiredToWaitModel", "costs", "(II)I"⟩ ∈ tb := tb5 (i := 222) rfl rfl
theorem m_5_223 : Cond.code ⟨"HiredToWaitModel", "costs", "(II)I"⟩ prog_10_method_39_code 6 (some .int) ∈ tb := tb5 (i := 223) rfl rfl
theorem m_5_224 : Cond.methodLink "HiredToWaitLaw" 90 ⟨"HiredToWaitModel", "by", "(II)I"⟩ ∈ tb := tb5 (i := 224) rfl rfl
theorem m_5_225 : Cond.instanceMethod ⟨"HiredToWaitModel", "by", "(II)I"⟩ ∈ tb := tb5 (i := 225) rfl rfl
theorem m_5_226 : Cond.selects "HiredToWaitModel" ⟨"HiredToWaitModel", "by", "(II)I"⟩ ⟨"HiredToWaitModel", "by", "(II)I"⟩ ∈ tb := tb5 (i := 226) rfl rfl
theorem m_5_227 : Cond.code ⟨"HiredToWaitModel", "by", "(II)I"⟩ prog_10_method_42_code 3 (some .int) ∈ tb := tb5 (i := 227) rfl rfl
theorem m_5_228 : Cond.methodLink "HiredToWaitModel" 209 ⟨"HiredToWaitModel", "comesBy", "(II)I"⟩ ∈ tb := tb5 (i := 228) rfl rfl
theorem m_5_230 : Cond.instanceMethod ⟨"HiredToWaitModel", "comesBy", "(II)I"⟩ ∈ tb := tb5 (i := 230) rfl rfl
theorem m_5_231 : Cond.code ⟨"HiredToWaitModel", "comesBy", "(II)I"⟩ prog_10_method_40_code 3 (some .int) ∈ tb := tb5 (i := 231) rfl rfl
theorem m_5_232 : Cond.methodLink "HiredToWaitLaw" 94 ⟨"HiredToWaitModel", "stop", "(III)I"⟩ ∈ tb := tb5 (i := 232) rfl rfl
theorem m_5_233 : Cond.instanceMethod ⟨"HiredToWaitModel", "stop", "(III)I"⟩ ∈ tb := tb5 (i := 233) rfl rfl
theorem m_5_234 : Cond.selects "HiredToWaitModel" ⟨"HiredToWaitModel", "stop", "(III)I"⟩ ⟨"HiredToWaitModel", "stop", "(III)I"⟩ ∈ tb := tb5 (i := 234) rfl rfl
theorem m_5_235 : Cond.code ⟨"HiredToWaitModel", "stop", "(III)I"⟩ prog_10_method_44_code 5 (some .int) ∈ tb := tb5 (i := 235) rfl rfl
theorem m_5_236 : Cond.methodLink "HiredToWaitModel" 215 ⟨"HiredToWaitModel", "noTen", "(I)I"⟩ ∈ tb := tb5 (i := 236) rfl rfl
theorem m_5_238 : Cond.instanceMethod ⟨"HiredToWaitModel", "noTen", "(I)I"⟩ ∈ tb := tb5 (i := 238) rfl rfl
theorem m_5_239 : Cond.code ⟨"HiredToWaitModel", "noTen", "(I)I"⟩ prog_10_method_3_code 2 (some .int) ∈ tb := tb5 (i := 239) rfl rfl
theorem m_6_0 : Cond.methodLink "HiredToWaitModel" 218 ⟨"HiredToWaitModel", "stops", "(II)I"⟩ ∈ tb := tb6 (i := 0) rfl rfl
theorem m_6_2 : Cond.instanceMethod ⟨"HiredToWaitModel", "stops", "(II)I"⟩ ∈ tb := tb6 (i := 2) rfl rfl
theorem m_6_3 : Cond.code ⟨"HiredToWaitModel", "stops", "(II)I"⟩ prog_10_method_43_code 7 (some .int) ∈ tb := tb6 (i := 3) rfl rfl
theorem m_6_4 : Cond.methodLink "HiredToWaitLaw" 98 ⟨"HiredToWaitModel", "best", "(I)I"⟩ ∈ tb := tb6 (i := 4) rfl rfl
theorem m_6_5 : Cond.instanceMethod ⟨"HiredToWaitModel", "best", "(I)I"⟩ ∈ tb := tb6 (i := 5) rfl rfl
theorem m_6_6 : Cond.selects "HiredToWaitModel" ⟨"HiredToWaitModel", "best", "(I)I"⟩ ⟨"HiredToWaitModel", "best", "(I)I"⟩ ∈ tb := tb6 (i := 6) rfl rfl
theorem m_6_7 : Cond.code ⟨"HiredToWaitModel", "best", "(I)I"⟩ prog_10_method_45_code 5 (some .int) ∈ tb := tb6 (i := 7) rfl rfl
theorem m_6_8 : Cond.methodLink "HiredToWaitLaw" 106 ⟨"HiredToWaitModel", "rota", "(II)I"⟩ ∈ tb := tb6 (i := 8) rfl rfl
theorem m_6_9 : Cond.instanceMethod ⟨"HiredToWaitModel", "rota", "(II)I"⟩ ∈ tb := tb6 (i := 9) rfl rfl
theorem m_6_10 : Cond.selects "HiredToWaitModel" ⟨"HiredToWaitModel", "rota", "(II)I"⟩ ⟨"HiredToWaitModel", "rota", "(II)I"⟩ ∈ tb := tb6 (i := 10) rfl rfl
theorem m_6_11 : Cond.code ⟨"HiredToWaitModel", "rota", "(II)I"⟩ prog_10_method_47_code 7 (some .int) ∈ tb := tb6 (i := 11) rfl rfl
theorem m_6_12 : Cond.methodLink "HiredToWaitModel" 221 ⟨"HiredToWaitModel", "lays", "(I)V"⟩ ∈ tb := tb6 (i := 12) rfl rfl
theorem m_6_14 : Cond.instanceMethod ⟨"HiredToWaitModel", "lays", "(I)V"⟩ ∈ tb := tb6 (i := 14) rfl rfl
theorem m_6_15 : Cond.code ⟨"HiredToWaitModel", "lays", "(I)V"⟩ prog_10_method_46_code 7 none ∈ tb := tb6 (i := 15) rfl rfl
theorem m_6_16 : Cond.methodLink "HiredToWaitLaw" 110 ⟨"HiredToWaitModel", "posts", "(I)I"⟩ ∈ tb := tb6 (i := 16) rfl rfl
theorem m_6_17 : Cond.instanceMethod ⟨"HiredToWaitModel", "posts", "(I)I"⟩ ∈ tb := tb6 (i := 17) rfl rfl
theorem m_6_18 : Cond.selects "HiredToWaitModel" ⟨"HiredToWaitModel", "posts", "(I)I"⟩ ⟨"HiredToWaitModel", "posts", "(I)I"⟩ ∈ tb := tb6 (i := 18) rfl rfl
theorem m_6_19 : Cond.code ⟨"HiredToWaitModel", "posts", "(I)I"⟩ prog_10_method_51_code 6 (some .int) ∈ tb := tb6 (i := 19) rfl rfl
theorem m_6_20 : Cond.methodLink "HiredToWaitModel" 225 ⟨"HiredToWaitModel", "seenFrom", "(II)I"⟩ ∈ tb := tb6 (i := 20) rfl rfl
theorem m_6_22 : Cond.instanceMethod ⟨"HiredToWaitModel", "seenFrom", "(II)I"⟩ ∈ tb := tb6 (i := 22) rfl rfl
theorem m_6_23 : Cond.code ⟨"HiredToWaitModel", "seenFrom", "(II)I"⟩ prog_10_method_48_code 6 (some .int) ∈ tb := tb6 (i := 23) rfl rfl
theorem m_6_24 : Cond.methodLink "HiredToWaitModel" 228 ⟨"HiredToWaitModel", "many", "(I)I"⟩ ∈ tb := tb6 (i := 24) rfl rfl
theorem m_6_26 : Cond.instanceMethod ⟨"HiredToWaitModel", "many", "(I)I"⟩ ∈ tb := tb6 (i := 26) rfl rfl
theorem m_6_27 : Cond.code ⟨"HiredToWaitModel", "many", "(I)I"⟩ prog_10_method_49_code 4 (some .int) ∈ tb := tb6 (i := 27) rfl rfl
theorem m_6_28 : Cond.methodLink "HiredToWaitLaw" 114 ⟨"HiredToWaitModel", "seen", "(II)I"⟩ ∈ tb := tb6 (i := 28) rfl rfl
theorem m_6_29 : Cond.instanceMethod ⟨"HiredToWaitModel", "seen", "(II)I"⟩ ∈ tb := tb6 (i := 29) rfl rfl
theorem m_6_30 : Cond.selects "HiredToWaitModel" ⟨"HiredToWaitModel", "seen", "(II)I"⟩ ⟨"HiredToWaitModel", "seen", "(II)I"⟩ ∈ tb := tb6 (i := 30) rfl rfl
theorem m_6_31 : Cond.code ⟨"HiredToWaitModel", "seen", "(II)I"⟩ prog_10_method_52_code 5 (some .int) ∈ tb := tb6 (i := 31) rfl rfl
theorem m_6_32 : Cond.methodLink "HiredToWaitModel" 231 ⟨"HiredToWaitModel", "worthOf", "(I)I"⟩ ∈ tb := tb6 (i := 32) rfl rfl
theorem m_6_34 : Cond.instanceMethod ⟨"HiredToWaitModel", "worthOf", "(I)I"⟩ ∈ tb := tb6 (i := 34) rfl rfl
theorem m_6_35 : Cond.code ⟨"HiredToWaitModel", "worthOf", "(I)I"⟩ prog_10_method_50_code 4 (some .int) ∈ tb := tb6 (i := 35) rfl rfl
theorem m_6_36 : Cond.methodLink "HiredToWaitLaw" 102 ⟨"HiredToWaitModel", "lookouts", "(I)I"⟩ ∈ tb := tb6 (i := 36) rfl rfl
theorem m_6_37 : Cond.instanceMethod ⟨"HiredToWaitModel", "lookouts", "(I)I"⟩ ∈ tb := tb6 (i := 37) rfl rfl
theorem m_6_38 : Cond.selects "HiredToWaitModel" ⟨"HiredToWaitModel", "lookouts", "(I)I"⟩ ⟨"HiredToWaitModel", "lookouts", "(I)I"⟩ ∈ tb := tb6 (i := 38) rfl rfl
theorem m_6_39 : Cond.code ⟨"HiredToWaitModel", "lookouts", "(I)I"⟩ prog_10_method_53_code 4 (some .int) ∈ tb := tb6 (i := 39) rfl rfl
theorem m_6_40 : Cond.methodLink "HiredToWaitLaw" 118 ⟨"HiredToWaitModel", "met", "(II)I"⟩ ∈ tb := tb6 (i := 40) rfl rfl
theorem m_6_41 : Cond.instanceMethod ⟨"HiredToWaitModel", "met", "(II)I"⟩ ∈ tb := tb6 (i := 41) rfl rfl
theorem m_6_42 : Cond.selects "HiredToWaitModel" ⟨"HiredToWaitModel", "met", "(II)I"⟩ ⟨"HiredToWaitModel", "met", "(II)I"⟩ ∈ tb := tb6 (i := 42) rfl rfl
theorem m_6_43 : Cond.code ⟨"HiredToWaitModel", "met", "(II)I"⟩ prog_10_method_55_code 3 (some .int) ∈ tb := tb6 (i := 43) rfl rfl
theorem m_6_44 : Cond.methodLink "HiredToWaitModel" 234 ⟨"HiredToWaitModel", "isMet", "(IZ)Z"⟩ ∈ tb := tb6 (i := 44) rfl rfl
theorem m_6_46 : Cond.instanceMethod ⟨"HiredToWaitModel", "isMet", "(IZ)Z"⟩ ∈ tb := tb6 (i := 46) rfl rfl
theorem m_6_47 : Cond.code ⟨"HiredToWaitModel", "isMet", "(IZ)Z"⟩ prog_10_method_54_code 3 (some .boolean) ∈ tb := tb6 (i := 47) rfl rfl
theorem m_6_48 : Cond.methodLink "HiredToWaitLaw" 122 ⟨"HiredToWaitModel", "runners", "(II)I"⟩ ∈ tb := tb6 (i := 48) rfl rfl
theorem m_6_49 : Cond.instanceMethod ⟨"HiredToWaitModel", "runners", "(II)I"⟩ ∈ tb := tb6 (i := 49) rfl rfl
theorem m_6_50 : Cond.selects "HiredToWaitModel" ⟨"HiredToWaitModel", "runners", "(II)I"⟩ ⟨"HiredToWaitModel", "runners", "(II)I"⟩ ∈ tb := tb6 (i := 50) rfl rfl
theorem m_6_51 : Cond.code ⟨"HiredToWaitModel", "runners", "(II)I"⟩ prog_10_method_56_code 7 (some .int) ∈ tb := tb6 (i := 51) rfl rfl
theorem m_6_52 : Cond.methodLink "HiredToWaitLaw" 126 ⟨"HiredToWaitModel", "left", "(II)I"⟩ ∈ tb := tb6 (i := 52) rfl rfl
theorem m_6_53 : Cond.instanceMethod ⟨"HiredToWaitModel", "left", "(II)I"⟩ ∈ tb := tb6 (i := 53) rfl rfl
theorem m_6_54 : Cond.selects "HiredToWaitModel" ⟨"HiredToWaitModel", "left", "(II)I"⟩ ⟨"HiredToWaitModel", "left", "(II)I"⟩ ∈ tb := tb6 (i := 54) rfl rfl
theorem m_6_55 : Cond.code ⟨"HiredToWaitModel", "left", "(II)I"⟩ prog_10_method_58_code 8 (some .int) ∈ tb := tb6 (i := 55) rfl rfl
theorem m_6_56 : Cond.methodLink "HiredToWaitModel" 238 ⟨"HiredToWaitModel", "intAt", "(II)I"⟩ ∈ tb := tb6 (i := 56) rfl rfl
theorem m_6_58 : Cond.instanceMethod ⟨"HiredToWaitModel", "intAt", "(II)I"⟩ ∈ tb := tb6 (i := 58) rfl rfl
theorem m_6_59 : Cond.code ⟨"HiredToWaitModel", "intAt", "(II)I"⟩ prog_10_method_16_code 3 (some .int) ∈ tb := tb6 (i := 59) rfl rfl
theorem m_6_60 : Cond.methodLink "HiredToWaitModel" 241 ⟨"HiredToWaitModel", "mayCome", "(II)Z"⟩ ∈ tb := tb6 (i := 60) rfl rfl
theorem m_6_62 : Cond.instanceMethod ⟨"HiredToWaitModel", "mayCome", "(II)Z"⟩ ∈ tb := tb6 (i := 62) rfl rfl
theorem m_6_63 : Cond.code ⟨"HiredToWaitModel", "mayCome", "(II)Z"⟩ prog_10_method_57_code 3 (some .boolean) ∈ tb := tb6 (i := 63) rfl rfl
theorem m_6_64 : Cond.methodLink "HiredToWaitLaw" 130 ⟨"HiredToWaitModel", "await", "(I)I"⟩ ∈ tb := tb6 (i := 64) rfl rfl
theorem m_6_65 : Cond.instanceMethod ⟨"HiredToWaitModel", "await", "(I)I"⟩ ∈ tb := tb6 (i := 65) rfl rfl
theorem m_6_66 : Cond.selects "HiredToWaitModel" ⟨"HiredToWaitModel", "await", "(I)I"⟩ ⟨"HiredToWaitModel", "await", "(I)I"⟩ ∈ tb := tb6 (i := 66) rfl rfl
theorem m_6_67 : Cond.code ⟨"HiredToWaitModel", "await", "(I)I"⟩ prog_10_method_60_code 4 (some .int) ∈ tb := tb6 (i := 67) rfl rfl
theorem m_6_68 : Cond.methodLink "HiredToWaitModel" 244 ⟨"HiredToWaitModel", "awaited", "(I)I"⟩ ∈ tb := tb6 (i := 68) rfl rfl
theorem m_6_70 : Cond.instanceMethod ⟨"HiredToWaitModel", "awaited", "(I)I"⟩ ∈ tb := tb6 (i := 70) rfl rfl
theorem m_6_71 : Cond.code ⟨"HiredToWaitModel", "awaited", "(I)I"⟩ prog_10_method_59_code 4 (some .int) ∈ tb := tb6 (i := 71) rfl rfl
theorem m_6_72 : Cond.methodLink "HiredToWaitLaw" 134 ⟨"HiredToWaitModel", "judge", "(II)I"⟩ ∈ tb := tb6 (i := 72) rfl rfl
theorem m_6_73 : Cond.instanceMethod ⟨"HiredToWaitModel", "judge", "(II)I"⟩ ∈ tb := tb6 (i := 73) rfl rfl
theorem m_6_74 : Cond.selects "HiredToWaitModel" ⟨"HiredToWaitModel", "judge", "(II)I"⟩ ⟨"HiredToWaitModel", "judge", "(II)I"⟩ ∈ tb := tb6 (i := 74) rfl rfl
theorem m_6_75 : Cond.code ⟨"HiredToWaitModel", "judge", "(II)I"⟩ prog_10_method_63_code 4 (some .int) ∈ tb := tb6 (i := 75) rfl rfl
theorem m_6_76 : Cond.methodLink "HiredToWaitModel" 256 ⟨"HiredToWaitModel", "barsOfDay", "(II)I"⟩ ∈ tb := tb6 (i := 76) rfl rfl
theorem m_6_78 : Cond.instanceMethod ⟨"HiredToWaitModel", "barsOfDay", "(II)I"⟩ ∈ tb := tb6 (i := 78) rfl rfl
theorem m_6_79 : Cond.code ⟨"HiredToWaitModel", "barsOfDay", "(II)I"⟩ prog_10_method_62_code 4 (some .int) ∈ tb := tb6 (i := 79) rfl rfl
theorem m_6_80 : Cond.methodLink "HiredToWaitModel" 259 ⟨"HiredToWaitModel", "wrongIn", "(II)I"⟩ ∈ tb := tb6 (i := 80) rfl rfl
theorem m_6_82 : Cond.instanceMethod ⟨"HiredToWaitModel", "wrongIn", "(II)I"⟩ ∈ tb := tb6 (i := 82) rfl rfl
theorem m_6_83 : Cond.code ⟨"HiredToWaitModel", "wrongIn", "(II)I"⟩ prog_10_method_61_code 8 (some .int) ∈ tb := tb6 (i := 83) rfl rfl
theorem m_6_84 : Cond.methodLink "HiredToWaitLaw" 138 ⟨"HiredToWaitModel", "behind", "(III)I"⟩ ∈ tb := tb6 (i := 84) rfl rfl
theorem m_6_85 : Cond.instanceMethod ⟨"HiredToWaitModel", "behind", "(III)I"⟩ ∈ tb := tb6 (i := 85) rfl rfl
theorem m_6_86 : Cond.selects "HiredToWaitModel" ⟨"HiredToWaitModel", "behind", "(III)I"⟩ ⟨"HiredToWaitModel", "behind", "(III)I"⟩ ∈ tb := tb6 (i := 86) rfl rfl
theorem m_6_87 : Cond.code ⟨"HiredToWaitModel", "behind", "(III)I"⟩ prog_10_method_64_code 5 (some .int) ∈ tb := tb6 (i := 87) rfl rfl
theorem m_6_88 : Cond.methodLink "HiredToWaitLaw" 142 ⟨"HiredToWaitModel", "done", "(II)I"⟩ ∈ tb := tb6 (i := 88) rfl rfl
theorem m_6_89 : Cond.instanceMethod ⟨"HiredToWaitModel", "done", "(II)I"⟩ ∈ tb := tb6 (i := 89) rfl rfl
theorem m_6_90 : Cond.selects "HiredToWaitModel" ⟨"HiredToWaitModel", "done", "(II)I"⟩ ⟨"HiredToWaitModel", "done", "(II)I"⟩ ∈ tb := tb6 (i := 90) rfl rfl
theorem m_6_91 : Cond.code ⟨"HiredToWaitModel", "done", "(II)I"⟩ prog_10_method_65_code 4 (some .int) ∈ tb := tb6 (i := 91) rfl rfl
theorem m_6_92 : Cond.methodLink "HiredToWaitLaw" 146 ⟨"HiredToWaitModel", "days", "(I)I"⟩ ∈ tb := tb6 (i := 92) rfl rfl
theorem m_6_93 : Cond.instanceMethod ⟨"HiredToWaitModel", "days", "(I)I"⟩ ∈ tb := tb6 (i := 93) rfl rfl
theorem m_6_94 : Cond.selects "HiredToWaitModel" ⟨"HiredToWaitModel", "days", "(I)I"⟩ ⟨"HiredToWaitModel", "days", "(I)I"⟩ ∈ tb := tb6 (i := 94) rfl rfl
theorem m_6_95 : Cond.code ⟨"HiredToWaitModel", "days", "(I)I"⟩ prog_10_method_67_code 5 (some .int) ∈ tb := tb6 (i := 95) rfl rfl
theorem m_6_96 : Cond.methodLink "HiredToWaitModel" 263 ⟨"HiredToWaitModel", "draw", "(I)I"⟩ ∈ tb := tb6 (i := 96) rfl rfl
theorem m_6_98 : Cond.instanceMethod ⟨"HiredToWaitModel", "draw", "(I)I"⟩ ∈ tb := tb6 (i := 98) rfl rfl
theorem m_6_99 : Cond.code ⟨"HiredToWaitModel", "draw", "(I)I"⟩ prog_10_method_66_code 2 (some .int) ∈ tb := tb6 (i := 99) rfl rfl
theorem m_6_100 : Cond.constant "HiredToWaitModel" 262 (1103515245) ∈ tb := tb6 (i := 100) rfl rfl
theorem m_6_101 : Cond.methodLink "HiredToWaitLaw" 150 ⟨"HiredToWaitModel", "seed", "(I)I"⟩ ∈ tb := tb6 (i := 101) rfl rfl
theorem m_6_102 : Cond.instanceMethod ⟨"HiredToWaitModel", "seed", "(I)I"⟩ ∈ tb := tb6 (i := 102) rfl rfl
theorem m_6_103 : Cond.selects "HiredToWaitModel" ⟨"HiredToWaitModel", "seed", "(I)I"⟩ ⟨"HiredToWaitModel", "seed", "(I)I"⟩ ∈ tb := tb6 (i := 103) rfl rfl
theorem m_6_104 : Cond.code ⟨"HiredToWaitModel", "seed", "(I)I"⟩ prog_10_method_68_code 3 (some .int) ∈ tb := tb6 (i := 104) rfl rfl
theorem m_6_105 : Cond.methodLink "HiredToWaitLaw" 154 ⟨"HiredToWaitModel", "act", "(III)I"⟩ ∈ tb := tb6 (i := 105) rfl rfl
theorem m_6_106 : Cond.instanceMethod ⟨"HiredToWaitModel", "act", "(III)I"⟩ ∈ tb := tb6 (i := 106) rfl rfl
theorem m_6_107 : Cond.selects "HiredToWaitModel" ⟨"HiredToWaitModel", "act", "(III)I"⟩ ⟨"HiredToWaitModel", "act", "(III)I"⟩ ∈ tb := tb6 (i := 107) rfl rfl
theorem m_6_108 : Cond.code ⟨"HiredToWaitModel", "act", "(III)I"⟩ prog_10_method_73_code 4 (some .int) ∈ tb := tb6 (i := 108) rfl rfl
theorem m_6_109 : Cond.methodLink "HiredToWaitModel" 272 ⟨"HiredToWaitModel", "waiting", "(II)I"⟩ ∈ tb := tb6 (i := 109) rfl rfl
theorem m_6_111 : Cond.instanceMethod ⟨"HiredToWaitModel", "waiting", "(II)I"⟩ ∈ tb := tb6 (i := 111) rfl rfl
theorem m_6_112 : Cond.code ⟨"HiredToWaitModel", "waiting", "(II)I"⟩ prog_10_method_70_code 8 (some .int) ∈ tb := tb6 (i := 112) rfl rfl
theorem m_6_113 : Cond.methodLink "HiredToWaitModel" 269 ⟨"HiredToWaitModel", "body", "(I)V"⟩ ∈ tb := tb6 (i := 113) rfl rfl
theorem m_6_115 : Cond.instanceMethod ⟨"HiredToWaitModel", "body", "(I)V"⟩ ∈ tb := tb6 (i := 115) rfl rfl
theorem m_6_116 : Cond.code ⟨"HiredToWaitModel", "body", "(I)V"⟩ prog_10_method_69_code 2 none ∈ tb := tb6 (i := 116) rfl rfl
theorem m_6_117 : Cond.methodLink "HiredToWaitModel" 275 ⟨"HiredToWaitModel", "looking", "(II)I"⟩ ∈ tb := tb6 (i := 117) rfl rfl
theorem m_6_119 : Cond.instanceMethod ⟨"HiredToWaitModel", "looking", "(II)I"⟩ ∈ tb := tb6 (i := 119) rfl rfl
theorem m_6_120 : Cond.code ⟨"HiredToWaitModel", "looking", "(II)I"⟩ prog_10_method_71_code 7 (some .int) ∈ tb := tb6 (i := 120) rfl rfl
theorem m_6_121 : Cond.methodLink "HiredToWaitModel" 278 ⟨"HiredToWaitModel", "sending", "(II)I"⟩ ∈ tb := tb6 (i := 121) rfl rfl
theorem m_6_123 : Cond.instanceMethod ⟨"HiredToWaitModel", "sending", "(II)I"⟩ ∈ tb := tb6 (i := 123) rfl rfl
theorem m_6_124 : Cond.code ⟨"HiredToWaitModel", "sending", "(II)I"⟩ prog_10_method_72_code 6 (some .int) ∈ tb := tb6 (i := 124) rfl rfl
theorem m_6_125 : Cond.methodLink "HiredToWaitLaw" 158 ⟨"HiredToWaitModel", "trace", "(I)I"⟩ ∈ tb := tb6 (i := 125) rfl rfl
theorem m_6_126 : Cond.instanceMethod ⟨"HiredToWaitModel", "trace", "(I)I"⟩ ∈ tb := tb6 (i := 126) rfl rfl
theorem m_6_127 : Cond.selects "HiredToWaitModel" ⟨"HiredToWaitModel", "trace", "(I)I"⟩ ⟨"HiredToWaitModel", "trace", "(I)I"⟩ ∈ tb := tb6 (i := 127) rfl rfl
theorem m_6_128 : Cond.code ⟨"HiredToWaitModel", "trace", "(I)I"⟩ prog_10_method_74_code 2 (some .int) ∈ tb := tb6 (i := 128) rfl rfl
theorem m_6_129 : Cond.methodLink "HiredToWaitLaw" 162 ⟨"HiredToWaitModel", "image", "()I"⟩ ∈ tb := tb6 (i := 129) rfl rfl
theorem m_6_130 : Cond.instanceMethod ⟨"HiredToWaitModel", "image", "()I"⟩ ∈ tb := tb6 (i := 130) rfl rfl
theorem m_6_131 : Cond.selects "HiredToWaitModel" ⟨"HiredToWaitModel", "image", "()I"⟩ ⟨"HiredToWaitModel", "image", "()I"⟩ ∈ tb := tb6 (i := 131) rfl rfl
theorem m_6_132 : Cond.code ⟨"HiredToWaitModel", "image", "()I"⟩ prog_10_method_75_code 1 (some .int) ∈ tb := tb6 (i := 132) rfl rfl
theorem m_6_133 : Cond.methodLink "HiredToWaitLaw" 166 ⟨"HiredToWaitModel", "restore", "()I"⟩ ∈ tb := tb6 (i := 133) rfl rfl
theorem m_6_134 : Cond.instanceMethod ⟨"HiredToWaitModel", "restore", "()I"⟩ ∈ tb := tb6 (i := 134) rfl rfl
theorem m_6_135 : Cond.selects "HiredToWaitModel" ⟨"HiredToWaitModel", "restore", "()I"⟩ ⟨"HiredToWaitModel", "restore", "()I"⟩ ∈ tb := tb6 (i := 135) rfl rfl
theorem m_6_136 : Cond.code ⟨"HiredToWaitModel", "restore", "()I"⟩ prog_10_method_76_code 2 (some .int) ∈ tb := tb6 (i := 136) rfl rfl
theorem m_6_137 : Cond.methodLink "HiredToWaitLaw" 170 ⟨"HiredToWaitModel", "status", "(I)I"⟩ ∈ tb := tb6 (i := 137) rfl rfl
theorem m_6_138 : Cond.instanceMethod ⟨"HiredToWaitModel", "status", "(I)I"⟩ ∈ tb := tb6 (i := 138) rfl rfl
theorem m_6_139 : Cond.selects "HiredToWaitModel" ⟨"HiredToWaitModel", "status", "(I)I"⟩ ⟨"HiredToWaitModel", "status", "(I)I"⟩ ∈ tb := tb6 (i := 139) rfl rfl
theorem m_6_140 : Cond.code ⟨"HiredToWaitModel", "status", "(I)I"⟩ prog_10_method_77_code 2 (some .int) ∈ tb := tb6 (i := 140) rfl rfl
theorem m_6_141 : Cond.constantLong "HiredToWaitLaw" 18 (4294967295) ∈ tb := tb6 (i := 141) rfl rfl
theorem m_6_142 : Cond.fieldLink "java/lang/String" 9 "java/lang/String" "value" "[B" ∈ tb := tb6 (i := 142) rfl rfl
theorem m_6_143 : Cond.fieldLink "java/lang/String" 15 "java/lang/String" "coder" "B" ∈ tb := tb6 (i := 143) rfl rfl
