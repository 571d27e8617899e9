-- ===== PART A: goes FIRST, ahead of the names: the tables' words, and 'selects' of the private methods out of them =====
/-- a private method of a class that the tables say can be made, by its rows of tables_1 -/
def lw_okq (q : MethodName × Nat) : Prop := (q.1.cls ≠ "java/lang/invoke/MethodHandle" ∧ q.1.cls ≠ "java/lang/invoke/VarHandle") ∧ Cond.instantiable q.1.cls q.2 ∈ tables_1 ∧ Cond.privateMethod q.1 ∈ tables_1 ∧ Cond.instanceMethod q.1 ∈ tables_1
theorem lw_p0 : lw_okq (⟨"DeficitCircles$History", "dropOldest", "()V"⟩, 2) := ⟨⟨by decide +kernel, by decide +kernel⟩, List.mem_of_getElem? (i := 195) (by decide +kernel), List.mem_of_getElem? (i := 280) (by decide +kernel), List.mem_of_getElem? (i := 281) (by decide +kernel)⟩
theorem lw_p1 : lw_okq (⟨"DeficitCircles$History", "roomAt", "(I)LDeficitCircles$State;"⟩, 2) := ⟨⟨by decide +kernel, by decide +kernel⟩, List.mem_of_getElem? (i := 195) (by decide +kernel), List.mem_of_getElem? (i := 284) (by decide +kernel), List.mem_of_getElem? (i := 285) (by decide +kernel)⟩
theorem lw_p2 : lw_okq (⟨"DeficitCircles", "passTick", "()I"⟩, 7) := ⟨⟨by decide +kernel, by decide +kernel⟩, List.mem_of_getElem? (i := 13) (by decide +kernel), List.mem_of_getElem? (i := 367) (by decide +kernel), List.mem_of_getElem? (i := 368) (by decide +kernel)⟩
theorem lw_p3 : lw_okq (⟨"DeficitCircles$Turns", "noteFirstJobs", "(LDeficitCircles$State;)V"⟩, 3) := ⟨⟨by decide +kernel, by decide +kernel⟩, List.mem_of_getElem? (i := 227) (by decide +kernel), List.mem_of_getElem? (i := 400) (by decide +kernel), List.mem_of_getElem? (i := 401) (by decide +kernel)⟩
theorem lw_p4 : lw_okq (⟨"DeficitCircles$Turns", "noteJob", "(LDeficitCircles$State;I)V"⟩, 3) := ⟨⟨by decide +kernel, by decide +kernel⟩, List.mem_of_getElem? (i := 227) (by decide +kernel), List.mem_of_getElem? (i := 405) (by decide +kernel), List.mem_of_getElem? (i := 406) (by decide +kernel)⟩
theorem lw_p5 : lw_okq (⟨"DeficitCircles$Turns", "presentGroupIsNext", "(LDeficitCircles$State;)Z"⟩, 3) := ⟨⟨by decide +kernel, by decide +kernel⟩, List.mem_of_getElem? (i := 227) (by decide +kernel), List.mem_of_getElem? (i := 416) (by decide +kernel), List.mem_of_getElem? (i := 417) (by decide +kernel)⟩
theorem lw_p6 : lw_okq (⟨"DeficitCircles$Turns", "lookAt", "(LDeficitCircles$State;I)I"⟩, 3) := ⟨⟨by decide +kernel, by decide +kernel⟩, List.mem_of_getElem? (i := 227) (by decide +kernel), List.mem_of_getElem? (i := 420) (by decide +kernel), List.mem_of_getElem? (i := 421) (by decide +kernel)⟩
theorem lw_p7 : lw_okq (⟨"DeficitCircles$Turns", "walkClasses", "(LDeficitCircles$State;I)Z"⟩, 3) := ⟨⟨by decide +kernel, by decide +kernel⟩, List.mem_of_getElem? (i := 227) (by decide +kernel), List.mem_of_getElem? (i := 424) (by decide +kernel), List.mem_of_getElem? (i := 425) (by decide +kernel)⟩
theorem lw_p8 : lw_okq (⟨"DeficitCircles$Turns", "skipClassRounds", "(LDeficitCircles$State;I)V"⟩, 3) := ⟨⟨by decide +kernel, by decide +kernel⟩, List.mem_of_getElem? (i := 227) (by decide +kernel), List.mem_of_getElem? (i := 428) (by decide +kernel), List.mem_of_getElem? (i := 429) (by decide +kernel)⟩
theorem lw_p9 : lw_okq (⟨"DeficitCircles$Turns", "walkGroups", "(LDeficitCircles$State;)Z"⟩, 3) := ⟨⟨by decide +kernel, by decide +kernel⟩, List.mem_of_getElem? (i := 227) (by decide +kernel), List.mem_of_getElem? (i := 439) (by decide +kernel), List.mem_of_getElem? (i := 440) (by decide +kernel)⟩
theorem lw_p10 : lw_okq (⟨"DeficitCircles$Turns", "skipGroupRounds", "(LDeficitCircles$State;)V"⟩, 3) := ⟨⟨by decide +kernel, by decide +kernel⟩, List.mem_of_getElem? (i := 227) (by decide +kernel), List.mem_of_getElem? (i := 443) (by decide +kernel), List.mem_of_getElem? (i := 444) (by decide +kernel)⟩
theorem lw_p11 : lw_okq (⟨"DeficitCircles$State", "noteWait", "(II)V"⟩, 9) := ⟨⟨by decide +kernel, by decide +kernel⟩, List.mem_of_getElem? (i := 21) (by decide +kernel), List.mem_of_getElem? (i := 460) (by decide +kernel), List.mem_of_getElem? (i := 461) (by decide +kernel)⟩
theorem lw_p12 : lw_okq (⟨"DeficitCircles$State", "payFromClass", "(II)V"⟩, 9) := ⟨⟨by decide +kernel, by decide +kernel⟩, List.mem_of_getElem? (i := 21) (by decide +kernel), List.mem_of_getElem? (i := 467) (by decide +kernel), List.mem_of_getElem? (i := 468) (by decide +kernel)⟩
theorem lw_p13 : lw_okq (⟨"DeficitCircles$State", "payFromGroup", "(II)V"⟩, 9) := ⟨⟨by decide +kernel, by decide +kernel⟩, List.mem_of_getElem? (i := 21) (by decide +kernel), List.mem_of_getElem? (i := 476) (by decide +kernel), List.mem_of_getElem? (i := 477) (by decide +kernel)⟩
theorem lw_p14 : lw_okq (⟨"DeficitCircles", "beginAhead", "(I)I"⟩, 7) := ⟨⟨by decide +kernel, by decide +kernel⟩, List.mem_of_getElem? (i := 13) (by decide +kernel), List.mem_of_getElem? (i := 606) (by decide +kernel), List.mem_of_getElem? (i := 607) (by decide +kernel)⟩
theorem lw_p15 : lw_okq (⟨"DeficitCirclesModel", "begin", "()V"⟩, 9) := ⟨⟨by decide +kernel, by decide +kernel⟩, List.mem_of_getElem? (i := 647) (by decide +kernel), List.mem_of_getElem? (i := 693) (by decide +kernel), List.mem_of_getElem? (i := 694) (by decide +kernel)⟩
def lw_privs_1 : List (MethodName × Nat) := [(⟨"DeficitCircles$History", "dropOldest", "()V"⟩, 2), (⟨"DeficitCircles$History", "roomAt", "(I)LDeficitCircles$State;"⟩, 2), (⟨"DeficitCircles", "passTick", "()I"⟩, 7), (⟨"DeficitCircles$Turns", "noteFirstJobs", "(LDeficitCircles$State;)V"⟩, 3), (⟨"DeficitCircles$Turns", "noteJob", "(LDeficitCircles$State;I)V"⟩, 3), (⟨"DeficitCircles$Turns", "presentGroupIsNext", "(LDeficitCircles$State;)Z"⟩, 3), (⟨"DeficitCircles$Turns", "lookAt", "(LDeficitCircles$State;I)I"⟩, 3), (⟨"DeficitCircles$Turns", "walkClasses", "(LDeficitCircles$State;I)Z"⟩, 3), (⟨"DeficitCircles$Turns", "skipClassRounds", "(LDeficitCircles$State;I)V"⟩, 3), (⟨"DeficitCircles$Turns", "walkGroups", "(LDeficitCircles$State;)Z"⟩, 3), (⟨"DeficitCircles$Turns", "skipGroupRounds", "(LDeficitCircles$State;)V"⟩, 3), (⟨"DeficitCircles$State", "noteWait", "(II)V"⟩, 9), (⟨"DeficitCircles$State", "payFromClass", "(II)V"⟩, 9), (⟨"DeficitCircles$State", "payFromGroup", "(II)V"⟩, 9), (⟨"DeficitCircles", "beginAhead", "(I)I"⟩, 7), (⟨"DeficitCirclesModel", "begin", "()V"⟩, 9)]
theorem lw_r1 : ∀ q ∈ lw_privs_1, lw_okq q := List.forall_mem_cons.mpr ⟨lw_p0, List.forall_mem_cons.mpr ⟨lw_p1, List.forall_mem_cons.mpr ⟨lw_p2, List.forall_mem_cons.mpr ⟨lw_p3, List.forall_mem_cons.mpr ⟨lw_p4, List.forall_mem_cons.mpr ⟨lw_p5, List.forall_mem_cons.mpr ⟨lw_p6, List.forall_mem_cons.mpr ⟨lw_p7, List.forall_mem_cons.mpr ⟨lw_p8, List.forall_mem_cons.mpr ⟨lw_p9, List.forall_mem_cons.mpr ⟨lw_p10, List.forall_mem_cons.mpr ⟨lw_p11, List.forall_mem_cons.mpr ⟨lw_p12, List.forall_mem_cons.mpr ⟨lw_p13, List.forall_mem_cons.mpr ⟨lw_p14, List.forall_mem_cons.mpr ⟨lw_p15, fun _ h => absurd h List.not_mem_nil⟩⟩⟩⟩⟩⟩⟩⟩⟩⟩⟩⟩⟩⟩⟩⟩
theorem lw_p16 : lw_okq (⟨"DeficitCirclesModel", "remember", "()V"⟩, 9) := ⟨⟨by decide +kernel, by decide +kernel⟩, List.mem_of_getElem? (i := 647) (by decide +kernel), List.mem_of_getElem? (i := 697) (by decide +kernel), List.mem_of_getElem? (i := 698) (by decide +kernel)⟩
theorem lw_p17 : lw_okq (⟨"DeficitCirclesModel", "record", "()V"⟩, 9) := ⟨⟨by decide +kernel, by decide +kernel⟩, List.mem_of_getElem? (i := 647) (by decide +kernel), List.mem_of_getElem? (i := 701) (by decide +kernel), List.mem_of_getElem? (i := 702) (by decide +kernel)⟩
theorem lw_p18 : lw_okq (⟨"DeficitCirclesModel", "noGroup", "(I)Z"⟩, 9) := ⟨⟨by decide +kernel, by decide +kernel⟩, List.mem_of_getElem? (i := 647) (by decide +kernel), List.mem_of_getElem? (i := 719) (by decide +kernel), List.mem_of_getElem? (i := 720) (by decide +kernel)⟩
theorem lw_p19 : lw_okq (⟨"DeficitCirclesModel", "set", "(II)I"⟩, 9) := ⟨⟨by decide +kernel, by decide +kernel⟩, List.mem_of_getElem? (i := 647) (by decide +kernel), List.mem_of_getElem? (i := 730) (by decide +kernel), List.mem_of_getElem? (i := 731) (by decide +kernel)⟩
theorem lw_p20 : lw_okq (⟨"DeficitCirclesModel", "noClass", "(I)Z"⟩, 9) := ⟨⟨by decide +kernel, by decide +kernel⟩, List.mem_of_getElem? (i := 647) (by decide +kernel), List.mem_of_getElem? (i := 738) (by decide +kernel), List.mem_of_getElem? (i := 739) (by decide +kernel)⟩
theorem lw_p21 : lw_okq (⟨"DeficitCirclesModel", "against", "(II)I"⟩, 9) := ⟨⟨by decide +kernel, by decide +kernel⟩, List.mem_of_getElem? (i := 647) (by decide +kernel), List.mem_of_getElem? (i := 750) (by decide +kernel), List.mem_of_getElem? (i := 751) (by decide +kernel)⟩
theorem lw_p22 : lw_okq (⟨"DeficitCirclesModel", "waiting", "(IIZ)I"⟩, 9) := ⟨⟨by decide +kernel, by decide +kernel⟩, List.mem_of_getElem? (i := 647) (by decide +kernel), List.mem_of_getElem? (i := 754) (by decide +kernel), List.mem_of_getElem? (i := 755) (by decide +kernel)⟩
theorem lw_p23 : lw_okq (⟨"DeficitCirclesModel", "waits", "(I)Z"⟩, 9) := ⟨⟨by decide +kernel, by decide +kernel⟩, List.mem_of_getElem? (i := 647) (by decide +kernel), List.mem_of_getElem? (i := 761) (by decide +kernel), List.mem_of_getElem? (i := 762) (by decide +kernel)⟩
theorem lw_p24 : lw_okq (⟨"DeficitCirclesModel", "come", "(II)I"⟩, 9) := ⟨⟨by decide +kernel, by decide +kernel⟩, List.mem_of_getElem? (i := 647) (by decide +kernel), List.mem_of_getElem? (i := 765) (by decide +kernel), List.mem_of_getElem? (i := 766) (by decide +kernel)⟩
theorem lw_p25 : lw_okq (⟨"DeficitCirclesModel", "tick", "()I"⟩, 9) := ⟨⟨by decide +kernel, by decide +kernel⟩, List.mem_of_getElem? (i := 647) (by decide +kernel), List.mem_of_getElem? (i := 773) (by decide +kernel), List.mem_of_getElem? (i := 774) (by decide +kernel)⟩
theorem lw_p26 : lw_okq (⟨"DeficitCirclesModel", "choose", "()I"⟩, 9) := ⟨⟨by decide +kernel, by decide +kernel⟩, List.mem_of_getElem? (i := 647) (by decide +kernel), List.mem_of_getElem? (i := 777) (by decide +kernel), List.mem_of_getElem? (i := 778) (by decide +kernel)⟩
theorem lw_p27 : lw_okq (⟨"DeficitCirclesModel", "firstOld", "()I"⟩, 9) := ⟨⟨by decide +kernel, by decide +kernel⟩, List.mem_of_getElem? (i := 647) (by decide +kernel), List.mem_of_getElem? (i := 781) (by decide +kernel), List.mem_of_getElem? (i := 782) (by decide +kernel)⟩
theorem lw_p28 : lw_okq (⟨"DeficitCirclesModel", "isOld", "(I)Z"⟩, 9) := ⟨⟨by decide +kernel, by decide +kernel⟩, List.mem_of_getElem? (i := 647) (by decide +kernel), List.mem_of_getElem? (i := 785) (by decide +kernel), List.mem_of_getElem? (i := 786) (by decide +kernel)⟩
theorem lw_p29 : lw_okq (⟨"DeficitCirclesModel", "nextGroup", "()I"⟩, 9) := ⟨⟨by decide +kernel, by decide +kernel⟩, List.mem_of_getElem? (i := 647) (by decide +kernel), List.mem_of_getElem? (i := 789) (by decide +kernel), List.mem_of_getElem? (i := 790) (by decide +kernel)⟩
theorem lw_p30 : lw_okq (⟨"DeficitCirclesModel", "canServeGroup", "(I)Z"⟩, 9) := ⟨⟨by decide +kernel, by decide +kernel⟩, List.mem_of_getElem? (i := 647) (by decide +kernel), List.mem_of_getElem? (i := 793) (by decide +kernel), List.mem_of_getElem? (i := 794) (by decide +kernel)⟩
theorem lw_p31 : lw_okq (⟨"DeficitCirclesModel", "isGroupBusy", "(I)Z"⟩, 9) := ⟨⟨by decide +kernel, by decide +kernel⟩, List.mem_of_getElem? (i := 647) (by decide +kernel), List.mem_of_getElem? (i := 797) (by decide +kernel), List.mem_of_getElem? (i := 798) (by decide +kernel)⟩
def lw_privs_2 : List (MethodName × Nat) := [(⟨"DeficitCirclesModel", "remember", "()V"⟩, 9), (⟨"DeficitCirclesModel", "record", "()V"⟩, 9), (⟨"DeficitCirclesModel", "noGroup", "(I)Z"⟩, 9), (⟨"DeficitCirclesModel", "set", "(II)I"⟩, 9), (⟨"DeficitCirclesModel", "noClass", "(I)Z"⟩, 9), (⟨"DeficitCirclesModel", "against", "(II)I"⟩, 9), (⟨"DeficitCirclesModel", "waiting", "(IIZ)I"⟩, 9), (⟨"DeficitCirclesModel", "waits", "(I)Z"⟩, 9), (⟨"DeficitCirclesModel", "come", "(II)I"⟩, 9), (⟨"DeficitCirclesModel", "tick", "()I"⟩, 9), (⟨"DeficitCirclesModel", "choose", "()I"⟩, 9), (⟨"DeficitCirclesModel", "firstOld", "()I"⟩, 9), (⟨"DeficitCirclesModel", "isOld", "(I)Z"⟩, 9), (⟨"DeficitCirclesModel", "nextGroup", "()I"⟩, 9), (⟨"DeficitCirclesModel", "canServeGroup", "(I)Z"⟩, 9), (⟨"DeficitCirclesModel", "isGroupBusy", "(I)Z"⟩, 9)]
theorem lw_r2 : ∀ q ∈ lw_privs_2, lw_okq q := List.forall_mem_cons.mpr ⟨lw_p16, List.forall_mem_cons.mpr ⟨lw_p17, List.forall_mem_cons.mpr ⟨lw_p18, List.forall_mem_cons.mpr ⟨lw_p19, List.forall_mem_cons.mpr ⟨lw_p20, List.forall_mem_cons.mpr ⟨lw_p21, List.forall_mem_cons.mpr ⟨lw_p22, List.forall_mem_cons.mpr ⟨lw_p23, List.forall_mem_cons.mpr ⟨lw_p24, List.forall_mem_cons.mpr ⟨lw_p25, List.forall_mem_cons.mpr ⟨lw_p26, List.forall_mem_cons.mpr ⟨lw_p27, List.forall_mem_cons.mpr ⟨lw_p28, List.forall_mem_cons.mpr ⟨lw_p29, List.forall_mem_cons.mpr ⟨lw_p30, List.forall_mem_cons.mpr ⟨lw_p31, fun _ h => absurd h List.not_mem_nil⟩⟩⟩⟩⟩⟩⟩⟩⟩⟩⟩⟩⟩⟩⟩⟩
theorem lw_p32 : lw_okq (⟨"DeficitCirclesModel", "isBusy", "(I)Z"⟩, 9) := ⟨⟨by decide +kernel, by decide +kernel⟩, List.mem_of_getElem? (i := 647) (by decide +kernel), List.mem_of_getElem? (i := 801) (by decide +kernel), List.mem_of_getElem? (i := 802) (by decide +kernel)⟩
theorem lw_p33 : lw_okq (⟨"DeficitCirclesModel", "firstOf", "(I)I"⟩, 9) := ⟨⟨by decide +kernel, by decide +kernel⟩, List.mem_of_getElem? (i := 647) (by decide +kernel), List.mem_of_getElem? (i := 805) (by decide +kernel), List.mem_of_getElem? (i := 806) (by decide +kernel)⟩
theorem lw_p34 : lw_okq (⟨"DeficitCirclesModel", "nextClass", "(I)I"⟩, 9) := ⟨⟨by decide +kernel, by decide +kernel⟩, List.mem_of_getElem? (i := 647) (by decide +kernel), List.mem_of_getElem? (i := 809) (by decide +kernel), List.mem_of_getElem? (i := 810) (by decide +kernel)⟩
theorem lw_p35 : lw_okq (⟨"DeficitCirclesModel", "canServe", "(I)Z"⟩, 9) := ⟨⟨by decide +kernel, by decide +kernel⟩, List.mem_of_getElem? (i := 647) (by decide +kernel), List.mem_of_getElem? (i := 813) (by decide +kernel), List.mem_of_getElem? (i := 814) (by decide +kernel)⟩
theorem lw_p36 : lw_okq (⟨"DeficitCirclesModel", "classBehind", "(II)I"⟩, 9) := ⟨⟨by decide +kernel, by decide +kernel⟩, List.mem_of_getElem? (i := 647) (by decide +kernel), List.mem_of_getElem? (i := 817) (by decide +kernel), List.mem_of_getElem? (i := 818) (by decide +kernel)⟩
theorem lw_p37 : lw_okq (⟨"DeficitCirclesModel", "jobs", "(Z)I"⟩, 9) := ⟨⟨by decide +kernel, by decide +kernel⟩, List.mem_of_getElem? (i := 647) (by decide +kernel), List.mem_of_getElem? (i := 837) (by decide +kernel), List.mem_of_getElem? (i := 838) (by decide +kernel)⟩
theorem lw_p38 : lw_okq (⟨"DeficitCirclesModel", "readJob", "(Z)I"⟩, 9) := ⟨⟨by decide +kernel, by decide +kernel⟩, List.mem_of_getElem? (i := 647) (by decide +kernel), List.mem_of_getElem? (i := 841) (by decide +kernel), List.mem_of_getElem? (i := 842) (by decide +kernel)⟩
theorem lw_p39 : lw_okq (⟨"DeficitCirclesModel", "sees", "(II)Z"⟩, 9) := ⟨⟨by decide +kernel, by decide +kernel⟩, List.mem_of_getElem? (i := 647) (by decide +kernel), List.mem_of_getElem? (i := 845) (by decide +kernel), List.mem_of_getElem? (i := 846) (by decide +kernel)⟩
theorem lw_p40 : lw_okq (⟨"DeficitCirclesModel", "goBack", "()V"⟩, 9) := ⟨⟨by decide +kernel, by decide +kernel⟩, List.mem_of_getElem? (i := 647) (by decide +kernel), List.mem_of_getElem? (i := 849) (by decide +kernel), List.mem_of_getElem? (i := 850) (by decide +kernel)⟩
theorem lw_p41 : lw_okq (⟨"DeficitCirclesModel", "noJob", "(I)Z"⟩, 9) := ⟨⟨by decide +kernel, by decide +kernel⟩, List.mem_of_getElem? (i := 647) (by decide +kernel), List.mem_of_getElem? (i := 866) (by decide +kernel), List.mem_of_getElem? (i := 867) (by decide +kernel)⟩
theorem lw_p42 : lw_okq (⟨"DeficitCirclesModel", "serveOut", "()V"⟩, 9) := ⟨⟨by decide +kernel, by decide +kernel⟩, List.mem_of_getElem? (i := 647) (by decide +kernel), List.mem_of_getElem? (i := 874) (by decide +kernel), List.mem_of_getElem? (i := 875) (by decide +kernel)⟩
theorem lw_p43 : lw_okq (⟨"DeficitCirclesModel", "jobsThat", "(Z)I"⟩, 9) := ⟨⟨by decide +kernel, by decide +kernel⟩, List.mem_of_getElem? (i := 647) (by decide +kernel), List.mem_of_getElem? (i := 895) (by decide +kernel), List.mem_of_getElem? (i := 896) (by decide +kernel)⟩
def lw_privs_3 : List (MethodName × Nat) := [(⟨"DeficitCirclesModel", "isBusy", "(I)Z"⟩, 9), (⟨"DeficitCirclesModel", "firstOf", "(I)I"⟩, 9), (⟨"DeficitCirclesModel", "nextClass", "(I)I"⟩, 9), (⟨"DeficitCirclesModel", "canServe", "(I)Z"⟩, 9), (⟨"DeficitCirclesModel", "classBehind", "(II)I"⟩, 9), (⟨"DeficitCirclesModel", "jobs", "(Z)I"⟩, 9), (⟨"DeficitCirclesModel", "readJob", "(Z)I"⟩, 9), (⟨"DeficitCirclesModel", "sees", "(II)Z"⟩, 9), (⟨"DeficitCirclesModel", "goBack", "()V"⟩, 9), (⟨"DeficitCirclesModel", "noJob", "(I)Z"⟩, 9), (⟨"DeficitCirclesModel", "serveOut", "()V"⟩, 9), (⟨"DeficitCirclesModel", "jobsThat", "(Z)I"⟩, 9)]
theorem lw_r3 : ∀ q ∈ lw_privs_3, lw_okq q := List.forall_mem_cons.mpr ⟨lw_p32, List.forall_mem_cons.mpr ⟨lw_p33, List.forall_mem_cons.mpr ⟨lw_p34, List.forall_mem_cons.mpr ⟨lw_p35, List.forall_mem_cons.mpr ⟨lw_p36, List.forall_mem_cons.mpr ⟨lw_p37, List.forall_mem_cons.mpr ⟨lw_p38, List.forall_mem_cons.mpr ⟨lw_p39, List.forall_mem_cons.mpr ⟨lw_p40, List.forall_mem_cons.mpr ⟨lw_p41, List.forall_mem_cons.mpr ⟨lw_p42, List.forall_mem_cons.mpr ⟨lw_p43, fun _ h => absurd h List.not_mem_nil⟩⟩⟩⟩⟩⟩⟩⟩⟩⟩⟩⟩
def lw_privs : List (MethodName × Nat) := lw_privs_1 ++ (lw_privs_2 ++ (lw_privs_3))
def lw_tbl : List Cond := k2_sels lw_privs ++ tables_1
theorem lw_privs_ok : ∀ q ∈ lw_privs, lw_okq q := by
  show ∀ q ∈ lw_privs_1 ++ (lw_privs_2 ++ (lw_privs_3)), lw_okq q
  exact List.forall_mem_append.mpr ⟨lw_r1, List.forall_mem_append.mpr ⟨lw_r2, lw_r3⟩⟩
-- ===== names, out of the claim's printed names =====
def RX0 : String := "DeficitCircles$Classes"
def TX0 : u_T := fun k => match k with
  | 0 => ("DeficitCircles$Classes", "held", "I", false)
  | 1 => ("DeficitCircles$Classes", "group", "[I", true)
  | 2 => ("DeficitCircles$Classes", "quantum", "[I", true)
  | 3 => ("DeficitCircles$Classes", "deficit", "[I", true)
  | 4 => ("DeficitCircles$Classes", "bucket", "[I", true)
  | 5 => ("DeficitCircles$Classes", "fill", "[I", true)
  | 6 => ("DeficitCircles$Classes", "tokens", "[I", true)
  | 7 => ("DeficitCircles$Classes", "age", "[I", true)
  | 8 => ("DeficitCircles$Classes", "longestWait", "[I", true)
  | _ => ("DeficitCircles$Classes", "units", "[I", true)
def tyX0 : Nat → FieldType := fun k => match k with
  | 0 => .int
  | 1 => .array .int
  | 2 => .array .int
  | 3 => .array .int
  | 4 => .array .int
  | 5 => .array .int
  | 6 => .array .int
  | 7 => .array .int
  | 8 => .array .int
  | _ => .array .int
abbrev wsX00 : List Cond := u_ws RX0 TX0 10
theorem nmX0 : ∀ a, a < 10 → ∀ b, b < 10 → a ≠ b → (TX0 a).2.1 ≠ (TX0 b).2.1 := by decide +kernel
theorem tyX0_ok : ∀ k, k < 10 → parseFieldDescriptor (TX0 k).2.2.1 = some (tyX0 k) := by decide +kernel
abbrev cX0_init : ByteArray := prog_2_method_1_code
def yX0_init : MethodName := ⟨RX0, "<init>", "()V"⟩
abbrev cX0_has : ByteArray := prog_2_method_2_code
def yX0_has : MethodName := ⟨RX0, "has", "(I)Z"⟩
abbrev cX0_append : ByteArray := prog_2_method_3_code
def yX0_append : MethodName := ⟨RX0, "append", "(IIII)I"⟩
abbrev cX0_fillBuckets : ByteArray := prog_2_method_4_code
def yX0_fillBuckets : MethodName := ⟨RX0, "fillBuckets", "(I)V"⟩
abbrev cX0_takeUnits : ByteArray := prog_2_method_5_code
def yX0_takeUnits : MethodName := ⟨RX0, "takeUnits", "()I"⟩
abbrev cX0_heldOf : ByteArray := prog_2_method_6_code
def yX0_heldOf : MethodName := ⟨RX0, "heldOf", "(I)I"⟩
abbrev cX0_unitsOf : ByteArray := prog_2_method_7_code
def yX0_unitsOf : MethodName := ⟨RX0, "unitsOf", "(I)I"⟩
abbrev cX0_copyFrom : ByteArray := prog_2_method_8_code
def yX0_copyFrom : MethodName := ⟨RX0, "copyFrom", "(LDeficitCircles$Classes;)V"⟩
def RX1 : String := "DeficitCircles$Groups"
def TX1 : u_T := fun k => match k with
  | 0 => ("DeficitCircles$Groups", "held", "I", false)
  | 1 => ("DeficitCircles$Groups", "quantum", "[I", true)
  | 2 => ("DeficitCircles$Groups", "deficit", "[I", true)
  | _ => ("DeficitCircles$Groups", "present", "[I", true)
def tyX1 : Nat → FieldType := fun k => match k with
  | 0 => .int
  | 1 => .array .int
  | 2 => .array .int
  | _ => .array .int
abbrev wsX10 : List Cond := u_ws RX1 TX1 4
theorem nmX1 : ∀ a, a < 4 → ∀ b, b < 4 → a ≠ b → (TX1 a).2.1 ≠ (TX1 b).2.1 := by decide +kernel
theorem tyX1_ok : ∀ k, k < 4 → parseFieldDescriptor (TX1 k).2.2.1 = some (tyX1 k) := by decide +kernel
abbrev cX1_init : ByteArray := prog_3_method_1_code
def yX1_init : MethodName := ⟨RX1, "<init>", "()V"⟩
abbrev cX1_has : ByteArray := prog_3_method_2_code
def yX1_has : MethodName := ⟨RX1, "has", "(I)Z"⟩
abbrev cX1_append : ByteArray := prog_3_method_3_code
def yX1_append : MethodName := ⟨RX1, "append", "(I)I"⟩
abbrev cX1_copyFrom : ByteArray := prog_3_method_4_code
def yX1_copyFrom : MethodName := ⟨RX1, "copyFrom", "(LDeficitCircles$Groups;)V"⟩
def RX2 : String := "DeficitCircles$History"
def TX2 : u_T := fun k => match k with
  | 0 => ("DeficitCircles$History", "length", "I", false)
  | _ => ("DeficitCircles$History", "states", "[LDeficitCircles$State;", true)
def tyX2 : Nat → FieldType := fun k => match k with
  | 0 => .int
  | _ => .array (.object "DeficitCircles$State")
abbrev wsX20 : List Cond := u_ws RX2 TX2 2
theorem nmX2 : ∀ a, a < 2 → ∀ b, b < 2 → a ≠ b → (TX2 a).2.1 ≠ (TX2 b).2.1 := by decide +kernel
theorem tyX2_ok : ∀ k, k < 2 → parseFieldDescriptor (TX2 k).2.2.1 = some (tyX2 k) := by decide +kernel
abbrev cX2_init : ByteArray := prog_4_method_1_code
def yX2_init : MethodName := ⟨RX2, "<init>", "()V"⟩
abbrev cX2_push : ByteArray := prog_4_method_2_code
def yX2_push : MethodName := ⟨RX2, "push", "(LDeficitCircles$State;)V"⟩
abbrev cX2_takeLatest : ByteArray := prog_4_method_3_code
def yX2_takeLatest : MethodName := ⟨RX2, "takeLatest", "(LDeficitCircles$State;)V"⟩
abbrev cX2_dropOldest : ByteArray := prog_4_method_4_code
def yX2_dropOldest : MethodName := ⟨RX2, "dropOldest", "()V"⟩
abbrev cX2_roomAt : ByteArray := prog_4_method_5_code
def yX2_roomAt : MethodName := ⟨RX2, "roomAt", "(I)LDeficitCircles$State;"⟩
def RX3 : String := "DeficitCircles$Jobs"
def TX3 : u_T := fun k => match k with
  | 0 => ("DeficitCircles$Jobs", "held", "I", false)
  | 1 => ("DeficitCircles$Jobs", "ofClass", "[I", true)
  | 2 => ("DeficitCircles$Jobs", "size", "[I", true)
  | 3 => ("DeficitCircles$Jobs", "came", "[I", true)
  | 4 => ("DeficitCircles$Jobs", "began", "[I", true)
  | 5 => ("DeficitCircles$Jobs", "waits", "I", false)
  | _ => ("DeficitCircles$Jobs", "line", "[I", true)
def tyX3 : Nat → FieldType := fun k => match k with
  | 0 => .int
  | 1 => .array .int
  | 2 => .array .int
  | 3 => .array .int
  | 4 => .array .int
  | 5 => .int
  | _ => .array .int
abbrev wsX30 : List Cond := u_ws RX3 TX3 7
theorem nmX3 : ∀ a, a < 7 → ∀ b, b < 7 → a ≠ b → (TX3 a).2.1 ≠ (TX3 b).2.1 := by decide +kernel
theorem tyX3_ok : ∀ k, k < 7 → parseFieldDescriptor (TX3 k).2.2.1 = some (tyX3 k) := by decide +kernel
abbrev cX3_init : ByteArray := prog_5_method_1_code
def yX3_init : MethodName := ⟨RX3, "<init>", "()V"⟩
abbrev cX3_has : ByteArray := prog_5_method_2_code
def yX3_has : MethodName := ⟨RX3, "has", "(I)Z"⟩
abbrev cX3_isWaiting : ByteArray := prog_5_method_3_code
def yX3_isWaiting : MethodName := ⟨RX3, "isWaiting", "(I)Z"⟩
abbrev cX3_isFull : ByteArray := prog_5_method_4_code
def yX3_isFull : MethodName := ⟨RX3, "isFull", "()Z"⟩
abbrev cX3_append : ByteArray := prog_5_method_5_code
def yX3_append : MethodName := ⟨RX3, "append", "(III)I"⟩
abbrev cX3_waitingAt : ByteArray := prog_5_method_6_code
def yX3_waitingAt : MethodName := ⟨RX3, "waitingAt", "(I)I"⟩
abbrev cX3_leaveLine : ByteArray := prog_5_method_7_code
def yX3_leaveLine : MethodName := ⟨RX3, "leaveLine", "(I)V"⟩
abbrev cX3_firstOf : ByteArray := prog_5_method_8_code
def yX3_firstOf : MethodName := ⟨RX3, "firstOf", "(I)I"⟩
abbrev cX3_waitsOf : ByteArray := prog_5_method_9_code
def yX3_waitsOf : MethodName := ⟨RX3, "waitsOf", "(I)I"⟩
abbrev cX3_sizesOf : ByteArray := prog_5_method_10_code
def yX3_sizesOf : MethodName := ⟨RX3, "sizesOf", "(I)I"⟩
abbrev cX3_allSizes : ByteArray := prog_5_method_11_code
def yX3_allSizes : MethodName := ⟨RX3, "allSizes", "()I"⟩
abbrev cX3_sizesAheadOf : ByteArray := prog_5_method_12_code
def yX3_sizesAheadOf : MethodName := ⟨RX3, "sizesAheadOf", "(I)I"⟩
abbrev cX3_copyFrom : ByteArray := prog_5_method_13_code
def yX3_copyFrom : MethodName := ⟨RX3, "copyFrom", "(LDeficitCircles$Jobs;)V"⟩
def RX4 : String := "DeficitCircles$State"
def TX4 : u_T := fun k => match k with
  | 0 => ("DeficitCircles$State", "groups", "LDeficitCircles$Groups;", true)
  | 1 => ("DeficitCircles$State", "classes", "LDeficitCircles$Classes;", true)
  | 2 => ("DeficitCircles$State", "jobs", "LDeficitCircles$Jobs;", true)
  | 3 => ("DeficitCircles$State", "time", "I", false)
  | 4 => ("DeficitCircles$State", "presentGroup", "I", false)
  | 5 => ("DeficitCircles$State", "inService", "I", false)
  | 6 => ("DeficitCircles$State", "left", "I", false)
  | 7 => ("DeficitCircles$State", "idleTicks", "I", false)
  | _ => ("DeficitCircles$State", "servedWhenOld", "I", false)
def tyX4 : Nat → FieldType := fun k => match k with
  | 0 => .object "DeficitCircles$Groups"
  | 1 => .object "DeficitCircles$Classes"
  | 2 => .object "DeficitCircles$Jobs"
  | 3 => .int
  | 4 => .int
  | 5 => .int
  | 6 => .int
  | 7 => .int
  | _ => .int
abbrev wsX40 : List Cond := u_ws RX4 TX4 9
theorem nmX4 : ∀ a, a < 9 → ∀ b, b < 9 → a ≠ b → (TX4 a).2.1 ≠ (TX4 b).2.1 := by decide +kernel
theorem tyX4_ok : ∀ k, k < 9 → parseFieldDescriptor (TX4 k).2.2.1 = some (tyX4 k) := by decide +kernel
abbrev cX4_init : ByteArray := prog_6_method_1_code
def yX4_init : MethodName := ⟨RX4, "<init>", "()V"⟩
abbrev cX4_copyFrom : ByteArray := prog_6_method_2_code
def yX4_copyFrom : MethodName := ⟨RX4, "copyFrom", "(LDeficitCircles$State;)V"⟩
abbrev cX4_whyNotAdmit : ByteArray := prog_6_method_3_code
def yX4_whyNotAdmit : MethodName := ⟨RX4, "whyNotAdmit", "(II)I"⟩
abbrev cX4_admit : ByteArray := prog_6_method_4_code
def lw_nm (o : Option Cond) : String := match o with
  | some (.code y _ _ _) => y.name
  | _ => ""
def yX4_admit : MethodName := ⟨RX4, (lw_nm (tables_1_2[117]?)), "(II)I"⟩
abbrev cX4_begin : ByteArray := prog_6_method_5_code
def yX4_begin : MethodName := ⟨RX4, "begin", "(I)V"⟩
abbrev cX4_noteWait : ByteArray := prog_6_method_6_code
def yX4_noteWait : MethodName := ⟨RX4, "noteWait", "(II)V"⟩
abbrev cX4_payFromClass : ByteArray := prog_6_method_7_code
def yX4_payFromClass : MethodName := ⟨RX4, "payFromClass", "(II)V"⟩
abbrev cX4_payFromGroup : ByteArray := prog_6_method_8_code
def yX4_payFromGroup : MethodName := ⟨RX4, "payFromGroup", "(II)V"⟩
abbrev cX4_serveUnit : ByteArray := prog_6_method_9_code
def yX4_serveUnit : MethodName := ⟨RX4, "serveUnit", "()I"⟩
abbrev cX4_ageFor : ByteArray := prog_6_method_10_code
def yX4_ageFor : MethodName := ⟨RX4, "ageFor", "(I)I"⟩
abbrev cX4_isOld : ByteArray := prog_6_method_11_code
def yX4_isOld : MethodName := ⟨RX4, "isOld", "(I)Z"⟩
abbrev cX4_firstOld : ByteArray := prog_6_method_12_code
def yX4_firstOld : MethodName := ⟨RX4, "firstOld", "()I"⟩
abbrev cX4_oldJobs : ByteArray := prog_6_method_13_code
def yX4_oldJobs : MethodName := ⟨RX4, "oldJobs", "()I"⟩
abbrev cX4_groupFor : ByteArray := prog_6_method_14_code
def yX4_groupFor : MethodName := ⟨RX4, "groupFor", "(I)I"⟩
abbrev cX4_waitsOfGroup : ByteArray := prog_6_method_15_code
def yX4_waitsOfGroup : MethodName := ⟨RX4, "waitsOfGroup", "(I)I"⟩
abbrev cX4_sizesOfGroup : ByteArray := prog_6_method_16_code
def yX4_sizesOfGroup : MethodName := ⟨RX4, "sizesOfGroup", "(I)I"⟩
abbrev cX4_stageOf : ByteArray := prog_6_method_17_code
def yX4_stageOf : MethodName := ⟨RX4, "stageOf", "(I)I"⟩
abbrev cX4_endOf : ByteArray := prog_6_method_18_code
def yX4_endOf : MethodName := ⟨RX4, "endOf", "(I)I"⟩
abbrev cX4_leftOf : ByteArray := prog_6_method_19_code
def yX4_leftOf : MethodName := ⟨RX4, "leftOf", "(I)I"⟩
abbrev cX4_doneOf : ByteArray := prog_6_method_20_code
def yX4_doneOf : MethodName := ⟨RX4, "doneOf", "(I)I"⟩
abbrev cX4_doneJobs : ByteArray := prog_6_method_21_code
def yX4_doneJobs : MethodName := ⟨RX4, "doneJobs", "()I"⟩
def RX5 : String := "DeficitCircles$Text"
def TX5 : u_T := fun k => match k with
  | 0 => ("DeficitCircles$Text", "length", "I", false)
  | _ => ("DeficitCircles$Text", "signs", "[C", true)
def tyX5 : Nat → FieldType := fun k => match k with
  | 0 => .int
  | _ => .array .char
abbrev wsX50 : List Cond := u_ws RX5 TX5 2
theorem nmX5 : ∀ a, a < 2 → ∀ b, b < 2 → a ≠ b → (TX5 a).2.1 ≠ (TX5 b).2.1 := by decide +kernel
theorem tyX5_ok : ∀ k, k < 2 → parseFieldDescriptor (TX5 k).2.2.1 = some (tyX5 k) := by decide +kernel
abbrev cX5_init : ByteArray := prog_7_method_1_code
def yX5_init : MethodName := ⟨RX5, "<init>", "()V"⟩
abbrev cX5_append : ByteArray := prog_7_method_2_code
def yX5_append : MethodName := ⟨RX5, "append", "(C)I"⟩
abbrev cX5_fault : ByteArray := prog_7_method_3_code
def yX5_fault : MethodName := ⟨RX5, "fault", "()I"⟩
abbrev cX5_partAfter : ByteArray := prog_7_method_4_code
def yX5_partAfter : MethodName := ⟨RX5, "partAfter", "(IC)I"⟩
abbrev cX5_digitAt : ByteArray := prog_7_method_5_code
def yX5_digitAt : MethodName := ⟨RX5, "digitAt", "(I)I"⟩
abbrev cX5_sizeAt : ByteArray := prog_7_method_6_code
def yX5_sizeAt : MethodName := ⟨RX5, "sizeAt", "(I)I"⟩
def RX6 : String := "DeficitCircles$Turns"
def TX6 : u_T := fun k => match k with
  | 0 => ("DeficitCircles$Turns", "classNeed", "[I", true)
  | 1 => ("DeficitCircles$Turns", "groupNeed", "[I", true)
  | _ => ("DeficitCircles$Turns", "groupBusy", "[Z", true)
def tyX6 : Nat → FieldType := fun k => match k with
  | 0 => .array .int
  | 1 => .array .int
  | _ => .array .boolean
abbrev wsX60 : List Cond := u_ws RX6 TX6 3
theorem nmX6 : ∀ a, a < 3 → ∀ b, b < 3 → a ≠ b → (TX6 a).2.1 ≠ (TX6 b).2.1 := by decide +kernel
theorem tyX6_ok : ∀ k, k < 3 → parseFieldDescriptor (TX6 k).2.2.1 = some (tyX6 k) := by decide +kernel
abbrev cX6_init : ByteArray := prog_8_method_1_code
def yX6_init : MethodName := ⟨RX6, "<init>", "()V"⟩
abbrev cX6_nextJob : ByteArray := prog_8_method_2_code
def yX6_nextJob : MethodName := ⟨RX6, "nextJob", "(LDeficitCircles$State;)I"⟩
abbrev cX6_noteFirstJobs : ByteArray := prog_8_method_3_code
def yX6_noteFirstJobs : MethodName := ⟨RX6, "noteFirstJobs", "(LDeficitCircles$State;)V"⟩
abbrev cX6_noteJob : ByteArray := prog_8_method_4_code
def yX6_noteJob : MethodName := ⟨RX6, "noteJob", "(LDeficitCircles$State;I)V"⟩
abbrev cX6_presentGroupIsNext : ByteArray := prog_8_method_5_code
def yX6_presentGroupIsNext : MethodName := ⟨RX6, "presentGroupIsNext", "(LDeficitCircles$State;)Z"⟩
abbrev cX6_walkGroups : ByteArray := prog_8_method_6_code
def yX6_walkGroups : MethodName := ⟨RX6, "walkGroups", "(LDeficitCircles$State;)Z"⟩
abbrev cX6_skipGroupRounds : ByteArray := prog_8_method_7_code
def yX6_skipGroupRounds : MethodName := ⟨RX6, "skipGroupRounds", "(LDeficitCircles$State;)V"⟩
abbrev cX6_lookAt : ByteArray := prog_8_method_8_code
def yX6_lookAt : MethodName := ⟨RX6, "lookAt", "(LDeficitCircles$State;I)I"⟩
abbrev cX6_walkClasses : ByteArray := prog_8_method_9_code
def yX6_walkClasses : MethodName := ⟨RX6, "walkClasses", "(LDeficitCircles$State;I)Z"⟩
abbrev cX6_skipClassRounds : ByteArray := prog_8_method_10_code
def yX6_skipClassRounds : MethodName := ⟨RX6, "skipClassRounds", "(LDeficitCircles$State;I)V"⟩
abbrev cX6_roundsBelow : ByteArray := prog_8_method_11_code
def yX6_roundsBelow : MethodName := ⟨RX6, "roundsBelow", "(III)I"⟩
def RX7 : String := "DeficitCircles"
def TX7 : u_T := fun k => match k with
  | 0 => ("DeficitCircles", "state", "LDeficitCircles$State;", true)
  | 1 => ("DeficitCircles", "snapshot", "LDeficitCircles$State;", true)
  | 2 => ("DeficitCircles", "hasSnapshot", "Z", false)
  | 3 => ("DeficitCircles", "trial", "LDeficitCircles$State;", true)
  | 4 => ("DeficitCircles", "history", "LDeficitCircles$History;", true)
  | 5 => ("DeficitCircles", "text", "LDeficitCircles$Text;", true)
  | _ => ("DeficitCircles", "turns", "LDeficitCircles$Turns;", true)
def tyX7 : Nat → FieldType := fun k => match k with
  | 0 => .object "DeficitCircles$State"
  | 1 => .object "DeficitCircles$State"
  | 2 => .boolean
  | 3 => .object "DeficitCircles$State"
  | 4 => .object "DeficitCircles$History"
  | 5 => .object "DeficitCircles$Text"
  | _ => .object "DeficitCircles$Turns"
abbrev wsX70 : List Cond := u_ws RX7 TX7 7
theorem nmX7 : ∀ a, a < 7 → ∀ b, b < 7 → a ≠ b → (TX7 a).2.1 ≠ (TX7 b).2.1 := by decide +kernel
theorem tyX7_ok : ∀ k, k < 7 → parseFieldDescriptor (TX7 k).2.2.1 = some (tyX7 k) := by decide +kernel
abbrev cX7_init : ByteArray := prog_1_method_1_code
def yX7_init : MethodName := ⟨RX7, "<init>", "()V"⟩
abbrev cX7_addGroup : ByteArray := prog_1_method_2_code
def yX7_addGroup : MethodName := ⟨RX7, "addGroup", "(I)I"⟩
abbrev cX7_addClass : ByteArray := prog_1_method_3_code
def yX7_addClass : MethodName := ⟨RX7, "addClass", "(IIII)I"⟩
abbrev cX7_setGroupQuantum : ByteArray := prog_1_method_4_code
def yX7_setGroupQuantum : MethodName := ⟨RX7, "setGroupQuantum", "(II)I"⟩
abbrev cX7_setQuantum : ByteArray := prog_1_method_5_code
def yX7_setQuantum : MethodName := ⟨RX7, "setQuantum", "(II)I"⟩
abbrev cX7_setAge : ByteArray := prog_1_method_6_code
def yX7_setAge : MethodName := ⟨RX7, "setAge", "(II)I"⟩
abbrev cX7_add : ByteArray := prog_1_method_7_code
def yX7_add : MethodName := ⟨RX7, "add", "(II)I"⟩
abbrev cX7_pass : ByteArray := prog_1_method_8_code
def yX7_pass : MethodName := ⟨RX7, "pass", "(I)I"⟩
abbrev cX7_mark : ByteArray := prog_1_method_9_code
def yX7_mark : MethodName := ⟨RX7, "mark", "()I"⟩
abbrev cX7_type : ByteArray := prog_1_method_10_code
def yX7_type : MethodName := ⟨RX7, "type", "(C)I"⟩
abbrev cX7_clearText : ByteArray := prog_1_method_11_code
def yX7_clearText : MethodName := ⟨RX7, "clearText", "()I"⟩
abbrev cX7_readJobs : ByteArray := prog_1_method_12_code
def yX7_readJobs : MethodName := ⟨RX7, "readJobs", "()I"⟩
abbrev cX7_undo : ByteArray := prog_1_method_13_code
def yX7_undo : MethodName := ⟨RX7, "undo", "()I"⟩
abbrev cX7_keep : ByteArray := prog_1_method_14_code
def yX7_keep : MethodName := ⟨RX7, "keep", "()I"⟩
abbrev cX7_restore : ByteArray := prog_1_method_15_code
def yX7_restore : MethodName := ⟨RX7, "restore", "()I"⟩
abbrev cX7_group : ByteArray := prog_1_method_16_code
def yX7_group : MethodName := ⟨RX7, "group", "(II)I"⟩
abbrev cX7_classOf : ByteArray := prog_1_method_17_code
def yX7_classOf : MethodName := ⟨RX7, "classOf", "(II)I"⟩
abbrev cX7_job : ByteArray := prog_1_method_18_code
def yX7_job : MethodName := ⟨RX7, "job", "(II)I"⟩
abbrev cX7_served : ByteArray := prog_1_method_19_code
def yX7_served : MethodName := ⟨RX7, "served", "(I)I"⟩
abbrev cX7_beginsAt : ByteArray := prog_1_method_20_code
def yX7_beginsAt : MethodName := ⟨RX7, "beginsAt", "(I)I"⟩
abbrev cX7_bound : ByteArray := prog_1_method_21_code
def yX7_bound : MethodName := ⟨RX7, "bound", "(I)I"⟩
abbrev cX7_shares : ByteArray := prog_1_method_22_code
def yX7_shares : MethodName := ⟨RX7, "shares", "(II)I"⟩
abbrev cX7_count : ByteArray := prog_1_method_23_code
def yX7_count : MethodName := ⟨RX7, "count", "(I)I"⟩
abbrev cX7_isWithin : ByteArray := prog_1_method_24_code
def yX7_isWithin : MethodName := ⟨RX7, "isWithin", "(III)Z"⟩
abbrev cX7_isQuantum : ByteArray := prog_1_method_25_code
def yX7_isQuantum : MethodName := ⟨RX7, "isQuantum", "(I)Z"⟩
abbrev cX7_passTick : ByteArray := prog_1_method_26_code
def yX7_passTick : MethodName := ⟨RX7, "passTick", "()I"⟩
abbrev cX7_beginAhead : ByteArray := prog_1_method_27_code
def yX7_beginAhead : MethodName := ⟨RX7, "beginAhead", "(I)I"⟩
def RX8 : String := "DeficitCirclesModel"
def TX8 : u_T := fun k => match k with
  | 0 => ("DeficitCirclesModel", "row", "[I", true)
  | 1 => ("DeficitCirclesModel", "past", "[I", true)
  | 2 => ("DeficitCirclesModel", "aside", "[I", true)
  | 3 => ("DeficitCirclesModel", "before", "[I", true)
  | 4 => ("DeficitCirclesModel", "states", "I", false)
  | 5 => ("DeficitCirclesModel", "isAside", "Z", false)
  | 6 => ("DeficitCirclesModel", "text", "[C", true)
  | 7 => ("DeficitCirclesModel", "length", "I", false)
  | _ => ("DeficitCirclesModel", "at", "I", false)
def tyX8 : Nat → FieldType := fun k => match k with
  | 0 => .array .int
  | 1 => .array .int
  | 2 => .array .int
  | 3 => .array .int
  | 4 => .int
  | 5 => .boolean
  | 6 => .array .char
  | 7 => .int
  | _ => .int
abbrev wsX80 : List Cond := u_ws RX8 TX8 9
theorem nmX8 : ∀ a, a < 9 → ∀ b, b < 9 → a ≠ b → (TX8 a).2.1 ≠ (TX8 b).2.1 := by decide +kernel
theorem tyX8_ok : ∀ k, k < 9 → parseFieldDescriptor (TX8 k).2.2.1 = some (tyX8 k) := by decide +kernel
abbrev cX8_init : ByteArray := prog_10_method_1_code
def yX8_init : MethodName := ⟨RX8, "<init>", "()V"⟩
abbrev cX8_in : ByteArray := prog_10_method_2_code
def yX8_in : MethodName := ⟨RX8, "in", "(III)Z"⟩
abbrev cX8_remember : ByteArray := prog_10_method_3_code
def yX8_remember : MethodName := ⟨RX8, "remember", "()V"⟩
abbrev cX8_goBack : ByteArray := prog_10_method_4_code
def yX8_goBack : MethodName := ⟨RX8, "goBack", "()V"⟩
abbrev cX8_record : ByteArray := prog_10_method_5_code
def yX8_record : MethodName := ⟨RX8, "record", "()V"⟩
abbrev cX8_begin : ByteArray := prog_10_method_6_code
def yX8_begin : MethodName := ⟨RX8, "begin", "()V"⟩
abbrev cX8_undo : ByteArray := prog_10_method_7_code
def yX8_undo : MethodName := ⟨RX8, "undo", "()I"⟩
abbrev cX8_keep : ByteArray := prog_10_method_8_code
def yX8_keep : MethodName := ⟨RX8, "keep", "()I"⟩
abbrev cX8_restore : ByteArray := prog_10_method_9_code
def yX8_restore : MethodName := ⟨RX8, "restore", "()I"⟩
abbrev cX8_noGroup : ByteArray := prog_10_method_10_code
def yX8_noGroup : MethodName := ⟨RX8, "noGroup", "(I)Z"⟩
abbrev cX8_noClass : ByteArray := prog_10_method_11_code
def yX8_noClass : MethodName := ⟨RX8, "noClass", "(I)Z"⟩
abbrev cX8_noJob : ByteArray := prog_10_method_12_code
def yX8_noJob : MethodName := ⟨RX8, "noJob", "(I)Z"⟩
abbrev cX8_party : ByteArray := prog_10_method_13_code
def yX8_party : MethodName := ⟨RX8, "party", "(I)I"⟩
abbrev cX8_kind : ByteArray := prog_10_method_14_code
def yX8_kind : MethodName := ⟨RX8, "kind", "(I)I"⟩
abbrev cX8_its : ByteArray := prog_10_method_15_code
def yX8_its : MethodName := ⟨RX8, "its", "(I)I"⟩
abbrev cX8_waits : ByteArray := prog_10_method_16_code
def yX8_waits : MethodName := ⟨RX8, "waits", "(I)Z"⟩
abbrev cX8_firstOf : ByteArray := prog_10_method_17_code
def yX8_firstOf : MethodName := ⟨RX8, "firstOf", "(I)I"⟩
abbrev cX8_isBusy : ByteArray := prog_10_method_18_code
def yX8_isBusy : MethodName := ⟨RX8, "isBusy", "(I)Z"⟩
abbrev cX8_isGroupBusy : ByteArray := prog_10_method_19_code
def yX8_isGroupBusy : MethodName := ⟨RX8, "isGroupBusy", "(I)Z"⟩
abbrev cX8_waiting : ByteArray := prog_10_method_20_code
def yX8_waiting : MethodName := ⟨RX8, "waiting", "(IIZ)I"⟩
abbrev cX8_isOld : ByteArray := prog_10_method_21_code
def yX8_isOld : MethodName := ⟨RX8, "isOld", "(I)Z"⟩
abbrev cX8_addGroup : ByteArray := prog_10_method_22_code
def yX8_addGroup : MethodName := ⟨RX8, "addGroup", "(I)I"⟩
abbrev cX8_addClass : ByteArray := prog_10_method_23_code
def yX8_addClass : MethodName := ⟨RX8, "addClass", "(IIII)I"⟩
abbrev cX8_set : ByteArray := prog_10_method_24_code
def yX8_set : MethodName := ⟨RX8, "set", "(II)I"⟩
abbrev cX8_setGroupQuantum : ByteArray := prog_10_method_25_code
def yX8_setGroupQuantum : MethodName := ⟨RX8, "setGroupQuantum", "(II)I"⟩
abbrev cX8_setQuantum : ByteArray := prog_10_method_26_code
def yX8_setQuantum : MethodName := ⟨RX8, "setQuantum", "(II)I"⟩
abbrev cX8_setAge : ByteArray := prog_10_method_27_code
def yX8_setAge : MethodName := ⟨RX8, "setAge", "(II)I"⟩
abbrev cX8_against : ByteArray := prog_10_method_28_code
def yX8_against : MethodName := ⟨RX8, "against", "(II)I"⟩
abbrev cX8_come : ByteArray := prog_10_method_29_code
def yX8_come : MethodName := ⟨RX8, "come", "(II)I"⟩
abbrev cX8_add : ByteArray := prog_10_method_30_code
def yX8_add : MethodName := ⟨RX8, "add", "(II)I"⟩
abbrev cX8_classBehind : ByteArray := prog_10_method_31_code
def yX8_classBehind : MethodName := ⟨RX8, "classBehind", "(II)I"⟩
abbrev cX8_canServe : ByteArray := prog_10_method_32_code
def yX8_canServe : MethodName := ⟨RX8, "canServe", "(I)Z"⟩
abbrev cX8_nextClass : ByteArray := prog_10_method_33_code
def yX8_nextClass : MethodName := ⟨RX8, "nextClass", "(I)I"⟩
abbrev cX8_canServeGroup : ByteArray := prog_10_method_34_code
def yX8_canServeGroup : MethodName := ⟨RX8, "canServeGroup", "(I)Z"⟩
abbrev cX8_nextGroup : ByteArray := prog_10_method_35_code
def yX8_nextGroup : MethodName := ⟨RX8, "nextGroup", "()I"⟩
abbrev cX8_firstOld : ByteArray := prog_10_method_36_code
def yX8_firstOld : MethodName := ⟨RX8, "firstOld", "()I"⟩
abbrev cX8_choose : ByteArray := prog_10_method_37_code
def yX8_choose : MethodName := ⟨RX8, "choose", "()I"⟩
abbrev cX8_tick : ByteArray := prog_10_method_38_code
def yX8_tick : MethodName := ⟨RX8, "tick", "()I"⟩
abbrev cX8_pass : ByteArray := prog_10_method_39_code
def yX8_pass : MethodName := ⟨RX8, "pass", "(I)I"⟩
abbrev cX8_mark : ByteArray := prog_10_method_40_code
def yX8_mark : MethodName := ⟨RX8, "mark", "()I"⟩
abbrev cX8_type : ByteArray := prog_10_method_41_code
def yX8_type : MethodName := ⟨RX8, "type", "(C)I"⟩
abbrev cX8_clearText : ByteArray := prog_10_method_42_code
def yX8_clearText : MethodName := ⟨RX8, "clearText", "()I"⟩
abbrev cX8_sees : ByteArray := prog_10_method_43_code
def yX8_sees : MethodName := ⟨RX8, "sees", "(II)Z"⟩
abbrev cX8_readJob : ByteArray := prog_10_method_44_code
def yX8_readJob : MethodName := ⟨RX8, "readJob", "(Z)I"⟩
abbrev cX8_jobs : ByteArray := prog_10_method_45_code
def yX8_jobs : MethodName := ⟨RX8, "jobs", "(Z)I"⟩
abbrev cX8_readJobs : ByteArray := prog_10_method_46_code
def yX8_readJobs : MethodName := ⟨RX8, "readJobs", "()I"⟩
abbrev cX8_group : ByteArray := prog_10_method_47_code
def yX8_group : MethodName := ⟨RX8, "group", "(II)I"⟩
abbrev cX8_classOf : ByteArray := prog_10_method_48_code
def yX8_classOf : MethodName := ⟨RX8, "classOf", "(II)I"⟩
abbrev cX8_job : ByteArray := prog_10_method_49_code
def yX8_job : MethodName := ⟨RX8, "job", "(II)I"⟩
abbrev cX8_serveOut : ByteArray := prog_10_method_50_code
def yX8_serveOut : MethodName := ⟨RX8, "serveOut", "()V"⟩
abbrev cX8_served : ByteArray := prog_10_method_51_code
def yX8_served : MethodName := ⟨RX8, "served", "(I)I"⟩
abbrev cX8_beginsAt : ByteArray := prog_10_method_52_code
def yX8_beginsAt : MethodName := ⟨RX8, "beginsAt", "(I)I"⟩
abbrev cX8_bound : ByteArray := prog_10_method_53_code
def yX8_bound : MethodName := ⟨RX8, "bound", "(I)I"⟩
abbrev cX8_shares : ByteArray := prog_10_method_54_code
def yX8_shares : MethodName := ⟨RX8, "shares", "(II)I"⟩
abbrev cX8_jobsThat : ByteArray := prog_10_method_55_code
def yX8_jobsThat : MethodName := ⟨RX8, "jobsThat", "(Z)I"⟩
abbrev cX8_count : ByteArray := prog_10_method_56_code
def yX8_count : MethodName := ⟨RX8, "count", "(I)I"⟩
