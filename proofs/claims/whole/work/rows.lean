section
-- ===== PART A: goes FIRST, ahead of the names: the tables' words, and 'selects' of the private methods out of them =====
/-- a private method of a class that the tables say can be made, by its rows of tables_1 -/
def lw_okq (q : MethodName × Nat) : Prop := (q.1.cls ≠ "java/lang/invoke/MethodHandle" ∧ q.1.cls ≠ "java/lang/invoke/VarHandle") ∧ Cond.instantiable q.1.cls q.2 ∈ tables_1 ∧ Cond.privateMethod q.1 ∈ tables_1 ∧ Cond.instanceMethod q.1 ∈ tables_1
theorem lw_p0 : lw_okq (⟨"DeficitCircles$History", "dropOldest", "()V"⟩, 2) := ⟨⟨by decide +kernel, by decide +kernel⟩, List.mem_of_getElem? (i := 195) (by decide +kernel), List.mem_of_getElem? (i := 280) (by decide +kernel), List.mem_of_getElem? (i := 281) (by decide +kernel)⟩
theorem lw_p1 : lw_okq (⟨"DeficitCircles$History", "roomAt", "(I)LDeficitCircles$State;"⟩, 2) := ⟨⟨by decide +kernel, by decide +kernel⟩, List.mem_of_getElem? (i := 195) (by decide +kernel), List.mem_of_getElem? (i := 284) (by decide +kernel), List.mem_of_getElem? (i := 285) (by decide +kernel)⟩
theorem lw_p2 : lw_okq (⟨"DeficitCircles", "passTick", "()I"⟩, 7) := ⟨⟨by decide +kernel, by decide +kernel⟩, List.mem_of_getElem? (i := 13) (by decide +kernel), List.mem_of_getElem? (i := 367) (by decide +kernel), List.mem_of_getElem? (i := 368) (by decide +kernel)⟩
theorem lw_p3 : lw_okq (⟨"DeficitCircles$Turns", "noteFirstJobs", "(LDeficitCircles$State;)V"⟩, 3) := ⟨⟨by decide +kernel, by decide +kernel⟩, List.mem_of_getElem? (i := 227) (by decide +kernel), List.mem_of_getElem? (i := 400) (by decide +kernel), List.mem_of_getElem? (i := 401) (by decide +kernel)⟩
theorem lw_p4 : lw_okq (⟨"DeficitCircles$Turns", "noteJob", "(LDeficitCircles$State;I)V"⟩, 3) := ⟨⟨by decide +kernel, by decide +kernel⟩, List.mem_of_getElem? (i := 227) (by decide +kernel), List.mem_of_getElem? (i := 405) (by decide +kernel), List.mem_of_getElem? (i := 406) (by decide +kernel)⟩
theorem lw_p5 : lw_okq (⟨"DeficitCircles$Turns", "presentGroupIsNext", "(LDeficitCircles$State;)Z"⟩, 3) := ⟨⟨by decide +kernel, by decide +kernel⟩, List.mem_of_getElem? (i := 227) (by decide +kernel), List.mem_of_getElem? (i := 416) (by decide +kernel), List.mem_of_getElem? (i := 417) (by decide +kernel)⟩
theorem lw_p6 : lw_okq (⟨"DeficitCircles$Turns", "lookAt", "(LDeficitCircles$State;I)I"⟩, 3) := ⟨⟨by decide +kernel, by decide +kernel⟩, List.mem_of_getElem? (i := 227) (by decide +kernel), List.mem_of_getElem? (i := 420) (by decide +kernel), List.mem_of_getElem? (i := 421) (by decide +kernel)⟩
theorem lw_p7 : lw_okq (⟨"DeficitCircles$Turns", "walkClasses", "(LDeficitCircles$State;I)Z"⟩, 3) := ⟨⟨by decide +kernel, by decide +kernel⟩, List.mem_of_getElem? (i := 227) (by decide +kernel), List.mem_of_getElem? (i := 424) (by decide +kernel), List.mem_of_getElem? (i := 425) (by decide +kernel)⟩
theorem lw_p8 : lw_okq (⟨"DeficitCircles$Turns", "skipClassRounds", "(LDeficitCircles$State;I)V"⟩, 3) := ⟨⟨by decide +kernel, by decide +kernel⟩, List.mem_of_getElem? (i := 227) (by decide +kernel), List.mem_of_getElem? (i := 428) (by decide +kernel), List.mem_of_getElem? (i := 429) (by decide +kernel)⟩
theorem lw_p9 : lw_okq (⟨"DeficitCircles$Turns", "walkGroups", "(LDeficitCircles$State;)Z"⟩, 3) := ⟨⟨by decide +kernel, by decide +kernel⟩, List.mem_of_getElem? (i := 227) (by decide +kernel), List.mem_of_getElem? (i := 439) (by decide +kernel), List.mem_of_getElem? (i := 440) (by decide +kernel)⟩
theorem lw_p10 : lw_okq (⟨"DeficitCircles$Turns", "skipGroupRounds", "(LDeficitCircles$State;)V"⟩, 3) := ⟨⟨by decide +kernel, by decide +kernel⟩, List.mem_of_getElem? (i := 227) (by decide +kernel), List.mem_of_getElem? (i := 443) (by decide +kernel), List.mem_of_getElem? (i := 444) (by decide +kernel)⟩
theorem lw_p11 : lw_okq (⟨"DeficitCircles$State", "noteWait", "(II)V"⟩, 9) := ⟨⟨by decide +kernel, by decide +kernel⟩, List.mem_of_getElem? (i := 21) (by decide +kernel), List.mem_of_getElem? (i := 460) (by decide +kernel), List.mem_of_getElem? (i := 461) (by decide +kernel)⟩
theorem lw_p12 : lw_okq (⟨"DeficitCircles$State", "payFromClass", "(II)V"⟩, 9) := ⟨⟨by decide +kernel, by decide +kernel⟩, List.mem_of_getElem? (i := 21) (by decide +kernel), List.mem_of_getElem? (i := 467) (by decide +kernel), List.mem_of_getElem? (i := 468) (by decide +kernel)⟩
theorem lw_p13 : lw_okq (⟨"DeficitCircles$State", "payFromGroup", "(II)V"⟩, 9) := ⟨⟨by decide +kernel, by decide +kernel⟩, List.mem_of_getElem? (i := 21) (by decide +kernel), List.mem_of_getElem? (i := 476) (by decide +kernel), List.mem_of_getElem? (i := 477) (by decide +kernel)⟩
theorem lw_p14 : lw_okq (⟨"DeficitCircles", "beginAhead", "(I)I"⟩, 7) := ⟨⟨by decide +kernel, by decide +kernel⟩, List.mem_of_getElem? (i := 13) (by decide +kernel), List.mem_of_getElem? (i := 607) (by decide +kernel), List.mem_of_getElem? (i := 608) (by decide +kernel)⟩
theorem lw_p15 : lw_okq (⟨"DeficitCirclesModel", "begin", "()V"⟩, 9) := ⟨⟨by decide +kernel, by decide +kernel⟩, List.mem_of_getElem? (i := 648) (by decide +kernel), List.mem_of_getElem? (i := 694) (by decide +kernel), List.mem_of_getElem? (i := 695) (by decide +kernel)⟩
def lw_privs_1 : List (MethodName × Nat) := [(⟨"DeficitCircles$History", "dropOldest", "()V"⟩, 2), (⟨"DeficitCircles$History", "roomAt", "(I)LDeficitCircles$State;"⟩, 2), (⟨"DeficitCircles", "passTick", "()I"⟩, 7), (⟨"DeficitCircles$Turns", "noteFirstJobs", "(LDeficitCircles$State;)V"⟩, 3), (⟨"DeficitCircles$Turns", "noteJob", "(LDeficitCircles$State;I)V"⟩, 3), (⟨"DeficitCircles$Turns", "presentGroupIsNext", "(LDeficitCircles$State;)Z"⟩, 3), (⟨"DeficitCircles$Turns", "lookAt", "(LDeficitCircles$State;I)I"⟩, 3), (⟨"DeficitCircles$Turns", "walkClasses", "(LDeficitCircles$State;I)Z"⟩, 3), (⟨"DeficitCircles$Turns", "skipClassRounds", "(LDeficitCircles$State;I)V"⟩, 3), (⟨"DeficitCircles$Turns", "walkGroups", "(LDeficitCircles$State;)Z"⟩, 3), (⟨"DeficitCircles$Turns", "skipGroupRounds", "(LDeficitCircles$State;)V"⟩, 3), (⟨"DeficitCircles$State", "noteWait", "(II)V"⟩, 9), (⟨"DeficitCircles$State", "payFromClass", "(II)V"⟩, 9), (⟨"DeficitCircles$State", "payFromGroup", "(II)V"⟩, 9), (⟨"DeficitCircles", "beginAhead", "(I)I"⟩, 7), (⟨"DeficitCirclesModel", "begin", "()V"⟩, 9)]
theorem lw_r1 : ∀ q ∈ lw_privs_1, lw_okq q := List.forall_mem_cons.mpr ⟨lw_p0, List.forall_mem_cons.mpr ⟨lw_p1, List.forall_mem_cons.mpr ⟨lw_p2, List.forall_mem_cons.mpr ⟨lw_p3, List.forall_mem_cons.mpr ⟨lw_p4, List.forall_mem_cons.mpr ⟨lw_p5, List.forall_mem_cons.mpr ⟨lw_p6, List.forall_mem_cons.mpr ⟨lw_p7, List.forall_mem_cons.mpr ⟨lw_p8, List.forall_mem_cons.mpr ⟨lw_p9, List.forall_mem_cons.mpr ⟨lw_p10, List.forall_mem_cons.mpr ⟨lw_p11, List.forall_mem_cons.mpr ⟨lw_p12, List.forall_mem_cons.mpr ⟨lw_p13, List.forall_mem_cons.mpr ⟨lw_p14, List.forall_mem_cons.mpr ⟨lw_p15, fun _ h => absurd h List.not_mem_nil⟩⟩⟩⟩⟩⟩⟩⟩⟩⟩⟩⟩⟩⟩⟩⟩
theorem lw_p16 : lw_okq (⟨"DeficitCirclesModel", "remember", "()V"⟩, 9) := ⟨⟨by decide +kernel, by decide +kernel⟩, List.mem_of_getElem? (i := 648) (by decide +kernel), List.mem_of_getElem? (i := 698) (by decide +kernel), List.mem_of_getElem? (i := 699) (by decide +kernel)⟩
theorem lw_p17 : lw_okq (⟨"DeficitCirclesModel", "record", "()V"⟩, 9) := ⟨⟨by decide +kernel, by decide +kernel⟩, List.mem_of_getElem? (i := 648) (by decide +kernel), List.mem_of_getElem? (i := 702) (by decide +kernel), List.mem_of_getElem? (i := 703) (by decide +kernel)⟩
theorem lw_p18 : lw_okq (⟨"DeficitCirclesModel", "noGroup", "(I)Z"⟩, 9) := ⟨⟨by decide +kernel, by decide +kernel⟩, List.mem_of_getElem? (i := 648) (by decide +kernel), List.mem_of_getElem? (i := 720) (by decide +kernel), List.mem_of_getElem? (i := 721) (by decide +kernel)⟩
theorem lw_p19 : lw_okq (⟨"DeficitCirclesModel", "set", "(II)I"⟩, 9) := ⟨⟨by decide +kernel, by decide +kernel⟩, List.mem_of_getElem? (i := 648) (by decide +kernel), List.mem_of_getElem? (i := 731) (by decide +kernel), List.mem_of_getElem? (i := 732) (by decide +kernel)⟩
theorem lw_p20 : lw_okq (⟨"DeficitCirclesModel", "noClass", "(I)Z"⟩, 9) := ⟨⟨by decide +kernel, by decide +kernel⟩, List.mem_of_getElem? (i := 648) (by decide +kernel), List.mem_of_getElem? (i := 739) (by decide +kernel), List.mem_of_getElem? (i := 740) (by decide +kernel)⟩
theorem lw_p21 : lw_okq (⟨"DeficitCirclesModel", "against", "(II)I"⟩, 9) := ⟨⟨by decide +kernel, by decide +kernel⟩, List.mem_of_getElem? (i := 648) (by decide +kernel), List.mem_of_getElem? (i := 751) (by decide +kernel), List.mem_of_getElem? (i := 752) (by decide +kernel)⟩
theorem lw_p22 : lw_okq (⟨"DeficitCirclesModel", "waiting", "(IIZ)I"⟩, 9) := ⟨⟨by decide +kernel, by decide +kernel⟩, List.mem_of_getElem? (i := 648) (by decide +kernel), List.mem_of_getElem? (i := 755) (by decide +kernel), List.mem_of_getElem? (i := 756) (by decide +kernel)⟩
theorem lw_p23 : lw_okq (⟨"DeficitCirclesModel", "waits", "(I)Z"⟩, 9) := ⟨⟨by decide +kernel, by decide +kernel⟩, List.mem_of_getElem? (i := 648) (by decide +kernel), List.mem_of_getElem? (i := 762) (by decide +kernel), List.mem_of_getElem? (i := 763) (by decide +kernel)⟩
theorem lw_p24 : lw_okq (⟨"DeficitCirclesModel", "come", "(II)I"⟩, 9) := ⟨⟨by decide +kernel, by decide +kernel⟩, List.mem_of_getElem? (i := 648) (by decide +kernel), List.mem_of_getElem? (i := 766) (by decide +kernel), List.mem_of_getElem? (i := 767) (by decide +kernel)⟩
theorem lw_p25 : lw_okq (⟨"DeficitCirclesModel", "tick", "()I"⟩, 9) := ⟨⟨by decide +kernel, by decide +kernel⟩, List.mem_of_getElem? (i := 648) (by decide +kernel), List.mem_of_getElem? (i := 774) (by decide +kernel), List.mem_of_getElem? (i := 775) (by decide +kernel)⟩
theorem lw_p26 : lw_okq (⟨"DeficitCirclesModel", "choose", "()I"⟩, 9) := ⟨⟨by decide +kernel, by decide +kernel⟩, List.mem_of_getElem? (i := 648) (by decide +kernel), List.mem_of_getElem? (i := 778) (by decide +kernel), List.mem_of_getElem? (i := 779) (by decide +kernel)⟩
theorem lw_p27 : lw_okq (⟨"DeficitCirclesModel", "firstOld", "()I"⟩, 9) := ⟨⟨by decide +kernel, by decide +kernel⟩, List.mem_of_getElem? (i := 648) (by decide +kernel), List.mem_of_getElem? (i := 782) (by decide +kernel), List.mem_of_getElem? (i := 783) (by decide +kernel)⟩
theorem lw_p28 : lw_okq (⟨"DeficitCirclesModel", "isOld", "(I)Z"⟩, 9) := ⟨⟨by decide +kernel, by decide +kernel⟩, List.mem_of_getElem? (i := 648) (by decide +kernel), List.mem_of_getElem? (i := 786) (by decide +kernel), List.mem_of_getElem? (i := 787) (by decide +kernel)⟩
theorem lw_p29 : lw_okq (⟨"DeficitCirclesModel", "nextGroup", "()I"⟩, 9) := ⟨⟨by decide +kernel, by decide +kernel⟩, List.mem_of_getElem? (i := 648) (by decide +kernel), List.mem_of_getElem? (i := 790) (by decide +kernel), List.mem_of_getElem? (i := 791) (by decide +kernel)⟩
theorem lw_p30 : lw_okq (⟨"DeficitCirclesModel", "canServeGroup", "(I)Z"⟩, 9) := ⟨⟨by decide +kernel, by decide +kernel⟩, List.mem_of_getElem? (i := 648) (by decide +kernel), List.mem_of_getElem? (i := 794) (by decide +kernel), List.mem_of_getElem? (i := 795) (by decide +kernel)⟩
theorem lw_p31 : lw_okq (⟨"DeficitCirclesModel", "isGroupBusy", "(I)Z"⟩, 9) := ⟨⟨by decide +kernel, by decide +kernel⟩, List.mem_of_getElem? (i := 648) (by decide +kernel), List.mem_of_getElem? (i := 798) (by decide +kernel), List.mem_of_getElem? (i := 799) (by decide +kernel)⟩
def lw_privs_2 : List (MethodName × Nat) := [(⟨"DeficitCirclesModel", "remember", "()V"⟩, 9), (⟨"DeficitCirclesModel", "record", "()V"⟩, 9), (⟨"DeficitCirclesModel", "noGroup", "(I)Z"⟩, 9), (⟨"DeficitCirclesModel", "set", "(II)I"⟩, 9), (⟨"DeficitCirclesModel", "noClass", "(I)Z"⟩, 9), (⟨"DeficitCirclesModel", "against", "(II)I"⟩, 9), (⟨"DeficitCirclesModel", "waiting", "(IIZ)I"⟩, 9), (⟨"DeficitCirclesModel", "waits", "(I)Z"⟩, 9), (⟨"DeficitCirclesModel", "come", "(II)I"⟩, 9), (⟨"DeficitCirclesModel", "tick", "()I"⟩, 9), (⟨"DeficitCirclesModel", "choose", "()I"⟩, 9), (⟨"DeficitCirclesModel", "firstOld", "()I"⟩, 9), (⟨"DeficitCirclesModel", "isOld", "(I)Z"⟩, 9), (⟨"DeficitCirclesModel", "nextGroup", "()I"⟩, 9), (⟨"DeficitCirclesModel", "canServeGroup", "(I)Z"⟩, 9), (⟨"DeficitCirclesModel", "isGroupBusy", "(I)Z"⟩, 9)]
theorem lw_r2 : ∀ q ∈ lw_privs_2, lw_okq q := List.forall_mem_cons.mpr ⟨lw_p16, List.forall_mem_cons.mpr ⟨lw_p17, List.forall_mem_cons.mpr ⟨lw_p18, List.forall_mem_cons.mpr ⟨lw_p19, List.forall_mem_cons.mpr ⟨lw_p20, List.forall_mem_cons.mpr ⟨lw_p21, List.forall_mem_cons.mpr ⟨lw_p22, List.forall_mem_cons.mpr ⟨lw_p23, List.forall_mem_cons.mpr ⟨lw_p24, List.forall_mem_cons.mpr ⟨lw_p25, List.forall_mem_cons.mpr ⟨lw_p26, List.forall_mem_cons.mpr ⟨lw_p27, List.forall_mem_cons.mpr ⟨lw_p28, List.forall_mem_cons.mpr ⟨lw_p29, List.forall_mem_cons.mpr ⟨lw_p30, List.forall_mem_cons.mpr ⟨lw_p31, fun _ h => absurd h List.not_mem_nil⟩⟩⟩⟩⟩⟩⟩⟩⟩⟩⟩⟩⟩⟩⟩⟩
theorem lw_p32 : lw_okq (⟨"DeficitCirclesModel", "isBusy", "(I)Z"⟩, 9) := ⟨⟨by decide +kernel, by decide +kernel⟩, List.mem_of_getElem? (i := 648) (by decide +kernel), List.mem_of_getElem? (i := 802) (by decide +kernel), List.mem_of_getElem? (i := 803) (by decide +kernel)⟩
theorem lw_p33 : lw_okq (⟨"DeficitCirclesModel", "firstOf", "(I)I"⟩, 9) := ⟨⟨by decide +kernel, by decide +kernel⟩, List.mem_of_getElem? (i := 648) (by decide +kernel), List.mem_of_getElem? (i := 806) (by decide +kernel), List.mem_of_getElem? (i := 807) (by decide +kernel)⟩
theorem lw_p34 : lw_okq (⟨"DeficitCirclesModel", "nextClass", "(I)I"⟩, 9) := ⟨⟨by decide +kernel, by decide +kernel⟩, List.mem_of_getElem? (i := 648) (by decide +kernel), List.mem_of_getElem? (i := 810) (by decide +kernel), List.mem_of_getElem? (i := 811) (by decide +kernel)⟩
theorem lw_p35 : lw_okq (⟨"DeficitCirclesModel", "canServe", "(I)Z"⟩, 9) := ⟨⟨by decide +kernel, by decide +kernel⟩, List.mem_of_getElem? (i := 648) (by decide +kernel), List.mem_of_getElem? (i := 814) (by decide +kernel), List.mem_of_getElem? (i := 815) (by decide +kernel)⟩
theorem lw_p36 : lw_okq (⟨"DeficitCirclesModel", "classBehind", "(II)I"⟩, 9) := ⟨⟨by decide +kernel, by decide +kernel⟩, List.mem_of_getElem? (i := 648) (by decide +kernel), List.mem_of_getElem? (i := 818) (by decide +kernel), List.mem_of_getElem? (i := 819) (by decide +kernel)⟩
theorem lw_p37 : lw_okq (⟨"DeficitCirclesModel", "jobs", "(Z)I"⟩, 9) := ⟨⟨by decide +kernel, by decide +kernel⟩, List.mem_of_getElem? (i := 648) (by decide +kernel), List.mem_of_getElem? (i := 838) (by decide +kernel), List.mem_of_getElem? (i := 839) (by decide +kernel)⟩
theorem lw_p38 : lw_okq (⟨"DeficitCirclesModel", "readJob", "(Z)I"⟩, 9) := ⟨⟨by decide +kernel, by decide +kernel⟩, List.mem_of_getElem? (i := 648) (by decide +kernel), List.mem_of_getElem? (i := 842) (by decide +kernel), List.mem_of_getElem? (i := 843) (by decide +kernel)⟩
theorem lw_p39 : lw_okq (⟨"DeficitCirclesModel", "sees", "(II)Z"⟩, 9) := ⟨⟨by decide +kernel, by decide +kernel⟩, List.mem_of_getElem? (i := 648) (by decide +kernel), List.mem_of_getElem? (i := 846) (by decide +kernel), List.mem_of_getElem? (i := 847) (by decide +kernel)⟩
theorem lw_p40 : lw_okq (⟨"DeficitCirclesModel", "goBack", "()V"⟩, 9) := ⟨⟨by decide +kernel, by decide +kernel⟩, List.mem_of_getElem? (i := 648) (by decide +kernel), List.mem_of_getElem? (i := 850) (by decide +kernel), List.mem_of_getElem? (i := 851) (by decide +kernel)⟩
theorem lw_p41 : lw_okq (⟨"DeficitCirclesModel", "noJob", "(I)Z"⟩, 9) := ⟨⟨by decide +kernel, by decide +kernel⟩, List.mem_of_getElem? (i := 648) (by decide +kernel), List.mem_of_getElem? (i := 867) (by decide +kernel), List.mem_of_getElem? (i := 868) (by decide +kernel)⟩
theorem lw_p42 : lw_okq (⟨"DeficitCirclesModel", "serveOut", "()V"⟩, 9) := ⟨⟨by decide +kernel, by decide +kernel⟩, List.mem_of_getElem? (i := 648) (by decide +kernel), List.mem_of_getElem? (i := 875) (by decide +kernel), List.mem_of_getElem? (i := 876) (by decide +kernel)⟩
theorem lw_p43 : lw_okq (⟨"DeficitCirclesModel", "jobsThat", "(Z)I"⟩, 9) := ⟨⟨by decide +kernel, by decide +kernel⟩, List.mem_of_getElem? (i := 648) (by decide +kernel), List.mem_of_getElem? (i := 896) (by decide +kernel), List.mem_of_getElem? (i := 897) (by decide +kernel)⟩
def lw_privs_3 : List (MethodName × Nat) := [(⟨"DeficitCirclesModel", "isBusy", "(I)Z"⟩, 9), (⟨"DeficitCirclesModel", "firstOf", "(I)I"⟩, 9), (⟨"DeficitCirclesModel", "nextClass", "(I)I"⟩, 9), (⟨"DeficitCirclesModel", "canServe", "(I)Z"⟩, 9), (⟨"DeficitCirclesModel", "classBehind", "(II)I"⟩, 9), (⟨"DeficitCirclesModel", "jobs", "(Z)I"⟩, 9), (⟨"DeficitCirclesModel", "readJob", "(Z)I"⟩, 9), (⟨"DeficitCirclesModel", "sees", "(II)Z"⟩, 9), (⟨"DeficitCirclesModel", "goBack", "()V"⟩, 9), (⟨"DeficitCirclesModel", "noJob", "(I)Z"⟩, 9), (⟨"DeficitCirclesModel", "serveOut", "()V"⟩, 9), (⟨"DeficitCirclesModel", "jobsThat", "(Z)I"⟩, 9)]
theorem lw_r3 : ∀ q ∈ lw_privs_3, lw_okq q := List.forall_mem_cons.mpr ⟨lw_p32, List.forall_mem_cons.mpr ⟨lw_p33, List.forall_mem_cons.mpr ⟨lw_p34, List.forall_mem_cons.mpr ⟨lw_p35, List.forall_mem_cons.mpr ⟨lw_p36, List.forall_mem_cons.mpr ⟨lw_p37, List.forall_mem_cons.mpr ⟨lw_p38, List.forall_mem_cons.mpr ⟨lw_p39, List.forall_mem_cons.mpr ⟨lw_p40, List.forall_mem_cons.mpr ⟨lw_p41, List.forall_mem_cons.mpr ⟨lw_p42, List.forall_mem_cons.mpr ⟨lw_p43, fun _ h => absurd h List.not_mem_nil⟩⟩⟩⟩⟩⟩⟩⟩⟩⟩⟩⟩
def lw_privs : List (MethodName × Nat) := lw_privs_1 ++ (lw_privs_2 ++ (lw_privs_3))
def lw_tbl : List Cond := k2_sels lw_privs ++ tables_1
theorem lw_privs_ok : ∀ q ∈ lw_privs, lw_okq q := by
  show ∀ q ∈ lw_privs_1 ++ (lw_privs_2 ++ (lw_privs_3)), lw_okq q
  exact List.forall_mem_append.mpr ⟨lw_r1, List.forall_mem_append.mpr ⟨lw_r2, lw_r3⟩⟩
-- ===== names, out of the claim's printed names =====
def RX0 : String := "DeficitCircles$Classes"
def TX0 : u_T := fun k => match k with
  | 0 => ("DeficitCircles$Classes", "held", "I", false)
  | 1 => ("DeficitCircles$Classes", "group", "[I", true)
  | 2 => ("DeficitCircles$Classes", "quantum", "[I", true)
  | 3 => ("DeficitCircles$Classes", "deficit", "[I", true)
  | 4 => ("DeficitCircles$Classes", "bucket", "[I", true)
  | 5 => ("DeficitCircles$Classes", "fill", "[I", true)
  | 6 => ("DeficitCircles$Classes", "tokens", "[I", true)
  | 7 => ("DeficitCircles$Classes", "age", "[I", true)
  | 8 => ("DeficitCircles$Classes", "longestWait", "[I", true)
  | _ => ("DeficitCircles$Classes", "units", "[I", true)
def tyX0 : Nat → FieldType := fun k => match k with
  | 0 => .int
  | 1 => .array .int
  | 2 => .array .int
  | 3 => .array .int
  | 4 => .array .int
  | 5 => .array .int
  | 6 => .array .int
  | 7 => .array .int
  | 8 => .array .int
  | _ => .array .int
abbrev wsX00 : List Cond := u_ws RX0 TX0 10
theorem nmX0 : ∀ a, a < 10 → ∀ b, b < 10 → a ≠ b → (TX0 a).2.1 ≠ (TX0 b).2.1 := by decide +kernel
theorem tyX0_ok : ∀ k, k < 10 → parseFieldDescriptor (TX0 k).2.2.1 = some (tyX0 k) := by decide +kernel
abbrev cX0_init : ByteArray := prog_2_method_1_code
def yX0_init : MethodName := ⟨RX0, "<init>", "()V"⟩
abbrev cX0_has : ByteArray := prog_2_method_2_code
def yX0_has : MethodName := ⟨RX0, "has", "(I)Z"⟩
abbrev cX0_append : ByteArray := prog_2_method_3_code
def yX0_append : MethodName := ⟨RX0, "append", "(IIII)I"⟩
abbrev cX0_fillBuckets : ByteArray := prog_2_method_4_code
def yX0_fillBuckets : MethodName := ⟨RX0, "fillBuckets", "(I)V"⟩
abbrev cX0_takeUnits : ByteArray := prog_2_method_5_code
def yX0_takeUnits : MethodName := ⟨RX0, "takeUnits", "()I"⟩
abbrev cX0_heldOf : ByteArray := prog_2_method_6_code
def yX0_heldOf : MethodName := ⟨RX0, "heldOf", "(I)I"⟩
abbrev cX0_unitsOf : ByteArray := prog_2_method_7_code
def yX0_unitsOf : MethodName := ⟨RX0, "unitsOf", "(I)I"⟩
abbrev cX0_copyFrom : ByteArray := prog_2_method_8_code
def yX0_copyFrom : MethodName := ⟨RX0, "copyFrom", "(LDeficitCircles$Classes;)V"⟩
def RX1 : String := "DeficitCircles$Groups"
def TX1 : u_T := fun k => match k with
  | 0 => ("DeficitCircles$Groups", "held", "I", false)
  | 1 => ("DeficitCircles$Groups", "quantum", "[I", true)
  | 2 => ("DeficitCircles$Groups", "deficit", "[I", true)
  | _ => ("DeficitCircles$Groups", "present", "[I", true)
def tyX1 : Nat → FieldType := fun k => match k with
  | 0 => .int
  | 1 => .array .int
  | 2 => .array .int
  | _ => .array .int
abbrev wsX10 : List Cond := u_ws RX1 TX1 4
theorem nmX1 : ∀ a, a < 4 → ∀ b, b < 4 → a ≠ b → (TX1 a).2.1 ≠ (TX1 b).2.1 := by decide +kernel
theorem tyX1_ok : ∀ k, k < 4 → parseFieldDescriptor (TX1 k).2.2.1 = some (tyX1 k) := by decide +kernel
abbrev cX1_init : ByteArray := prog_3_method_1_code
def yX1_init : MethodName := ⟨RX1, "<init>", "()V"⟩
abbrev cX1_has : ByteArray := prog_3_method_2_code
def yX1_has : MethodName := ⟨RX1, "has", "(I)Z"⟩
abbrev cX1_append : ByteArray := prog_3_method_3_code
def yX1_append : MethodName := ⟨RX1, "append", "(I)I"⟩
abbrev cX1_copyFrom : ByteArray := prog_3_method_4_code
def yX1_copyFrom : MethodName := ⟨RX1, "copyFrom", "(LDeficitCircles$Groups;)V"⟩
def RX2 : String := "DeficitCircles$History"
def TX2 : u_T := fun k => match k with
  | 0 => ("DeficitCircles$History", "length", "I", false)
  | _ => ("DeficitCircles$History", "states", "[LDeficitCircles$State;", true)
def tyX2 : Nat → FieldType := fun k => match k with
  | 0 => .int
  | _ => .array (.object "DeficitCircles$State")
abbrev wsX20 : List Cond := u_ws RX2 TX2 2
theorem nmX2 : ∀ a, a < 2 → ∀ b, b < 2 → a ≠ b → (TX2 a).2.1 ≠ (TX2 b).2.1 := by decide +kernel
theorem tyX2_ok : ∀ k, k < 2 → parseFieldDescriptor (TX2 k).2.2.1 = some (tyX2 k) := by decide +kernel
abbrev cX2_init : ByteArray := prog_4_method_1_code
def yX2_init : MethodName := ⟨RX2, "<init>", "()V"⟩
abbrev cX2_push : ByteArray := prog_4_method_2_code
def yX2_push : MethodName := ⟨RX2, "push", "(LDeficitCircles$State;)V"⟩
abbrev cX2_takeLatest : ByteArray := prog_4_method_3_code
def yX2_takeLatest : MethodName := ⟨RX2, "takeLatest", "(LDeficitCircles$State;)V"⟩
abbrev cX2_dropOldest : ByteArray := prog_4_method_4_code
def yX2_dropOldest : MethodName := ⟨RX2, "dropOldest", "()V"⟩
abbrev cX2_roomAt : ByteArray := prog_4_method_5_code
def yX2_roomAt : MethodName := ⟨RX2, "roomAt", "(I)LDeficitCircles$State;"⟩
def RX3 : String := "DeficitCircles$Jobs"
def TX3 : u_T := fun k => match k with
  | 0 => ("DeficitCircles$Jobs", "held", "I", false)
  | 1 => ("DeficitCircles$Jobs", "ofClass", "[I", true)
  | 2 => ("DeficitCircles$Jobs", "size", "[I", true)
  | 3 => ("DeficitCircles$Jobs", "came", "[I", true)
  | 4 => ("DeficitCircles$Jobs", "began", "[I", true)
  | 5 => ("DeficitCircles$Jobs", "waits", "I", false)
  | _ => ("DeficitCircles$Jobs", "line", "[I", true)
def tyX3 : Nat → FieldType := fun k => match k with
  | 0 => .int
  | 1 => .array .int
  | 2 => .array .int
  | 3 => .array .int
  | 4 => .array .int
  | 5 => .int
  | _ => .array .int
abbrev wsX30 : List Cond := u_ws RX3 TX3 7
theorem nmX3 : ∀ a, a < 7 → ∀ b, b < 7 → a ≠ b → (TX3 a).2.1 ≠ (TX3 b).2.1 := by decide +kernel
theorem tyX3_ok : ∀ k, k < 7 → parseFieldDescriptor (TX3 k).2.2.1 = some (tyX3 k) := by decide +kernel
abbrev cX3_init : ByteArray := prog_5_method_1_code
def yX3_init : MethodName := ⟨RX3, "<init>", "()V"⟩
abbrev cX3_has : ByteArray := prog_5_method_2_code
def yX3_has : MethodName := ⟨RX3, "has", "(I)Z"⟩
abbrev cX3_isWaiting : ByteArray := prog_5_method_3_code
def yX3_isWaiting : MethodName := ⟨RX3, "isWaiting", "(I)Z"⟩
abbrev cX3_isFull : ByteArray := prog_5_method_4_code
def yX3_isFull : MethodName := ⟨RX3, "isFull", "()Z"⟩
abbrev cX3_append : ByteArray := prog_5_method_5_code
def yX3_append : MethodName := ⟨RX3, "append", "(III)I"⟩
abbrev cX3_waitingAt : ByteArray := prog_5_method_6_code
def yX3_waitingAt : MethodName := ⟨RX3, "waitingAt", "(I)I"⟩
abbrev cX3_leaveLine : ByteArray := prog_5_method_7_code
def yX3_leaveLine : MethodName := ⟨RX3, "leaveLine", "(I)V"⟩
abbrev cX3_firstOf : ByteArray := prog_5_method_8_code
def yX3_firstOf : MethodName := ⟨RX3, "firstOf", "(I)I"⟩
abbrev cX3_waitsOf : ByteArray := prog_5_method_9_code
def yX3_waitsOf : MethodName := ⟨RX3, "waitsOf", "(I)I"⟩
abbrev cX3_sizesOf : ByteArray := prog_5_method_10_code
def yX3_sizesOf : MethodName := ⟨RX3, "sizesOf", "(I)I"⟩
abbrev cX3_allSizes : ByteArray := prog_5_method_11_code
def yX3_allSizes : MethodName := ⟨RX3, "allSizes", "()I"⟩
abbrev cX3_sizesAheadOf : ByteArray := prog_5_method_12_code
def yX3_sizesAheadOf : MethodName := ⟨RX3, "sizesAheadOf", "(I)I"⟩
abbrev cX3_copyFrom : ByteArray := prog_5_method_13_code
def yX3_copyFrom : MethodName := ⟨RX3, "copyFrom", "(LDeficitCircles$Jobs;)V"⟩
def RX4 : String := "DeficitCircles$State"
def TX4 : u_T := fun k => match k with
  | 0 => ("DeficitCircles$State", "groups", "LDeficitCircles$Groups;", true)
  | 1 => ("DeficitCircles$State", "classes", "LDeficitCircles$Classes;", true)
  | 2 => ("DeficitCircles$State", "jobs", "LDeficitCircles$Jobs;", true)
  | 3 => ("DeficitCircles$State", "time", "I", false)
  | 4 => ("DeficitCircles$State", "presentGroup", "I", false)
  | 5 => ("DeficitCircles$State", "inService", "I", false)
  | 6 => ("DeficitCircles$State", "left", "I", false)
  | 7 => ("DeficitCircles$State", "idleTicks", "I", false)
  | _ => ("DeficitCircles$State", "servedWhenOld", "I", false)
def tyX4 : Nat → FieldType := fun k => match k with
  | 0 => .object "DeficitCircles$Groups"
  | 1 => .object "DeficitCircles$Classes"
  | 2 => .object "DeficitCircles$Jobs"
  | 3 => .int
  | 4 => .int
  | 5 => .int
  | 6 => .int
  | 7 => .int
  | _ => .int
abbrev wsX40 : List Cond := u_ws RX4 TX4 9
theorem nmX4 : ∀ a, a < 9 → ∀ b, b < 9 → a ≠ b → (TX4 a).2.1 ≠ (TX4 b).2.1 := by decide +kernel
theorem tyX4_ok : ∀ k, k < 9 → parseFieldDescriptor (TX4 k).2.2.1 = some (tyX4 k) := by decide +kernel
abbrev cX4_init : ByteArray := prog_6_method_1_code
def yX4_init : MethodName := ⟨RX4, "<init>", "()V"⟩
abbrev cX4_copyFrom : ByteArray := prog_6_method_2_code
def yX4_copyFrom : MethodName := ⟨RX4, "copyFrom", "(LDeficitCircles$State;)V"⟩
abbrev cX4_whyNotAdmit : ByteArray := prog_6_method_3_code
def yX4_whyNotAdmit : MethodName := ⟨RX4, "whyNotAdmit", "(II)I"⟩
abbrev cX4_admit : ByteArray := prog_6_method_4_code
def yX4_admit : MethodName := ⟨RX4, "admit", "(II)I"⟩
abbrev cX4_begin : ByteArray := prog_6_method_5_code
def yX4_begin : MethodName := ⟨RX4, "begin", "(I)V"⟩
abbrev cX4_noteWait : ByteArray := prog_6_method_6_code
def yX4_noteWait : MethodName := ⟨RX4, "noteWait", "(II)V"⟩
abbrev cX4_payFromClass : ByteArray := prog_6_method_7_code
def yX4_payFromClass : MethodName := ⟨RX4, "payFromClass", "(II)V"⟩
abbrev cX4_payFromGroup : ByteArray := prog_6_method_8_code
def yX4_payFromGroup : MethodName := ⟨RX4, "payFromGroup", "(II)V"⟩
abbrev cX4_serveUnit : ByteArray := prog_6_method_9_code
def yX4_serveUnit : MethodName := ⟨RX4, "serveUnit", "()I"⟩
abbrev cX4_ageFor : ByteArray := prog_6_method_10_code
def yX4_ageFor : MethodName := ⟨RX4, "ageFor", "(I)I"⟩
abbrev cX4_isOld : ByteArray := prog_6_method_11_code
def yX4_isOld : MethodName := ⟨RX4, "isOld", "(I)Z"⟩
abbrev cX4_firstOld : ByteArray := prog_6_method_12_code
def yX4_firstOld : MethodName := ⟨RX4, "firstOld", "()I"⟩
abbrev cX4_oldJobs : ByteArray := prog_6_method_13_code
def yX4_oldJobs : MethodName := ⟨RX4, "oldJobs", "()I"⟩
abbrev cX4_groupFor : ByteArray := prog_6_method_14_code
def yX4_groupFor : MethodName := ⟨RX4, "groupFor", "(I)I"⟩
abbrev cX4_waitsOfGroup : ByteArray := prog_6_method_15_code
def yX4_waitsOfGroup : MethodName := ⟨RX4, "waitsOfGroup", "(I)I"⟩
abbrev cX4_sizesOfGroup : ByteArray := prog_6_method_16_code
def yX4_sizesOfGroup : MethodName := ⟨RX4, "sizesOfGroup", "(I)I"⟩
abbrev cX4_stageOf : ByteArray := prog_6_method_17_code
def yX4_stageOf : MethodName := ⟨RX4, "stageOf", "(I)I"⟩
abbrev cX4_endOf : ByteArray := prog_6_method_18_code
def yX4_endOf : MethodName := ⟨RX4, "endOf", "(I)I"⟩
abbrev cX4_leftOf : ByteArray := prog_6_method_19_code
def yX4_leftOf : MethodName := ⟨RX4, "leftOf", "(I)I"⟩
abbrev cX4_doneOf : ByteArray := prog_6_method_20_code
def yX4_doneOf : MethodName := ⟨RX4, "doneOf", "(I)I"⟩
abbrev cX4_doneJobs : ByteArray := prog_6_method_21_code
def yX4_doneJobs : MethodName := ⟨RX4, "doneJobs", "()I"⟩
def RX5 : String := "DeficitCircles$Text"
def TX5 : u_T := fun k => match k with
  | 0 => ("DeficitCircles$Text", "length", "I", false)
  | _ => ("DeficitCircles$Text", "signs", "[C", true)
def tyX5 : Nat → FieldType := fun k => match k with
  | 0 => .int
  | _ => .array .char
abbrev wsX50 : List Cond := u_ws RX5 TX5 2
theorem nmX5 : ∀ a, a < 2 → ∀ b, b < 2 → a ≠ b → (TX5 a).2.1 ≠ (TX5 b).2.1 := by decide +kernel
theorem tyX5_ok : ∀ k, k < 2 → parseFieldDescriptor (TX5 k).2.2.1 = some (tyX5 k) := by decide +kernel
abbrev cX5_init : ByteArray := prog_7_method_1_code
def yX5_init : MethodName := ⟨RX5, "<init>", "()V"⟩
abbrev cX5_append : ByteArray := prog_7_method_2_code
def yX5_append : MethodName := ⟨RX5, "append", "(C)I"⟩
abbrev cX5_fault : ByteArray := prog_7_method_3_code
def yX5_fault : MethodName := ⟨RX5, "fault", "()I"⟩
abbrev cX5_partAfter : ByteArray := prog_7_method_4_code
def yX5_partAfter : MethodName := ⟨RX5, "partAfter", "(IC)I"⟩
abbrev cX5_digitAt : ByteArray := prog_7_method_5_code
def yX5_digitAt : MethodName := ⟨RX5, "digitAt", "(I)I"⟩
abbrev cX5_sizeAt : ByteArray := prog_7_method_6_code
def yX5_sizeAt : MethodName := ⟨RX5, "sizeAt", "(I)I"⟩
def RX6 : String := "DeficitCircles$Turns"
def TX6 : u_T := fun k => match k with
  | 0 => ("DeficitCircles$Turns", "classNeed", "[I", true)
  | 1 => ("DeficitCircles$Turns", "groupNeed", "[I", true)
  | _ => ("DeficitCircles$Turns", "groupBusy", "[Z", true)
def tyX6 : Nat → FieldType := fun k => match k with
  | 0 => .array .int
  | 1 => .array .int
  | _ => .array .boolean
abbrev wsX60 : List Cond := u_ws RX6 TX6 3
theorem nmX6 : ∀ a, a < 3 → ∀ b, b < 3 → a ≠ b → (TX6 a).2.1 ≠ (TX6 b).2.1 := by decide +kernel
theorem tyX6_ok : ∀ k, k < 3 → parseFieldDescriptor (TX6 k).2.2.1 = some (tyX6 k) := by decide +kernel
abbrev cX6_init : ByteArray := prog_8_method_1_code
def yX6_init : MethodName := ⟨RX6, "<init>", "()V"⟩
abbrev cX6_nextJob : ByteArray := prog_8_method_2_code
def yX6_nextJob : MethodName := ⟨RX6, "nextJob", "(LDeficitCircles$State;)I"⟩
abbrev cX6_noteFirstJobs : ByteArray := prog_8_method_3_code
def yX6_noteFirstJobs : MethodName := ⟨RX6, "noteFirstJobs", "(LDeficitCircles$State;)V"⟩
abbrev cX6_noteJob : ByteArray := prog_8_method_4_code
def yX6_noteJob : MethodName := ⟨RX6, "noteJob", "(LDeficitCircles$State;I)V"⟩
abbrev cX6_presentGroupIsNext : ByteArray := prog_8_method_5_code
def yX6_presentGroupIsNext : MethodName := ⟨RX6, "presentGroupIsNext", "(LDeficitCircles$State;)Z"⟩
abbrev cX6_walkGroups : ByteArray := prog_8_method_6_code
def yX6_walkGroups : MethodName := ⟨RX6, "walkGroups", "(LDeficitCircles$State;)Z"⟩
abbrev cX6_skipGroupRounds : ByteArray := prog_8_method_7_code
def yX6_skipGroupRounds : MethodName := ⟨RX6, "skipGroupRounds", "(LDeficitCircles$State;)V"⟩
abbrev cX6_lookAt : ByteArray := prog_8_method_8_code
def yX6_lookAt : MethodName := ⟨RX6, "lookAt", "(LDeficitCircles$State;I)I"⟩
abbrev cX6_walkClasses : ByteArray := prog_8_method_9_code
def yX6_walkClasses : MethodName := ⟨RX6, "walkClasses", "(LDeficitCircles$State;I)Z"⟩
abbrev cX6_skipClassRounds : ByteArray := prog_8_method_10_code
def yX6_skipClassRounds : MethodName := ⟨RX6, "skipClassRounds", "(LDeficitCircles$State;I)V"⟩
abbrev cX6_roundsBelow : ByteArray := prog_8_method_11_code
def yX6_roundsBelow : MethodName := ⟨RX6, "roundsBelow", "(III)I"⟩
def RX7 : String := "DeficitCircles"
def TX7 : u_T := fun k => match k with
  | 0 => ("DeficitCircles", "state", "LDeficitCircles$State;", true)
  | 1 => ("DeficitCircles", "snapshot", "LDeficitCircles$State;", true)
  | 2 => ("DeficitCircles", "hasSnapshot", "Z", false)
  | 3 => ("DeficitCircles", "trial", "LDeficitCircles$State;", true)
  | 4 => ("DeficitCircles", "history", "LDeficitCircles$History;", true)
  | 5 => ("DeficitCircles", "text", "LDeficitCircles$Text;", true)
  | _ => ("DeficitCircles", "turns", "LDeficitCircles$Turns;", true)
def tyX7 : Nat → FieldType := fun k => match k with
  | 0 => .object "DeficitCircles$State"
  | 1 => .object "DeficitCircles$State"
  | 2 => .boolean
  | 3 => .object "DeficitCircles$State"
  | 4 => .object "DeficitCircles$History"
  | 5 => .object "DeficitCircles$Text"
  | _ => .object "DeficitCircles$Turns"
abbrev wsX70 : List Cond := u_ws RX7 TX7 7
theorem nmX7 : ∀ a, a < 7 → ∀ b, b < 7 → a ≠ b → (TX7 a).2.1 ≠ (TX7 b).2.1 := by decide +kernel
theorem tyX7_ok : ∀ k, k < 7 → parseFieldDescriptor (TX7 k).2.2.1 = some (tyX7 k) := by decide +kernel
abbrev cX7_init : ByteArray := prog_1_method_1_code
def yX7_init : MethodName := ⟨RX7, "<init>", "()V"⟩
abbrev cX7_addGroup : ByteArray := prog_1_method_2_code
def yX7_addGroup : MethodName := ⟨RX7, "addGroup", "(I)I"⟩
abbrev cX7_addClass : ByteArray := prog_1_method_3_code
def yX7_addClass : MethodName := ⟨RX7, "addClass", "(IIII)I"⟩
abbrev cX7_setGroupQuantum : ByteArray := prog_1_method_4_code
def yX7_setGroupQuantum : MethodName := ⟨RX7, "setGroupQuantum", "(II)I"⟩
abbrev cX7_setQuantum : ByteArray := prog_1_method_5_code
def yX7_setQuantum : MethodName := ⟨RX7, "setQuantum", "(II)I"⟩
abbrev cX7_setAge : ByteArray := prog_1_method_6_code
def yX7_setAge : MethodName := ⟨RX7, "setAge", "(II)I"⟩
abbrev cX7_add : ByteArray := prog_1_method_7_code
def yX7_add : MethodName := ⟨RX7, "add", "(II)I"⟩
abbrev cX7_pass : ByteArray := prog_1_method_8_code
def yX7_pass : MethodName := ⟨RX7, "pass", "(I)I"⟩
abbrev cX7_mark : ByteArray := prog_1_method_9_code
def yX7_mark : MethodName := ⟨RX7, "mark", "()I"⟩
abbrev cX7_type : ByteArray := prog_1_method_10_code
def yX7_type : MethodName := ⟨RX7, "type", "(C)I"⟩
abbrev cX7_clearText : ByteArray := prog_1_method_11_code
def yX7_clearText : MethodName := ⟨RX7, "clearText", "()I"⟩
abbrev cX7_readJobs : ByteArray := prog_1_method_12_code
def yX7_readJobs : MethodName := ⟨RX7, "readJobs", "()I"⟩
abbrev cX7_undo : ByteArray := prog_1_method_13_code
def yX7_undo : MethodName := ⟨RX7, "undo", "()I"⟩
abbrev cX7_keep : ByteArray := prog_1_method_14_code
def yX7_keep : MethodName := ⟨RX7, "keep", "()I"⟩
abbrev cX7_restore : ByteArray := prog_1_method_15_code
def yX7_restore : MethodName := ⟨RX7, "restore", "()I"⟩
abbrev cX7_group : ByteArray := prog_1_method_16_code
def yX7_group : MethodName := ⟨RX7, "group", "(II)I"⟩
abbrev cX7_classOf : ByteArray := prog_1_method_17_code
def yX7_classOf : MethodName := ⟨RX7, "classOf", "(II)I"⟩
abbrev cX7_job : ByteArray := prog_1_method_18_code
def yX7_job : MethodName := ⟨RX7, "job", "(II)I"⟩
abbrev cX7_served : ByteArray := prog_1_method_19_code
def yX7_served : MethodName := ⟨RX7, "served", "(I)I"⟩
abbrev cX7_beginsAt : ByteArray := prog_1_method_20_code
def yX7_beginsAt : MethodName := ⟨RX7, "beginsAt", "(I)I"⟩
abbrev cX7_bound : ByteArray := prog_1_method_21_code
def yX7_bound : MethodName := ⟨RX7, "bound", "(I)I"⟩
abbrev cX7_shares : ByteArray := prog_1_method_22_code
def yX7_shares : MethodName := ⟨RX7, "shares", "(II)I"⟩
abbrev cX7_count : ByteArray := prog_1_method_23_code
def yX7_count : MethodName := ⟨RX7, "count", "(I)I"⟩
abbrev cX7_isWithin : ByteArray := prog_1_method_24_code
def yX7_isWithin : MethodName := ⟨RX7, "isWithin", "(III)Z"⟩
abbrev cX7_isQuantum : ByteArray := prog_1_method_25_code
def yX7_isQuantum : MethodName := ⟨RX7, "isQuantum", "(I)Z"⟩
abbrev cX7_passTick : ByteArray := prog_1_method_26_code
def yX7_passTick : MethodName := ⟨RX7, "passTick", "()I"⟩
abbrev cX7_beginAhead : ByteArray := prog_1_method_27_code
def yX7_beginAhead : MethodName := ⟨RX7, "beginAhead", "(I)I"⟩
def RX8 : String := "DeficitCirclesModel"
def TX8 : u_T := fun k => match k with
  | 0 => ("DeficitCirclesModel", "row", "[I", true)
  | 1 => ("DeficitCirclesModel", "past", "[I", true)
  | 2 => ("DeficitCirclesModel", "aside", "[I", true)
  | 3 => ("DeficitCirclesModel", "before", "[I", true)
  | 4 => ("DeficitCirclesModel", "states", "I", false)
  | 5 => ("DeficitCirclesModel", "isAside", "Z", false)
  | 6 => ("DeficitCirclesModel", "text", "[C", true)
  | 7 => ("DeficitCirclesModel", "length", "I", false)
  | _ => ("DeficitCirclesModel", "at", "I", false)
def tyX8 : Nat → FieldType := fun k => match k with
  | 0 => .array .int
  | 1 => .array .int
  | 2 => .array .int
  | 3 => .array .int
  | 4 => .int
  | 5 => .boolean
  | 6 => .array .char
  | 7 => .int
  | _ => .int
abbrev wsX80 : List Cond := u_ws RX8 TX8 9
theorem nmX8 : ∀ a, a < 9 → ∀ b, b < 9 → a ≠ b → (TX8 a).2.1 ≠ (TX8 b).2.1 := by decide +kernel
theorem tyX8_ok : ∀ k, k < 9 → parseFieldDescriptor (TX8 k).2.2.1 = some (tyX8 k) := by decide +kernel
abbrev cX8_init : ByteArray := prog_10_method_1_code
def yX8_init : MethodName := ⟨RX8, "<init>", "()V"⟩
abbrev cX8_in : ByteArray := prog_10_method_2_code
def yX8_in : MethodName := ⟨RX8, "in", "(III)Z"⟩
abbrev cX8_remember : ByteArray := prog_10_method_3_code
def yX8_remember : MethodName := ⟨RX8, "remember", "()V"⟩
abbrev cX8_goBack : ByteArray := prog_10_method_4_code
def yX8_goBack : MethodName := ⟨RX8, "goBack", "()V"⟩
abbrev cX8_record : ByteArray := prog_10_method_5_code
def yX8_record : MethodName := ⟨RX8, "record", "()V"⟩
abbrev cX8_begin : ByteArray := prog_10_method_6_code
def yX8_begin : MethodName := ⟨RX8, "begin", "()V"⟩
abbrev cX8_undo : ByteArray := prog_10_method_7_code
def yX8_undo : MethodName := ⟨RX8, "undo", "()I"⟩
abbrev cX8_keep : ByteArray := prog_10_method_8_code
def yX8_keep : MethodName := ⟨RX8, "keep", "()I"⟩
abbrev cX8_restore : ByteArray := prog_10_method_9_code
def yX8_restore : MethodName := ⟨RX8, "restore", "()I"⟩
abbrev cX8_noGroup : ByteArray := prog_10_method_10_code
def yX8_noGroup : MethodName := ⟨RX8, "noGroup", "(I)Z"⟩
abbrev cX8_noClass : ByteArray := prog_10_method_11_code
def yX8_noClass : MethodName := ⟨RX8, "noClass", "(I)Z"⟩
abbrev cX8_noJob : ByteArray := prog_10_method_12_code
def yX8_noJob : MethodName := ⟨RX8, "noJob", "(I)Z"⟩
abbrev cX8_party : ByteArray := prog_10_method_13_code
def yX8_party : MethodName := ⟨RX8, "party", "(I)I"⟩
abbrev cX8_kind : ByteArray := prog_10_method_14_code
def yX8_kind : MethodName := ⟨RX8, "kind", "(I)I"⟩
abbrev cX8_its : ByteArray := prog_10_method_15_code
def yX8_its : MethodName := ⟨RX8, "its", "(I)I"⟩
abbrev cX8_waits : ByteArray := prog_10_method_16_code
def yX8_waits : MethodName := ⟨RX8, "waits", "(I)Z"⟩
abbrev cX8_firstOf : ByteArray := prog_10_method_17_code
def yX8_firstOf : MethodName := ⟨RX8, "firstOf", "(I)I"⟩
abbrev cX8_isBusy : ByteArray := prog_10_method_18_code
def yX8_isBusy : MethodName := ⟨RX8, "isBusy", "(I)Z"⟩
abbrev cX8_isGroupBusy : ByteArray := prog_10_method_19_code
def yX8_isGroupBusy : MethodName := ⟨RX8, "isGroupBusy", "(I)Z"⟩
abbrev cX8_waiting : ByteArray := prog_10_method_20_code
def yX8_waiting : MethodName := ⟨RX8, "waiting", "(IIZ)I"⟩
abbrev cX8_isOld : ByteArray := prog_10_method_21_code
def yX8_isOld : MethodName := ⟨RX8, "isOld", "(I)Z"⟩
abbrev cX8_addGroup : ByteArray := prog_10_method_22_code
def yX8_addGroup : MethodName := ⟨RX8, "addGroup", "(I)I"⟩
abbrev cX8_addClass : ByteArray := prog_10_method_23_code
def yX8_addClass : MethodName := ⟨RX8, "addClass", "(IIII)I"⟩
abbrev cX8_set : ByteArray := prog_10_method_24_code
def yX8_set : MethodName := ⟨RX8, "set", "(II)I"⟩
abbrev cX8_setGroupQuantum : ByteArray := prog_10_method_25_code
def yX8_setGroupQuantum : MethodName := ⟨RX8, "setGroupQuantum", "(II)I"⟩
abbrev cX8_setQuantum : ByteArray := prog_10_method_26_code
def yX8_setQuantum : MethodName := ⟨RX8, "setQuantum", "(II)I"⟩
abbrev cX8_setAge : ByteArray := prog_10_method_27_code
def yX8_setAge : MethodName := ⟨RX8, "setAge", "(II)I"⟩
abbrev cX8_against : ByteArray := prog_10_method_28_code
def yX8_against : MethodName := ⟨RX8, "against", "(II)I"⟩
abbrev cX8_come : ByteArray := prog_10_method_29_code
def yX8_come : MethodName := ⟨RX8, "come", "(II)I"⟩
abbrev cX8_add : ByteArray := prog_10_method_30_code
def yX8_add : MethodName := ⟨RX8, "add", "(II)I"⟩
abbrev cX8_classBehind : ByteArray := prog_10_method_31_code
def yX8_classBehind : MethodName := ⟨RX8, "classBehind", "(II)I"⟩
abbrev cX8_canServe : ByteArray := prog_10_method_32_code
def yX8_canServe : MethodName := ⟨RX8, "canServe", "(I)Z"⟩
abbrev cX8_nextClass : ByteArray := prog_10_method_33_code
def yX8_nextClass : MethodName := ⟨RX8, "nextClass", "(I)I"⟩
abbrev cX8_canServeGroup : ByteArray := prog_10_method_34_code
def yX8_canServeGroup : MethodName := ⟨RX8, "canServeGroup", "(I)Z"⟩
abbrev cX8_nextGroup : ByteArray := prog_10_method_35_code
def yX8_nextGroup : MethodName := ⟨RX8, "nextGroup", "()I"⟩
abbrev cX8_firstOld : ByteArray := prog_10_method_36_code
def yX8_firstOld : MethodName := ⟨RX8, "firstOld", "()I"⟩
abbrev cX8_choose : ByteArray := prog_10_method_37_code
def yX8_choose : MethodName := ⟨RX8, "choose", "()I"⟩
abbrev cX8_tick : ByteArray := prog_10_method_38_code
def yX8_tick : MethodName := ⟨RX8, "tick", "()I"⟩
abbrev cX8_pass : ByteArray := prog_10_method_39_code
def yX8_pass : MethodName := ⟨RX8, "pass", "(I)I"⟩
abbrev cX8_mark : ByteArray := prog_10_method_40_code
def yX8_mark : MethodName := ⟨RX8, "mark", "()I"⟩
abbrev cX8_type : ByteArray := prog_10_method_41_code
def yX8_type : MethodName := ⟨RX8, "type", "(C)I"⟩
abbrev cX8_clearText : ByteArray := prog_10_method_42_code
def yX8_clearText : MethodName := ⟨RX8, "clearText", "()I"⟩
abbrev cX8_sees : ByteArray := prog_10_method_43_code
def yX8_sees : MethodName := ⟨RX8, "sees", "(II)Z"⟩
abbrev cX8_readJob : ByteArray := prog_10_method_44_code
def yX8_readJob : MethodName := ⟨RX8, "readJob", "(Z)I"⟩
abbrev cX8_jobs : ByteArray := prog_10_method_45_code
def yX8_jobs : MethodName := ⟨RX8, "jobs", "(Z)I"⟩
abbrev cX8_readJobs : ByteArray := prog_10_method_46_code
def yX8_readJobs : MethodName := ⟨RX8, "readJobs", "()I"⟩
abbrev cX8_group : ByteArray := prog_10_method_47_code
def yX8_group : MethodName := ⟨RX8, "group", "(II)I"⟩
abbrev cX8_classOf : ByteArray := prog_10_method_48_code
def yX8_classOf : MethodName := ⟨RX8, "classOf", "(II)I"⟩
abbrev cX8_job : ByteArray := prog_10_method_49_code
def yX8_job : MethodName := ⟨RX8, "job", "(II)I"⟩
abbrev cX8_serveOut : ByteArray := prog_10_method_50_code
def yX8_serveOut : MethodName := ⟨RX8, "serveOut", "()V"⟩
abbrev cX8_served : ByteArray := prog_10_method_51_code
def yX8_served : MethodName := ⟨RX8, "served", "(I)I"⟩
abbrev cX8_beginsAt : ByteArray := prog_10_method_52_code
def yX8_beginsAt : MethodName := ⟨RX8, "beginsAt", "(I)I"⟩
abbrev cX8_bound : ByteArray := prog_10_method_53_code
def yX8_bound : MethodName := ⟨RX8, "bound", "(I)I"⟩
abbrev cX8_shares : ByteArray := prog_10_method_54_code
def yX8_shares : MethodName := ⟨RX8, "shares", "(II)I"⟩
abbrev cX8_jobsThat : ByteArray := prog_10_method_55_code
def yX8_jobsThat : MethodName := ⟨RX8, "jobsThat", "(Z)I"⟩
abbrev cX8_count : ByteArray := prog_10_method_56_code
def yX8_count : MethodName := ⟨RX8, "count", "(I)I"⟩
end
section
/-! tables of the program, by gen.py -/
abbrev z_I : Type := Nat × MethodName × ByteArray × Nat × Option FieldType × Bool × Nat × Nat
def z_mts : List z_I := [(0, yX0_append, cX0_append, 6, (some .int), false, 4, 0),
  (0, yX0_copyFrom, cX0_copyFrom, 2, none, false, 1, 1),
  (0, yX0_fillBuckets, cX0_fillBuckets, 3, none, false, 1, 1),
  (0, yX0_has, cX0_has, 2, (some .boolean), false, 1, 0),
  (0, yX0_heldOf, cX0_heldOf, 4, (some .int), false, 1, 1),
  (0, yX0_takeUnits, cX0_takeUnits, 3, (some .int), false, 0, 1),
  (0, yX0_unitsOf, cX0_unitsOf, 4, (some .int), false, 1, 1),
  (1, yX1_append, cX1_append, 3, (some .int), false, 1, 0),
  (1, yX1_copyFrom, cX1_copyFrom, 2, none, false, 1, 1),
  (1, yX1_has, cX1_has, 2, (some .boolean), false, 1, 0),
  (2, yX2_dropOldest, cX2_dropOldest, 3, none, false, 0, 0),
  (2, yX2_push, cX2_push, 3, none, false, 1, 3),
  (2, yX2_roomAt, cX2_roomAt, 2, (some (.object "DeficitCircles$State")), false, 1, 0),
  (2, yX2_takeLatest, cX2_takeLatest, 3, none, false, 1, 3),
  (3, yX3_allSizes, cX3_allSizes, 1, (some .int), false, 0, 3),
  (3, yX3_append, cX3_append, 5, (some .int), false, 3, 0),
  (3, yX3_copyFrom, cX3_copyFrom, 2, none, false, 1, 1),
  (3, yX3_firstOf, cX3_firstOf, 4, (some .int), false, 1, 2),
  (3, yX3_has, cX3_has, 2, (some .boolean), false, 1, 0),
  (3, yX3_isFull, cX3_isFull, 1, (some .boolean), false, 0, 0),
  (3, yX3_isWaiting, cX3_isWaiting, 2, (some .boolean), false, 1, 1),
  (3, yX3_leaveLine, cX3_leaveLine, 4, none, false, 1, 0),
  (3, yX3_sizesAheadOf, cX3_sizesAheadOf, 5, (some .int), false, 1, 2),
  (3, yX3_sizesOf, cX3_sizesOf, 5, (some .int), false, 1, 2),
  (3, yX3_waitingAt, cX3_waitingAt, 2, (some .int), false, 1, 1),
  (3, yX3_waitsOf, cX3_waitsOf, 5, (some .int), false, 1, 2),
  (4, yX4_admit, cX4_admit, 3, (some .int), false, 2, 1),
  (4, yX4_ageFor, cX4_ageFor, 2, (some .int), false, 1, 1),
  (4, yX4_begin, cX4_begin, 2, none, false, 1, 4),
  (4, yX4_copyFrom, cX4_copyFrom, 2, none, false, 1, 2),
  (4, yX4_doneJobs, cX4_doneJobs, 1, (some .int), false, 0, 0),
  (4, yX4_doneOf, cX4_doneOf, 4, (some .int), false, 1, 3),
  (4, yX4_endOf, cX4_endOf, 2, (some .int), false, 1, 3),
  (4, yX4_firstOld, cX4_firstOld, 3, (some .int), false, 0, 3),
  (4, yX4_groupFor, cX4_groupFor, 2, (some .int), false, 1, 1),
  (4, yX4_isOld, cX4_isOld, 3, (some .boolean), false, 1, 2),
  (4, yX4_leftOf, cX4_leftOf, 3, (some .int), false, 1, 3),
  (4, yX4_noteWait, cX4_noteWait, 3, none, false, 2, 1),
  (4, yX4_oldJobs, cX4_oldJobs, 3, (some .int), false, 0, 3),
  (4, yX4_payFromClass, cX4_payFromClass, 4, none, false, 2, 3),
  (4, yX4_payFromGroup, cX4_payFromGroup, 4, none, false, 2, 3),
  (4, yX4_serveUnit, cX4_serveUnit, 2, (some .int), false, 0, 1),
  (4, yX4_sizesOfGroup, cX4_sizesOfGroup, 5, (some .int), false, 1, 2),
  (4, yX4_stageOf, cX4_stageOf, 2, (some .int), false, 1, 2),
  (4, yX4_waitsOfGroup, cX4_waitsOfGroup, 4, (some .int), false, 1, 2),
  (4, yX4_whyNotAdmit, cX4_whyNotAdmit, 3, (some .int), false, 2, 1),
  (5, yX5_append, cX5_append, 2, (some .int), false, 1, 0),
  (5, yX5_digitAt, cX5_digitAt, 2, (some .int), false, 1, 0),
  (5, yX5_fault, cX5_fault, 3, (some .int), false, 0, 1),
  (5, yX5_partAfter, cX5_partAfter, 3, (some .int), true, 2, 0),
  (5, yX5_sizeAt, cX5_sizeAt, 4, (some .int), false, 1, 1),
  (6, yX6_lookAt, cX6_lookAt, 5, (some .int), false, 2, 2),
  (6, yX6_nextJob, cX6_nextJob, 4, (some .int), false, 1, 4),
  (6, yX6_noteFirstJobs, cX6_noteFirstJobs, 3, none, false, 1, 3),
  (6, yX6_noteJob, cX6_noteJob, 5, none, false, 2, 2),
  (6, yX6_presentGroupIsNext, cX6_presentGroupIsNext, 4, (some .boolean), false, 1, 3),
  (6, yX6_roundsBelow, cX6_roundsBelow, 3, (some .int), true, 3, 0),
  (6, yX6_skipClassRounds, cX6_skipClassRounds, 6, none, false, 2, 1),
  (6, yX6_skipGroupRounds, cX6_skipGroupRounds, 5, none, false, 1, 1),
  (6, yX6_walkClasses, cX6_walkClasses, 6, (some .boolean), false, 2, 1),
  (6, yX6_walkGroups, cX6_walkGroups, 6, (some .boolean), false, 1, 3),
  (7, yX7_add, cX7_add, 4, (some .int), false, 2, 4),
  (7, yX7_addClass, cX7_addClass, 5, (some .int), false, 4, 4),
  (7, yX7_addGroup, cX7_addGroup, 2, (some .int), false, 1, 4),
  (7, yX7_beginAhead, cX7_beginAhead, 4, (some .int), false, 1, 5),
  (7, yX7_beginsAt, cX7_beginsAt, 2, (some .int), false, 1, 6),
  (7, yX7_bound, cX7_bound, 4, (some .int), false, 1, 3),
  (7, yX7_classOf, cX7_classOf, 3, (some .int), false, 2, 4),
  (7, yX7_clearText, cX7_clearText, 2, (some .int), false, 0, 0),
  (7, yX7_count, cX7_count, 2, (some .int), false, 1, 4),
  (7, yX7_group, cX7_group, 3, (some .int), false, 2, 3),
  (7, yX7_isQuantum, cX7_isQuantum, 1, (some .boolean), true, 1, 1),
  (7, yX7_isWithin, cX7_isWithin, 3, (some .boolean), true, 3, 0),
  (7, yX7_job, cX7_job, 3, (some .int), false, 2, 4),
  (7, yX7_keep, cX7_keep, 1, (some .int), false, 0, 3),
  (7, yX7_mark, cX7_mark, 1, (some .int), false, 0, 4),
  (7, yX7_pass, cX7_pass, 4, (some .int), false, 1, 6),
  (7, yX7_passTick, cX7_passTick, 2, (some .int), false, 0, 5),
  (7, yX7_readJobs, cX7_readJobs, 7, (some .int), false, 0, 4),
  (7, yX7_restore, cX7_restore, 1, (some .int), false, 0, 4),
  (7, yX7_served, cX7_served, 2, (some .int), false, 1, 6),
  (7, yX7_setAge, cX7_setAge, 4, (some .int), false, 2, 4),
  (7, yX7_setGroupQuantum, cX7_setGroupQuantum, 4, (some .int), false, 2, 4),
  (7, yX7_setQuantum, cX7_setQuantum, 4, (some .int), false, 2, 4),
  (7, yX7_shares, cX7_shares, 4, (some .int), false, 2, 1),
  (7, yX7_type, cX7_type, 2, (some .int), false, 1, 1),
  (7, yX7_undo, cX7_undo, 1, (some .int), false, 0, 4),
  (8, yX8_add, cX8_add, 4, (some .int), false, 2, 4),
  (8, yX8_addClass, cX8_addClass, 7, (some .int), false, 4, 2),
  (8, yX8_addGroup, cX8_addGroup, 3, (some .int), false, 1, 2),
  (8, yX8_against, cX8_against, 3, (some .int), false, 2, 3),
  (8, yX8_begin, cX8_begin, 1, none, false, 0, 1),
  (8, yX8_beginsAt, cX8_beginsAt, 3, (some .int), false, 1, 8),
  (8, yX8_bound, cX8_bound, 6, (some .int), false, 1, 2),
  (8, yX8_canServe, cX8_canServe, 3, (some .boolean), false, 1, 3),
  (8, yX8_canServeGroup, cX8_canServeGroup, 3, (some .boolean), false, 1, 5),
  (8, yX8_choose, cX8_choose, 6, (some .int), false, 0, 7),
  (8, yX8_classBehind, cX8_classBehind, 4, (some .int), false, 2, 1),
  (8, yX8_classOf, cX8_classOf, 4, (some .int), false, 2, 3),
  (8, yX8_clearText, cX8_clearText, 2, (some .int), false, 0, 0),
  (8, yX8_come, cX8_come, 5, (some .int), false, 2, 1),
  (8, yX8_count, cX8_count, 2, (some .int), false, 1, 4),
  (8, yX8_firstOf, cX8_firstOf, 3, (some .int), false, 1, 2),
  (8, yX8_firstOld, cX8_firstOld, 2, (some .int), false, 0, 3),
  (8, yX8_goBack, cX8_goBack, 2, none, false, 0, 0),
  (8, yX8_group, cX8_group, 6, (some .int), false, 2, 3),
  (8, yX8_in, cX8_in, 3, (some .boolean), true, 3, 0),
  (8, yX8_isBusy, cX8_isBusy, 2, (some .boolean), false, 1, 3),
  (8, yX8_isGroupBusy, cX8_isGroupBusy, 4, (some .boolean), false, 1, 4),
  (8, yX8_isOld, cX8_isOld, 3, (some .boolean), false, 1, 2),
  (8, yX8_its, cX8_its, 1, (some .int), true, 1, 0),
  (8, yX8_job, cX8_job, 4, (some .int), false, 2, 3),
  (8, yX8_jobs, cX8_jobs, 5, (some .int), false, 1, 5),
  (8, yX8_jobsThat, cX8_jobsThat, 4, (some .int), false, 1, 3),
  (8, yX8_keep, cX8_keep, 2, (some .int), false, 0, 0),
  (8, yX8_kind, cX8_kind, 1, (some .int), true, 1, 0),
  (8, yX8_mark, cX8_mark, 3, (some .int), false, 0, 2),
  (8, yX8_nextClass, cX8_nextClass, 3, (some .int), false, 1, 4),
  (8, yX8_nextGroup, cX8_nextGroup, 2, (some .int), false, 0, 6),
  (8, yX8_noClass, cX8_noClass, 2, (some .boolean), false, 1, 1),
  (8, yX8_noGroup, cX8_noGroup, 2, (some .boolean), false, 1, 1),
  (8, yX8_noJob, cX8_noJob, 2, (some .boolean), false, 1, 1),
  (8, yX8_party, cX8_party, 1, (some .int), true, 1, 0),
  (8, yX8_pass, cX8_pass, 4, (some .int), false, 1, 9),
  (8, yX8_readJob, cX8_readJob, 5, (some .int), false, 1, 4),
  (8, yX8_readJobs, cX8_readJobs, 2, (some .int), false, 0, 6),
  (8, yX8_record, cX8_record, 2, none, false, 0, 0),
  (8, yX8_remember, cX8_remember, 2, none, false, 0, 0),
  (8, yX8_restore, cX8_restore, 2, (some .int), false, 0, 2),
  (8, yX8_sees, cX8_sees, 3, (some .boolean), false, 2, 1),
  (8, yX8_serveOut, cX8_serveOut, 2, none, false, 0, 1),
  (8, yX8_served, cX8_served, 4, (some .int), false, 1, 8),
  (8, yX8_set, cX8_set, 4, (some .int), false, 2, 2),
  (8, yX8_setAge, cX8_setAge, 3, (some .int), false, 2, 3),
  (8, yX8_setGroupQuantum, cX8_setGroupQuantum, 3, (some .int), false, 2, 3),
  (8, yX8_setQuantum, cX8_setQuantum, 3, (some .int), false, 2, 3),
  (8, yX8_shares, cX8_shares, 3, (some .int), false, 2, 2),
  (8, yX8_tick, cX8_tick, 5, (some .int), false, 0, 8),
  (8, yX8_type, cX8_type, 2, (some .int), false, 1, 0),
  (8, yX8_undo, cX8_undo, 2, (some .int), false, 0, 0),
  (8, yX8_waiting, cX8_waiting, 8, (some .int), false, 3, 2),
  (8, yX8_waits, cX8_waits, 2, (some .boolean), false, 1, 1)]
def z_cl : List vw_C := [(RX0, TX0, 10), (RX1, TX1, 4), (RX2, TX2, 2), (RX3, TX3, 7), (RX4, TX4, 9), (RX5, TX5, 2), (RX6, TX6, 3), (RX7, TX7, 7), (RX8, TX8, 9)]
def z_cns : List String := [RX0, RX1, RX2, RX3, RX4, RX5, RX6, RX7, RX8]
def z_fl : List ((Nat × Nat) × (Nat × Nat)) := [((0, 9), (0, 0)), ((0, 15), (0, 1)), ((0, 19), (0, 2)), ((0, 22), (0, 3)), ((0, 25), (0, 4)), ((0, 28), (0, 5)), ((0, 31), (0, 6)), ((0, 34), (0, 7)), ((0, 37), (0, 8)), ((0, 40), (0, 9)), ((1, 9), (1, 0)), ((1, 15), (1, 1)), ((1, 19), (1, 2)), ((1, 22), (1, 3)), ((2, 9), (2, 0)), ((2, 17), (2, 1)), ((3, 9), (3, 0)), ((3, 15), (3, 1)), ((3, 19), (3, 2)), ((3, 22), (3, 3)), ((3, 25), (3, 4)), ((3, 28), (3, 5)), ((3, 31), (3, 6)), ((4, 12), (4, 0)), ((4, 21), (4, 1)), ((4, 28), (4, 2)), ((4, 32), (4, 3)), ((4, 36), (4, 4)), ((4, 39), (4, 5)), ((4, 42), (4, 6)), ((4, 45), (4, 7)), ((4, 48), (4, 8)), ((4, 69), (0, 6)), ((4, 91), (3, 4)), ((4, 94), (3, 2)), ((4, 97), (3, 1)), ((4, 100), (3, 3)), ((4, 117), (0, 8)), ((4, 129), (0, 3)), ((4, 136), (1, 2)), ((4, 138), (0, 9)), ((4, 141), (0, 7)), ((4, 147), (3, 5)), ((4, 153), (0, 1)), ((4, 159), (3, 0)), ((5, 9), (5, 0)), ((5, 15), (5, 1)), ((6, 9), (6, 0)), ((6, 15), (6, 1)), ((6, 18), (6, 2)), ((6, 22), (4, 2)), ((6, 28), (3, 5)), ((6, 52), (4, 4)), ((6, 55), (4, 0)), ((6, 65), (1, 3)), ((6, 80), (3, 1)), ((6, 86), (4, 1)), ((6, 93), (3, 2)), ((6, 100), (1, 2)), ((6, 103), (1, 0)), ((6, 106), (1, 1)), ((6, 120), (0, 3)), ((6, 128), (0, 0)), ((6, 129), (0, 1)), ((6, 132), (0, 2)), ((7, 10), (7, 0)), ((7, 16), (7, 1)), ((7, 19), (7, 2)), ((7, 23), (7, 3)), ((7, 29), (7, 4)), ((7, 36), (7, 5)), ((7, 43), (7, 6)), ((7, 51), (4, 0)), ((7, 55), (1, 0)), ((7, 76), (4, 1)), ((7, 80), (0, 0)), ((7, 86), (1, 1)), ((7, 91), (0, 2)), ((7, 92), (0, 7)), ((7, 102), (4, 3)), ((7, 116), (5, 0)), ((7, 134), (2, 0)), ((7, 138), (1, 2)), ((7, 151), (1, 3)), ((7, 157), (0, 1)), ((7, 160), (0, 3)), ((7, 161), (4, 2)), ((7, 173), (0, 6)), ((7, 182), (0, 8)), ((7, 185), (0, 9)), ((7, 189), (3, 1)), ((7, 192), (3, 2)), ((7, 195), (3, 3)), ((7, 201), (3, 4)), ((7, 213), (3, 5)), ((7, 234), (3, 0)), ((7, 235), (4, 5)), ((7, 238), (4, 4)), ((7, 247), (4, 7)), ((7, 250), (4, 8)), ((7, 266), (4, 6)), ((8, 7), (8, 0)), ((8, 13), (8, 1)), ((8, 16), (8, 2)), ((8, 19), (8, 3)), ((8, 22), (8, 6)), ((8, 26), (8, 4)), ((8, 36), (8, 5)), ((8, 118), (8, 7)), ((8, 121), (8, 8))]
def z_ml : List ((Nat × Nat) × Nat) := [((0, 43), 3), ((2, 22), 10), ((2, 25), 12), ((2, 29), 29), ((3, 34), 18), ((3, 38), 24), ((3, 42), 22), ((4, 51), 8), ((4, 55), 1), ((4, 58), 16), ((4, 61), 3), ((4, 73), 19), ((4, 77), 15), ((4, 81), 20), ((4, 84), 35), ((4, 87), 21), ((4, 103), 37), ((4, 107), 39), ((4, 110), 34), ((4, 114), 40), ((4, 126), 25), ((4, 132), 9), ((4, 133), 44), ((4, 137), 18), ((4, 144), 27), ((4, 150), 24), ((4, 156), 43), ((5, 19), 49), ((5, 23), 47), ((6, 34), 33), ((6, 38), 53), ((6, 42), 55), ((6, 46), 60), ((6, 49), 58), ((6, 59), 9), ((6, 68), 17), ((6, 72), 24), ((6, 75), 54), ((6, 79), 18), ((6, 83), 34), ((6, 90), 3), ((6, 96), 51), ((6, 110), 56), ((6, 121), 59), ((6, 125), 57), ((7, 47), 71), ((7, 61), 11), ((7, 65), 7), ((7, 69), 9), ((7, 72), 72), ((7, 83), 0), ((7, 90), 3), ((7, 95), 45), ((7, 99), 26), ((7, 105), 77), ((7, 109), 2), ((7, 113), 5), ((7, 119), 46), ((7, 122), 48), ((7, 125), 29), ((7, 128), 47), ((7, 131), 50), ((7, 135), 13), ((7, 142), 4), ((7, 145), 44), ((7, 148), 42), ((7, 154), 6), ((7, 165), 25), ((7, 170), 23), ((7, 176), 17), ((7, 179), 31), ((7, 188), 18), ((7, 198), 43), ((7, 204), 32), ((7, 207), 36), ((7, 210), 35), ((7, 216), 64), ((7, 219), 20), ((7, 222), 27), ((7, 230), 22), ((7, 241), 30), ((7, 244), 38), ((7, 253), 14), ((7, 256), 52), ((7, 260), 28), ((7, 263), 41), ((8, 30), 127), ((8, 33), 126), ((8, 40), 91), ((8, 43), 106), ((8, 47), 110), ((8, 51), 141), ((8, 55), 102), ((8, 58), 115), ((8, 61), 107), ((8, 64), 122), ((8, 67), 120), ((8, 70), 132), ((8, 74), 119), ((8, 77), 140), ((8, 81), 90), ((8, 84), 100), ((8, 87), 94), ((8, 90), 97), ((8, 93), 108), ((8, 96), 117), ((8, 99), 95), ((8, 102), 109), ((8, 105), 103), ((8, 109), 118), ((8, 112), 96), ((8, 115), 137), ((8, 124), 129), ((8, 128), 124), ((8, 132), 112), ((8, 135), 104), ((8, 139), 121), ((8, 142), 130), ((8, 146), 113)]
def z_nl : List ((Nat × Nat) × (Nat × String)) := [((4, 65), (72, "DeficitCircles"))]
def z_mm : List ((Nat × Nat) × Nat) := [((0, 47), 1), ((0, 53), 2), ((1, 25), 2), ((3, 45), 2), ((4, 120), 0), ((6, 114), 1), ((7, 225), 0)]
def z_cs : List ((Nat × Nat) × Int) := [((6, 109), 1000000), ((7, 141), 100000), ((7, 233), 10000000), ((8, 138), 100000), ((8, 145), 10000000)]
abbrev z_S : Type := Nat ⊕ (Option (Fin 7) × Nat)
def z_kds : List ((Nat × List z_S) ⊕ (Nat × Nat)) := [.inl (4, [.inr (none, 1), .inr (none, 2), .inr (none, 3), .inl 0, .inl 0, .inl 0, .inl 0, .inl 0, .inl 0]),
  .inl (1, [.inl 0, .inr (none, 4), .inr (none, 5), .inr (none, 6)]),
  .inl (0, [.inl 0, .inr (none, 7), .inr (none, 8), .inr (none, 9), .inr (none, 10), .inr (none, 11), .inr (none, 12), .inr (none, 13), .inr (none, 14), .inr (none, 15)]),
  .inl (3, [.inl 0, .inr (none, 16), .inr (none, 17), .inr (none, 18), .inr (none, 19), .inl 0, .inr (none, 20)]),
  .inr (0, 3),
  .inr (0, 3),
  .inr (0, 3),
  .inr (0, 8),
  .inr (0, 8),
  .inr (0, 8),
  .inr (0, 8),
  .inr (0, 8),
  .inr (0, 8),
  .inr (0, 8),
  .inr (0, 8),
  .inr (0, 8),
  .inr (0, 200),
  .inr (0, 200),
  .inr (0, 200),
  .inr (0, 200),
  .inr (0, 60),
  .inl (7, [.inr (some 0, 0), .inr (some 1, 0), .inl 1, .inr (some 2, 0), .inr (none, 22), .inr (none, 24), .inr (none, 26)]),
  .inl (2, [.inl 0, .inr (none, 23)]),
  .inr (3, 4),
  .inl (5, [.inl 0, .inr (none, 25)]),
  .inr (1, 60),
  .inl (6, [.inr (none, 27), .inr (none, 28), .inr (none, 29)]),
  .inr (0, 8),
  .inr (0, 3),
  .inr (2, 3),
  .inl (8, [.inr (none, 31), .inr (none, 32), .inr (none, 33), .inr (none, 34), .inl 0, .inl 1, .inr (none, 35), .inl 0, .inl 0]),
  .inr (0, 1500),
  .inr (0, 6000),
  .inr (0, 1500),
  .inr (0, 1500),
  .inr (1, 60)]
end
section
/-! a machine over positions: states s of Fin 7, objects o, slots j; ints are Int, kept in range by z_w -/
abbrev z_P : Type := Fin 7 × Nat
abbrev z_V : Type := Int ⊕ Option z_P
abbrev z_M : Type := Fin 7 → Nat → Nat → Int
abbrev z_L : Type := List (Option z_V)
abbrev z_N : Type := Nat × z_L × List z_V × z_M
def z_w (x : Int) : Int := (Int32.ofInt x).toInt
def z_lv (s : Fin 7) (o : Nat) : Bool := decide (o < 21) || (decide (s = 0) && decide (o < 36))
def z_up (M : z_M) (s : Fin 7) (o j : Nat) (v : Int) : z_M := fun s' o' j' => if s' = s ∧ o' = o ∧ j' = j then v else M s' o' j'
def z_cp (M : z_M) (s0 : Fin 7) (o0 : Nat) (s1 : Fin 7) (o1 sp dp n : Nat) : z_M := fun s o j => if s = s1 ∧ o = o1 ∧ dp ≤ j ∧ j < dp + n then M s0 o0 (sp + (j - dp)) else M s o j
def z_rg (x : Int) : Fin 7 := ⟨x.toNat % 7, Nat.mod_lt _ (by decide)⟩
def z_own (mi : z_I) : Nat := mi.1
def z_y (mi : z_I) : MethodName := mi.2.1
def z_cd (mi : z_I) : ByteArray := mi.2.2.1
def z_ml' (mi : z_I) : Nat := mi.2.2.2.1
def z_rt (mi : z_I) : Option FieldType := mi.2.2.2.2.1
def z_sta (mi : z_I) : Bool := mi.2.2.2.2.2.1
def z_na (mi : z_I) : Nat := mi.2.2.2.2.2.2.1
def z_dp (mi : z_I) : Nat := mi.2.2.2.2.2.2.2
def z_nx (a b pc : Nat) (ls : z_L) (M : z_M) (o : Option (List z_V)) : Option z_N := if a = b then o.map (fun t => (pc, ls, t, M)) else none
def z_bin (f : Int → Int → Int) (st : List z_V) : Option (List z_V) := match st with
  | .inl y :: .inl x :: r => some (.inl (f x y) :: r)
  | _ => none
def z_div (f : Int → Int → Int) (st : List z_V) : Option (List z_V) := match st with
  | .inl y :: .inl x :: r => if y = 0 then none else some (.inl (f x y) :: r)
  | _ => none
def z_neg (st : List z_V) : Option (List z_V) := match st with
  | .inl x :: r => some (.inl (z_w (-x)) :: r)
  | _ => none
def z_ldi (ls : z_L) (i : Nat) (st : List z_V) : Option (List z_V) := match ls[i]? with
  | some (some (.inl x)) => some (.inl x :: st)
  | _ => none
def z_lda (ls : z_L) (i : Nat) (st : List z_V) : Option (List z_V) := match ls[i]? with
  | some (some (.inr x)) => some (.inr x :: st)
  | _ => none
def z_sti (a b pc : Nat) (ls : z_L) (M : z_M) (i : Nat) (st : List z_V) : Option z_N := match st with
  | .inl x :: r => if a = b ∧ i < ls.length then some (pc, ls.set i (some (.inl x)), r, M) else none
  | _ => none
def z_sta' (a b pc : Nat) (ls : z_L) (M : z_M) (i : Nat) (st : List z_V) : Option z_N := match st with
  | .inr x :: r => if a = b ∧ i < ls.length then some (pc, ls.set i (some (.inr x)), r, M) else none
  | _ => none
def z_inc (a b pc : Nat) (ls : z_L) (M : z_M) (i : Nat) (n : Int) (st : List z_V) : Option z_N := match ls[i]? with
  | some (some (.inl x)) => if a = b then some (pc, ls.set i (some (.inl (z_w (x + n)))), st, M) else none
  | _ => none
def z_dup (st : List z_V) : Option (List z_V) := match st with
  | x :: r => some (x :: x :: r)
  | _ => none
def z_dup2 (st : List z_V) : Option (List z_V) := match st with
  | x :: y :: r => some (x :: y :: x :: y :: r)
  | _ => none
def z_pop (st : List z_V) : Option (List z_V) := match st with
  | _ :: r => some r
  | _ => none
def z_cc (c : Jvm.ClassFile.Cond) (x y : Int) : Bool := match c with
  | .eq => decide (x = y)
  | .ne => !decide (x = y)
  | .lt => decide (x < y)
  | .ge => decide (y ≤ x)
  | .gt => decide (y < x)
  | .le => decide (x ≤ y)
def z_ic (c : Jvm.ClassFile.Cond) (a b pc : Nat) (off : Int) (ls : z_L) (M : z_M) (st : List z_V) : Option z_N := match st with
  | .inl y :: .inl x :: r => if a = b ∧ 0 ≤ (pc : Int) + off then (if z_cc c x y = true then some (((pc : Int) + off).toNat, ls, r, M) else some (pc + 3, ls, r, M)) else none
  | _ => none
def z_if (c : Jvm.ClassFile.Cond) (a b pc : Nat) (off : Int) (ls : z_L) (M : z_M) (st : List z_V) : Option z_N := match st with
  | .inl x :: r => if a = b ∧ 0 ≤ (pc : Int) + off then (if z_cc c x 0 = true then some (((pc : Int) + off).toNat, ls, r, M) else some (pc + 3, ls, r, M)) else none
  | _ => none
def z_nul (a b pc : Nat) (off : Int) (ls : z_L) (M : z_M) (st : List z_V) : Option z_N := match st with
  | .inr none :: r => if a = b ∧ 0 ≤ (pc : Int) + off then some (((pc : Int) + off).toNat, ls, r, M) else none
  | .inr (some _) :: r => if a = b then some (pc + 3, ls, r, M) else none
  | _ => none
def z_sw (pc : Nat) (d lo hi : Int) (offs : Array Int) (ls : z_L) (M : z_M) (st : List z_V) : Option z_N := match st with
  | .inl x :: r => if x < lo ∨ hi < x then (if 0 ≤ (pc : Int) + d then some (((pc : Int) + d).toNat, ls, r, M) else none) else
      match offs[(x - lo).toNat]? with
      | some off => if 0 ≤ (pc : Int) + off then some (((pc : Int) + off).toNat, ls, r, M) else none
      | none => none
  | _ => none
def z_gf (own ix : Nat) (M : z_M) (st : List z_V) : Option (List z_V) := match z_fl.lookup (own, ix), st with
  | some (ci, k), .inr (some (s, o)) :: r => match z_kds[o]? with
    | some (.inl (cj, sl)) => if (cj = ci ∧ z_lv s o = true) then (match sl[k]? with
        | some (.inl _) => some (.inl (M s o k) :: r)
        | some (.inr (q, o')) => some (.inr (some (q.getD s, o')) :: r)
        | none => none) else none
    | _ => none
  | _, _ => none
def z_pf (own ix pc : Nat) (ls : z_L) (M : z_M) (st : List z_V) : Option z_N := match z_fl.lookup (own, ix), st with
  | some (ci, k), .inl v :: .inr (some (s, o)) :: r => match z_kds[o]? with
    | some (.inl (cj, sl)) => if (cj = ci ∧ z_lv s o = true) then (match sl[k]? with
        | some (.inl 0) => some (pc, ls, r, z_up M s o k v)
        | some (.inl 1) => if v = 0 ∨ v = 1 then some (pc, ls, r, z_up M s o k v) else none
        | _ => none) else none
    | _ => none
  | _, _ => none
def z_al (t : Nat) (M : z_M) (st : List z_V) : Option (List z_V) := match st with
  | .inl i :: .inr (some (s, o)) :: r => match z_kds[o]? with
    | some (.inr (t', n)) => if (t' = t ∧ z_lv s o = true) then (if 0 ≤ i ∧ i < (n : Int) then some ((if t = 3 then .inr (some (z_rg (M s o i.toNat), 0)) else .inl (M s o i.toNat)) :: r) else none) else none
    | _ => none
  | _ => none
def z_fit (t : Nat) (v : Int) : Bool := if t = 0 then true else if t = 1 then decide (0 ≤ v ∧ v ≤ 65535) else if t = 2 then decide (v = 0 ∨ v = 1) else false
def z_as (t pc : Nat) (ls : z_L) (M : z_M) (st : List z_V) : Option z_N := match st with
  | .inl v :: .inl i :: .inr (some (s, o)) :: r => match z_kds[o]? with
    | some (.inr (t', n)) => if (t' = t ∧ z_lv s o = true) then (if 0 ≤ i ∧ i < (n : Int) then (if z_fit t v = true then some (pc, ls, r, z_up M s o i.toNat v) else none) else none) else none
    | _ => none
  | _ => none
def z_aa (pc : Nat) (ls : z_L) (M : z_M) (st : List z_V) : Option z_N := match st with
  | .inr (some (q, 0)) :: .inl i :: .inr (some (s, o)) :: r => match z_kds[o]? with
    | some (.inr (t', n)) => if (t' = 3 ∧ z_lv s o = true) then (if 0 ≤ i ∧ i < (n : Int) then some (pc, ls, r, z_up M s o i.toNat (q.val : Int)) else none) else none
    | _ => none
  | _ => none
def z_jdk (dp own ix pc : Nat) (ls : z_L) (M : z_M) (st : List z_V) : Option z_N := match z_mm.lookup (own, ix), st with
  | some 0, .inl y :: .inl x :: r => if r.length ≤ 8 ∧ 1 ≤ dp then some (pc, ls, .inl (if x < y then y else x) :: r, M) else none
  | some 1, .inl y :: .inl x :: r => if r.length ≤ 8 ∧ 1 ≤ dp then some (pc, ls, .inl (if y < x then y else x) :: r, M) else none
  | some 2, .inl n :: .inl d :: .inr (some (s1, o1)) :: .inl b :: .inr (some (s0, o0)) :: r => match z_kds[o0]?, z_kds[o1]? with
    | some (.inr (t0, n0)), some (.inr (t1, n1)) => if (t0 = 0 ∧ t1 = 0 ∧ z_lv s0 o0 = true ∧ z_lv s1 o1 = true ∧ r.length ≤ 8 ∧ 1 ≤ dp) then
        (if 0 ≤ b ∧ 0 ≤ d ∧ 0 ≤ n ∧ b + n ≤ (n0 : Int) ∧ d + n ≤ (n1 : Int) then some (pc, ls, r, z_cp M s0 o0 s1 o1 b.toNat d.toNat n.toNat) else none) else none
    | _, _ => none
  | _, _ => none
/-- what is no call of the program's own, and no return -/
def z_stI (mi : z_I) (i : Instr) (len pc : Nat) (ls : z_L) (st : List z_V) (M : z_M) : Option z_N := match i with
  | .iconst n => z_nx len 1 (pc + 1) ls M (some (.inl (z_w n) :: st))
  | .bipush n => z_nx len 2 (pc + 2) ls M (some (.inl (Int8.ofInt n).toInt32.toInt :: st))
  | .sipush n => z_nx len 3 (pc + 3) ls M (some (.inl (Int16.ofInt n).toInt32.toInt :: st))
  | .ldc ix => z_nx len 2 (pc + 2) ls M ((z_cs.lookup (z_own mi, ix)).map fun v => .inl (z_w v) :: st)
  | .aconst_null => z_nx len 1 (pc + 1) ls M (some (.inr none :: st))
  | .iload_n k => z_nx len 1 (pc + 1) ls M (z_ldi ls k.val st)
  | .iload k => z_nx len 2 (pc + 2) ls M (z_ldi ls k st)
  | .aload_n k => z_nx len 1 (pc + 1) ls M (z_lda ls k.val st)
  | .aload k => z_nx len 2 (pc + 2) ls M (z_lda ls k st)
  | .istore_n k => z_sti len 1 (pc + 1) ls M k.val st
  | .istore k => z_sti len 2 (pc + 2) ls M k st
  | .astore_n k => z_sta' len 1 (pc + 1) ls M k.val st
  | .astore k => z_sta' len 2 (pc + 2) ls M k st
  | .iinc k n => z_inc len 3 (pc + 3) ls M k n st
  | .iadd => z_nx len 1 (pc + 1) ls M (z_bin (fun x y => z_w (x + y)) st)
  | .isub => z_nx len 1 (pc + 1) ls M (z_bin (fun x y => z_w (x - y)) st)
  | .imul => z_nx len 1 (pc + 1) ls M (z_bin (fun x y => z_w (x * y)) st)
  | .idiv => z_nx len 1 (pc + 1) ls M (z_div (fun x y => z_w (x.tdiv y)) st)
  | .irem => z_nx len 1 (pc + 1) ls M (z_div (fun x y => z_w (x.tmod y)) st)
  | .dup => z_nx len 1 (pc + 1) ls M (z_dup st)
  | .dup2 => z_nx len 1 (pc + 1) ls M (z_dup2 st)
  | .pop => z_nx len 1 (pc + 1) ls M (z_pop st)
  | .goto off => if len = 3 ∧ 0 ≤ (pc : Int) + off then some (((pc : Int) + off).toNat, ls, st, M) else none
  | .if_icmp c off => z_ic c len 3 pc off ls M st
  | .ifCond c off => z_if c len 3 pc off ls M st
  | .ifnull off => z_nul len 3 pc off ls M st
  | .tableswitch d lo hi offs => z_sw pc d lo hi offs ls M st
  | .getfield ix => z_nx len 3 (pc + 3) ls M (z_gf (z_own mi) ix M st)
  | .putfield ix => if len = 3 then z_pf (z_own mi) ix (pc + 3) ls M st else none
  | .iaload => z_nx len 1 (pc + 1) ls M (z_al 0 M st)
  | .caload => z_nx len 1 (pc + 1) ls M (z_al 1 M st)
  | .baload => z_nx len 1 (pc + 1) ls M (z_al 2 M st)
  | .aaload => z_nx len 1 (pc + 1) ls M (z_al 3 M st)
  | .iastore => if len = 1 then z_as 0 (pc + 1) ls M st else none
  | .castore => if len = 1 then z_as 1 (pc + 1) ls M st else none
  | .bastore => if len = 1 then z_as 2 (pc + 1) ls M st else none
  | .aastore => if len = 1 then z_aa (pc + 1) ls M st else none
  | .invokestatic ix => if len = 3 then z_jdk (z_dp mi) (z_own mi) ix (pc + 3) ls M st else none
  | _ => none
/-- returns -/
def z_stR (mi : z_I) (i : Instr) (len : Nat) (st : List z_V) : Option (Option z_V) := match i, st with
  | .ireturn, [.inl v] => if len = 1 then (match z_rt mi with
      | some .int => some (some (.inl v))
      | some .boolean => if v = 0 ∨ v = 1 then some (some (.inl v)) else none
      | _ => none) else none
  | .areturn, [.inr v] => if len = 1 then (match z_rt mi with
      | some (.object _) => some (some (.inr v))
      | _ => none) else none
  | .return_, [] => if len = 1 then (match z_rt mi with
      | none => some none
      | _ => none) else none
  | _, _ => none
/-- calls: which, its arguments, what stays on the stack -/
def z_stC (mi : z_I) (i : Instr) (len : Nat) (st : List z_V) : Option (Nat × List z_V × List z_V) := match i with
  | .invokevirtual ix => match z_ml.lookup (z_own mi, ix) with
    | some k => match z_mts[k]? with
      | some mj => if len = 3 ∧ z_sta mj = false ∧ z_dp mj < z_dp mi ∧ z_ml' mj ≤ 9 ∧ z_na mj + 1 ≤ z_ml' mj then
          (match st.drop (z_na mj) with
          | .inr (some (s, o)) :: r => match z_kds[o]? with
            | some (.inl (ci, _)) => if ci = z_own mj ∧ z_lv s o = true ∧ r.length ≤ 8 then some (k, .inr (some (s, o)) :: (st.take (z_na mj)).reverse, r) else none
            | _ => none
          | _ => none) else none
      | none => none
    | none => none
  | .invokestatic ix => match z_ml.lookup (z_own mi, ix) with
    | some k => match z_mts[k]? with
      | some mj => if len = 3 ∧ z_sta mj = true ∧ z_own mj = z_own mi ∧ z_dp mj < z_dp mi ∧ z_ml' mj ≤ 9 ∧ z_na mj ≤ z_ml' mj ∧ z_na mj ≤ st.length ∧ (st.drop (z_na mj)).length ≤ 8 then some (k, (st.take (z_na mj)).reverse, st.drop (z_na mj)) else none
      | none => none
    | none => match z_nl.lookup (z_own mi, ix) with
      | some (k, _) => match z_mts[k]? with
        | some mj => if len = 3 ∧ z_sta mj = true ∧ z_dp mj < z_dp mi ∧ z_ml' mj ≤ 9 ∧ z_na mj ≤ z_ml' mj ∧ z_na mj ≤ st.length ∧ (st.drop (z_na mj)).length ≤ 8 then some (k, (st.take (z_na mj)).reverse, st.drop (z_na mj)) else none
        | none => none
      | none => none
  | _ => none
/-- the locals at a method's entry -/
def z_en (k : Nat) (as : List z_V) : z_L := match z_mts[k]? with
  | some mi => as.map some ++ List.replicate (z_ml' mi - as.length) none
  | none => []
abbrev z_O : Type := z_N ⊕ ((Option z_V × z_M) ⊕ (Nat × List z_V × List z_V))
/-- one step: on, out, or into a call -/
def z_stp (m pc : Nat) (ls : z_L) (st : List z_V) (M : z_M) : Option z_O := match z_mts[m]? with
  | none => none
  | some mi => match decode (z_cd mi) pc with
    | .ok q => match z_stI mi q.1 q.2 pc ls st M with
      | some n => some (.inl n)
      | none => match z_stR mi q.1 q.2 st with
        | some r => some (.inr (.inl (r, M)))
        | none => (z_stC mi q.1 q.2 st).map fun x => .inr (.inr x)
    | .error _ => none
def z_run : Nat → Nat → Nat → z_L → List z_V → z_M → Option (Option z_V × z_M)
  | 0, _, _, _, _, _ => none
  | n + 1, m, pc, ls, st, M => match z_stp m pc ls st M with
    | none => none
    | some (.inl (pc', ls', st', M')) => z_run n m pc' ls' st' M'
    | some (.inr (.inl q)) => some q
    | some (.inr (.inr (k, as, rest))) => match z_run n k 0 (z_en k as) [] M with
      | none => none
      | some q => z_run n m (pc + 3) ls (q.1.toList ++ rest) q.2
theorem z_run_mono : ∀ (n m pc : Nat) (ls : z_L) (st : List z_V) (M : z_M) (q : Option z_V × z_M), z_run n m pc ls st M = some q → z_run (n + 1) m pc ls st M = some q := by
  intro n
  induction n with
  | zero => intro m pc ls st M q h; cases h
  | succ n ih =>
    intro m pc ls st M q h
    unfold z_run at h ⊢
    cases hs : z_stp m pc ls st M with
    | none => rw [hs] at h; cases h
    | some o =>
      rw [hs] at h
      rcases o with ⟨pc', ls', st', M'⟩ | q' | ⟨k, as, rest⟩
      · exact ih _ _ _ _ _ _ h
      · exact h
      · dsimp only at h ⊢
        cases hr : z_run n k 0 (z_en k as) [] M with
        | none => rw [hr] at h; cases h
        | some q1 =>
          rw [hr] at h
          rw [ih _ _ _ _ _ _ hr]
          exact ih _ _ _ _ _ _ h
theorem z_run_add {n m pc : Nat} {ls : z_L} {st : List z_V} {M : z_M} {q : Option z_V × z_M} (h : z_run n m pc ls st M = some q) : ∀ k, z_run (n + k) m pc ls st M = some q := by
  intro k
  induction k with
  | zero => exact h
  | succ k ih => exact z_run_mono _ _ _ _ _ _ _ ih
theorem z_run_le {n n' m pc : Nat} {ls : z_L} {st : List z_V} {M : z_M} {q : Option z_V × z_M} (hn : n ≤ n') (h : z_run n m pc ls st M = some q) : z_run n' m pc ls st M = some q := by
  obtain ⟨k, rfl⟩ := Nat.le.dest hn
  exact z_run_add h k
theorem z_run_one {n n' m pc : Nat} {ls : z_L} {st : List z_V} {M : z_M} {q q' : Option z_V × z_M} (h : z_run n m pc ls st M = some q) (h' : z_run n' m pc ls st M = some q') : q = q' := by
  have h1 := z_run_le (Nat.le_max_left n n') h
  have h2 := z_run_le (Nat.le_max_right n n') h'
  exact Option.some.inj (h1.symm.trans h2)
/-- what a run comes to, however long it is -/
noncomputable def z_ex (m pc : Nat) (ls : z_L) (st : List z_V) (M : z_M) : Option (Option z_V × z_M) :=
  @dite _ (∃ q, ∃ n, z_run n m pc ls st M = some q) (Classical.propDecidable _) (fun h => some (Classical.choose h)) (fun _ => none)
theorem z_ex_iff {m pc : Nat} {ls : z_L} {st : List z_V} {M : z_M} {q : Option z_V × z_M} : z_ex m pc ls st M = some q ↔ ∃ n, z_run n m pc ls st M = some q := by
  unfold z_ex
  constructor
  · intro h
    split at h
    · rename_i hq
      cases h
      exact Classical.choose_spec hq
    · cases h
  · rintro ⟨n, h⟩
    split
    · rename_i hq
      obtain ⟨n', h'⟩ := Classical.choose_spec hq
      rw [z_run_one h' h]
    · rename_i hq
      exact absurd ⟨q, n, h⟩ hq
/-- a method, called -/
noncomputable def z_ev (k : Nat) (as : List z_V) (M : z_M) : Option (Option z_V × z_M) := z_ex k 0 (z_en k as) [] M
theorem z_ex_eq {m pc m' pc' : Nat} {ls ls' : z_L} {st st' : List z_V} {M M' : z_M} (h : ∀ q, (∃ n, z_run n m pc ls st M = some q) ↔ (∃ n, z_run n m' pc' ls' st' M' = some q)) : z_ex m pc ls st M = z_ex m' pc' ls' st' M' := by
  refine Option.ext fun q => ?_
  rw [z_ex_iff, z_ex_iff]
  exact h q
theorem z_go {m pc : Nat} {ls : z_L} {st : List z_V} {M : z_M} {pc' : Nat} {ls' : z_L} {st' : List z_V} {M' : z_M} (h : z_stp m pc ls st M = some (.inl (pc', ls', st', M'))) : z_ex m pc ls st M = z_ex m pc' ls' st' M' := by
  refine z_ex_eq fun q => ⟨?_, ?_⟩
  · rintro ⟨n, hn⟩
    cases n with
    | zero => cases hn
    | succ n => exact ⟨n, by simpa only [z_run, h] using hn⟩
  · rintro ⟨n, hn⟩
    exact ⟨n + 1, by simpa only [z_run, h] using hn⟩
theorem z_out {m pc : Nat} {ls : z_L} {st : List z_V} {M : z_M} {q : Option z_V × z_M} (h : z_stp m pc ls st M = some (.inr (.inl q))) : z_ex m pc ls st M = some q := by
  rw [z_ex_iff]
  exact ⟨1, by simp only [z_run, h]⟩
theorem z_call {m pc : Nat} {ls : z_L} {st : List z_V} {M : z_M} {k : Nat} {as rest : List z_V} (h : z_stp m pc ls st M = some (.inr (.inr (k, as, rest)))) : z_ex m pc ls st M = (z_ev k as M).bind fun q => z_ex m (pc + 3) ls (q.1.toList ++ rest) q.2 := by
  refine Option.ext fun q => ?_
  rw [z_ex_iff, Option.bind_eq_some_iff]
  constructor
  · rintro ⟨n, hn⟩
    cases n with
    | zero => cases hn
    | succ n =>
      simp only [z_run, h] at hn
      cases hr : z_run n k 0 (z_en k as) [] M with
      | none => rw [hr] at hn; cases hn
      | some q1 =>
        rw [hr] at hn
        exact ⟨q1, z_ex_iff.mpr ⟨n, hr⟩, z_ex_iff.mpr ⟨n, hn⟩⟩
  · rintro ⟨q1, h1, h2⟩
    obtain ⟨n1, h1⟩ := z_ex_iff.mp h1
    obtain ⟨n2, h2⟩ := z_ex_iff.mp h2
    refine ⟨max n1 n2 + 1, ?_⟩
    simp only [z_run, h, z_run_le (Nat.le_max_left n1 n2) h1]
    exact z_run_le (Nat.le_max_right n1 n2) h2
theorem z_stp_I {m pc : Nat} {mi : z_I} {i : Instr} {len : Nat} {ls : z_L} {st : List z_V} {M : z_M} {n : z_N} (hm : z_mts[m]? = some mi) (hd : decode (z_cd mi) pc = .ok (i, len)) (h : z_stI mi i len pc ls st M = some n) : z_stp m pc ls st M = some (.inl n) := by
  unfold z_stp; simp only [hm, hd, h]
theorem z_stp_R {m pc : Nat} {mi : z_I} {i : Instr} {len : Nat} {ls : z_L} {st : List z_V} {M : z_M} {r : Option z_V} (hm : z_mts[m]? = some mi) (hd : decode (z_cd mi) pc = .ok (i, len)) (h1 : z_stI mi i len pc ls st M = none) (h : z_stR mi i len st = some r) : z_stp m pc ls st M = some (.inr (.inl (r, M))) := by
  unfold z_stp; simp only [hm, hd, h1, h]
theorem z_stp_C {m pc : Nat} {mi : z_I} {i : Instr} {len : Nat} {ls : z_L} {st : List z_V} {M : z_M} {x : Nat × List z_V × List z_V} (hm : z_mts[m]? = some mi) (hd : decode (z_cd mi) pc = .ok (i, len)) (h1 : z_stI mi i len pc ls st M = none) (h2 : z_stR mi i len st = none) (h : z_stC mi i len st = some x) : z_stp m pc ls st M = some (.inr (.inr x)) := by
  unfold z_stp; simp only [hm, hd, h1, h2, h, Option.map_some]
end
section
/-! what the machine's heap is, for a memory over positions -/
theorem z_ofw (x : Int) : Int32.ofInt (z_w x) = Int32.ofInt x := by unfold z_w; rw [Int32.ofInt_toInt]
theorem z_ww (x : Int) : z_w (z_w x) = z_w x := by unfold z_w; rw [Int32.ofInt_toInt]
theorem z_wI (x : Int32) : z_w x.toInt = x.toInt := by unfold z_w; rw [Int32.ofInt_toInt]
theorem z_w_id {x : Int} (h1 : -2147483648 ≤ x) (h2 : x ≤ 2147483647) : z_w x = x := Int32.toInt_ofInt_of_le (by omega) (by omega)
theorem z_w_lo (x : Int) : -2147483648 ≤ z_w x := Int32.le_toInt _
theorem z_w_hi (x : Int) : z_w x ≤ 2147483647 := by have := Int32.toInt_lt (Int32.ofInt x); unfold z_w; omega
theorem z_ilt {x y : Int} (hx : z_w x = x) (hy : z_w y = y) : Int32.ofInt x < Int32.ofInt y ↔ x < y := by
  rw [Int32.lt_iff_toInt_lt]; unfold z_w at hx hy; rw [hx, hy]
theorem z_ile {x y : Int} (hx : z_w x = x) (hy : z_w y = y) : Int32.ofInt x ≤ Int32.ofInt y ↔ x ≤ y := by
  rw [Int32.le_iff_toInt_le]; unfold z_w at hx hy; rw [hx, hy]
theorem z_ieq {x y : Int} (hx : z_w x = x) (hy : z_w y = y) : Int32.ofInt x = Int32.ofInt y ↔ x = y := by
  constructor
  · intro h
    have := congrArg Int32.toInt h
    unfold z_w at hx hy
    rw [hx, hy] at this
    exact this
  · rintro rfl; rfl
theorem z_inat {x : Int} (hx : z_w x = x) : (Int32.ofInt x).toNatClampNeg = x.toNat := by
  rw [← Int32.toNat_toInt]; unfold z_w at hx; rw [hx]
theorem z_i0 : (0 : Int32) = Int32.ofInt 0 := by decide
theorem z_w0 : z_w 0 = 0 := by decide
theorem z_in {x : Int} {n : Nat} (hx : z_w x = x) (h0 : 0 ≤ x) (h1 : x < (n : Int)) : vp_in (Int32.ofInt x) n := by
  unfold vp_in
  rw [z_i0, z_ilt hx z_w0, z_inat hx]
  omega
/-- an index of a position, and back -/
def z_ix (s : Fin 7) (o : Nat) : Nat := if o < 21 then 21 * s.val + o else 126 + o
def z_ps (k : Nat) : z_P := if h : k / 21 < 7 then (⟨k / 21, h⟩, k % 21) else (0, k - 126)
theorem z_ixps : ∀ (s : Fin 7) (o : Nat), o < 36 → z_lv s o = true → z_ix s o < 162 ∧ z_ps (z_ix s o) = (s, o) := by decide +kernel
theorem z_psix : ∀ k, k < 162 → z_lv (z_ps k).1 (z_ps k).2 = true ∧ (z_ps k).2 < 36 ∧ z_ix (z_ps k).1 (z_ps k).2 = k := by decide +kernel
theorem z_lv36 {s : Fin 7} {o : Nat} (h : z_lv s o = true) : o < 36 := by
  unfold z_lv at h
  simp only [Bool.or_eq_true, Bool.and_eq_true, decide_eq_true_eq] at h
  omega
theorem z_lvix {s : Fin 7} {o : Nat} (h : z_lv s o = true) : z_ix s o < 162 ∧ z_ps (z_ix s o) = (s, o) := z_ixps s o (z_lv36 h) h
def z_rv (ad : Nat → Nat) (v : z_V) : Value := match v with
  | .inl x => .int (Int32.ofInt x)
  | .inr none => .null
  | .inr (some q) => .ref (ad (z_ix q.1 q.2))
theorem z_rv_cat (ad : Nat → Nat) (v : z_V) : (z_rv ad v).category = 1 := by
  rcases v with x | _ | q <;> rfl
theorem z_rv_cats (ad : Nat → Nat) (st : List z_V) : ((st.map (z_rv ad)).map fun v => v.category).sum = st.length := by
  induction st with
  | nil => rfl
  | cons v st ih =>
    simp only [List.map_cons, List.sum_cons, List.length_cons, z_rv_cat]
    simp only [List.map_map] at ih ⊢
    rw [ih]; omega
def z_fv (ad : Nat → Nat) (s : Fin 7) (k : z_S) (x : Int) : Value := match k with
  | .inl _ => .int (Int32.ofInt x)
  | .inr (q, o) => .ref (ad (z_ix (q.getD s) o))
def z_ce (ad : Nat → Nat) (cA : Nat → ClassId) (M : z_M) (q : z_P) : va_E := match z_kds[q.2]? with
  | some (.inl (ci, sl)) => .inr (ci, sl.mapIdx fun j k => z_fv ad q.1 k (M q.1 q.2 j))
  | some (.inr (t, n)) => .inl (cA t, n, if t = 3 then .inr (.inr (.inr (.inr fun j => some (ad (z_ix (z_rg (M q.1 q.2 j)) 0))))) else .inl fun j => Int32.ofInt (M q.1 q.2 j))
  | none => .inr (0, [])
def z_ws (ad : Nat → Nat) (cA : Nat → ClassId) (M : z_M) : va_W := (List.range 162).map fun k => (ad k, z_ce ad cA M (z_ps k))
theorem z_ws_at (ad : Nat → Nat) (cA : Nat → ClassId) (M : z_M) {k : Nat} (h : k < 162) : (z_ws ad cA M)[k]? = some (ad k, z_ce ad cA M (z_ps k)) := by
  unfold z_ws
  rw [List.getElem?_map, List.getElem?_range h]; rfl
theorem z_ws_get (ad : Nat → Nat) (cA : Nat → ClassId) (M : z_M) {s : Fin 7} {o : Nat} (h : z_lv s o = true) : (z_ws ad cA M)[z_ix s o]? = some (ad (z_ix s o), z_ce ad cA M (s, o)) := by
  rw [z_ws_at ad cA M (z_lvix h).1, (z_lvix h).2]
theorem z_ce_same {ad : Nat → Nat} {cA : Nat → ClassId} {M M' : z_M} {q : z_P} (h : ∀ j, M' q.1 q.2 j = M q.1 q.2 j) : z_ce ad cA M' q = z_ce ad cA M q := by
  unfold z_ce
  simp only [h]
theorem z_ws_set {ad : Nat → Nat} {cA : Nat → ClassId} {M M' : z_M} {s : Fin 7} {o : Nat} (h : z_lv s o = true) (hM : ∀ s' o' j, ¬ (s' = s ∧ o' = o) → M' s' o' j = M s' o' j) {e : va_E} (he : e = z_ce ad cA M' (s, o)) : (z_ws ad cA M).set (z_ix s o) (ad (z_ix s o), e) = z_ws ad cA M' := by
  subst he
  refine List.ext_getElem? fun k => ?_
  have hk := z_lvix h
  rcases Nat.lt_or_ge k 162 with h1 | h1
  · rw [List.getElem?_set, z_ws_at ad cA M' h1]
    by_cases e : z_ix s o = k
    · subst e
      rw [if_pos rfl, if_pos (by simp [z_ws, h1]), hk.2]
    · rw [if_neg e, z_ws_at ad cA M h1]
      congr 1
      refine Prod.ext rfl ?_
      refine (z_ce_same fun j => hM _ _ j ?_).symm
      rintro ⟨a, b⟩
      have := (z_psix k h1).2.2
      rw [a, b] at this
      exact e this
  · rw [List.getElem?_eq_none (by simpa [z_ws] using h1), List.getElem?_eq_none (by simpa [z_ws] using h1)]
/-- a memory in whose cells are ints of 32 bits -/
def z_okM (M : z_M) : Prop := ∀ s o j, z_w (M s o j) = M s o j
def z_okV (v : z_V) : Prop := ∀ x, v = .inl x → z_w x = x
def z_okS (st : List z_V) : Prop := ∀ v ∈ st, z_okV v
def z_okL (ls : z_L) : Prop := ∀ (i : Nat) (v : z_V), ls[i]? = some (some v) → z_okV v
theorem z_okM_up {M : z_M} (h : z_okM M) {s : Fin 7} {o j : Nat} {v : Int} (hv : z_w v = v) : z_okM (z_up M s o j v) := by
  intro s' o' j'
  unfold z_up
  split
  · exact hv
  · exact h _ _ _
theorem z_okM_cp {M : z_M} (h : z_okM M) {s0 s1 : Fin 7} {o0 o1 b d n : Nat} : z_okM (z_cp M s0 o0 s1 o1 b d n) := by
  intro s' o' j'
  unfold z_cp
  split
  · exact h _ _ _
  · exact h _ _ _
theorem z_okI {x : Int} (h : z_w x = x) : z_okV (.inl x) := fun y e => by cases e; exact h
theorem z_okR (q : Option z_P) : z_okV (.inr q) := fun y e => by cases e
theorem z_okS_cons {v : z_V} {st : List z_V} : z_okS (v :: st) ↔ z_okV v ∧ z_okS st := by
  unfold z_okS
  simp only [List.mem_cons, forall_eq_or_imp]
theorem z_okL_set {ls : z_L} (h : z_okL ls) {i : Nat} {v : z_V} (hv : z_okV v) : z_okL (ls.set i (some v)) := by
  intro j w hw
  rw [List.getElem?_set] at hw
  split at hw
  · split at hw
    · cases hw; exact hv
    · cases hw
  · exact h j w hw
/-- the locals -/
def z_RL (ad : Nat → Nat) (ls : z_L) (Ls : Array Slot) (nL : Nat) : Prop := Ls.size = nL ∧ lv_wf Ls ∧ ls.length = nL ∧ ∀ (i : Nat) (v : z_V), ls[i]? = some (some v) → Ls[i]? = some (.val (z_rv ad v))
def z_asc (ad : Nat → Nat) (ls : z_L) : List (Nat × Value) := (List.range ls.length).filterMap fun i => match ls[i]? with
  | some (some v) => some (i, z_rv ad v)
  | _ => none
theorem z_asc_mem {ad : Nat → Nat} {ls : z_L} {i : Nat} {w : Value} : (i, w) ∈ z_asc ad ls ↔ ∃ v, ls[i]? = some (some v) ∧ w = z_rv ad v := by
  unfold z_asc
  rw [List.mem_filterMap]
  constructor
  · rintro ⟨j, hj, h⟩
    split at h
    · rename_i v hv
      cases h
      exact ⟨v, hv, rfl⟩
    · cases h
  · rintro ⟨v, hv, rfl⟩
    refine ⟨i, List.mem_range.mpr (List.getElem?_eq_some_iff.mp hv).1, ?_⟩
    rw [hv]
theorem z_RL_has {ad : Nat → Nat} {ls : z_L} {Ls : Array Slot} {nL : Nat} (h : z_RL ad ls Ls nL) : lv_has Ls nL (z_asc ad ls) := by
  refine ⟨h.1, h.2.1, ?_⟩
  rintro ⟨i, w⟩ hq
  obtain ⟨v, hv, rfl⟩ := z_asc_mem.mp hq
  exact h.2.2.2 i v hv
theorem z_RL_set {ad : Nat → Nat} {ls : z_L} {Ls Ls' : Array Slot} {nL i : Nat} {v : z_V} {w : Value} (h : z_RL ad ls Ls nL) (hw : w = z_rv ad v) (h' : lv_has Ls' nL ((i, w) :: (z_asc ad ls).filter (fun q => !(q.1 == i) && !(q.1 + 1 == i && q.2.category == 2)))) : z_RL ad (ls.set i (some v)) Ls' nL := by
  subst hw
  refine ⟨h'.1, h'.2.1, by rw [List.length_set]; exact h.2.2.1, fun j u hj => ?_⟩
  rw [List.getElem?_set] at hj
  split at hj
  · rename_i e
    split at hj
    · cases hj
      subst e
      exact h'.2.2 (i, _) List.mem_cons_self
    · cases hj
  · rename_i e
    refine h'.2.2 (j, z_rv ad u) (List.mem_cons_of_mem _ (List.mem_filter.mpr ⟨z_asc_mem.mpr ⟨u, hj, rfl⟩, ?_⟩))
    have e' : ¬ j = i := fun x => e x.symm
    simp [e', z_rv_cat]
theorem z_lg_sl (ad : Nat → Nat) (as : List z_V) : lg_sl (as.map (z_rv ad)) = as.map fun v => Slot.val (z_rv ad v) := by
  induction as with
  | nil => rfl
  | cons v as ih =>
    unfold lg_sl at ih ⊢
    rw [List.map_cons, List.flatMap_cons, ih, if_neg (by rw [z_rv_cat]; decide)]
    rfl
theorem z_args_mem {ad : Nat → Nat} : ∀ (as : List z_V) (n i : Nat) (v : z_V), as[i]? = some v → (n + i, z_rv ad v) ∈ lv_args n (as.map (z_rv ad)) := by
  intro as
  induction as with
  | nil => intro n i v h; simp at h
  | cons u as ih =>
    intro n i v h
    rw [List.map_cons]
    unfold lv_args
    rw [if_neg (by rw [z_rv_cat]; decide)]
    cases i with
    | zero => simp at h; subst h; exact List.mem_cons_self
    | succ i =>
      simp at h
      have := ih (n + 1) i v h
      rw [show n + 1 + i = n + (i + 1) by omega] at this
      exact List.mem_cons_of_mem _ this
theorem z_RL_entry {ad : Nat → Nat} {as : List z_V} {n : Nat} (h : as.length ≤ n) : z_RL ad (as.map some ++ List.replicate (n - as.length) none) ((lg_sl (as.map (z_rv ad)) ++ List.replicate (n - (lg_sl (as.map (z_rv ad))).length) Slot.unset).toArray) n := by
  have hl := lv_entry (as.map (z_rv ad)) (n := n) (by rw [z_lg_sl, List.length_map]; exact h)
  refine ⟨hl.1, hl.2.1, by simp; omega, fun i v hv => ?_⟩
  have hi : as[i]? = some v := by
    rw [List.getElem?_append] at hv
    split at hv
    · rw [List.getElem?_map] at hv
      cases hx : as[i]? with
      | none => rw [hx] at hv; cases hv
      | some x => rw [hx] at hv; cases hv; rfl
    · rw [List.getElem?_replicate] at hv
      split at hv <;> cases hv
  have := hl.2.2 _ (z_args_mem (ad := ad) as 0 i v hi)
  rw [Nat.zero_add] at this
  exact this
end
section
/-! the words, by their places in the tables -/
def z_G : List Cond := lw_tbl.filter goodWord
theorem z_m0 {i : Nat} {w : Cond} (h : (k2_sels lw_privs)[i]? = some w) (g : goodWord w = true) : w ∈ z_G := List.mem_filter.mpr ⟨List.mem_append_left _ (List.mem_of_getElem? h), g⟩
theorem z_m1 {i : Nat} {w : Cond} (h : tables_1_1[i]? = some w) (g : goodWord w = true) : w ∈ z_G := List.mem_filter.mpr ⟨List.mem_append_right _ (List.mem_append_left _ (List.mem_of_getElem? h)), g⟩
theorem z_m2 {i : Nat} {w : Cond} (h : tables_1_2[i]? = some w) (g : goodWord w = true) : w ∈ z_G := List.mem_filter.mpr ⟨List.mem_append_right _ (List.mem_append_right _ (List.mem_append_left _ (List.mem_of_getElem? h))), g⟩
theorem z_m3 {i : Nat} {w : Cond} (h : tables_1_3[i]? = some w) (g : goodWord w = true) : w ∈ z_G := List.mem_filter.mpr ⟨List.mem_append_right _ (List.mem_append_right _ (List.mem_append_right _ (List.mem_append_left _ (List.mem_of_getElem? h)))), g⟩
theorem z_m4 {i : Nat} {w : Cond} (h : tables_1_4[i]? = some w) (g : goodWord w = true) : w ∈ z_G := List.mem_filter.mpr ⟨List.mem_append_right _ (List.mem_append_right _ (List.mem_append_right _ (List.mem_append_right _ (List.mem_of_getElem? h)))), g⟩
theorem z_g0 : Cond.code yX0_append cX0_append 6 (some .int) ∈ z_G := z_m2 (i := 83) rfl rfl
theorem z_g1 : Cond.initialized RX0 ∈ z_G := z_m1 (i := 4) rfl rfl
theorem z_g2 : Cond.instanceMethod yX0_append ∈ z_G := z_m2 (i := 81) rfl rfl
theorem z_g3 : Cond.selects RX0 yX0_append yX0_append ∈ z_G := z_m2 (i := 82) rfl rfl
theorem z_g4 : Cond.code yX0_copyFrom cX0_copyFrom 2 none ∈ z_G := z_m2 (i := 61) rfl rfl
theorem z_g5 : Cond.instanceMethod yX0_copyFrom ∈ z_G := z_m2 (i := 59) rfl rfl
theorem z_g6 : Cond.selects RX0 yX0_copyFrom yX0_copyFrom ∈ z_G := z_m2 (i := 60) rfl rfl
theorem z_g7 : Cond.code yX0_fillBuckets cX0_fillBuckets 3 none ∈ z_G := z_m3 (i := 11) rfl rfl
theorem z_g8 : Cond.instanceMethod yX0_fillBuckets ∈ z_G := z_m3 (i := 9) rfl rfl
theorem z_g9 : Cond.selects RX0 yX0_fillBuckets yX0_fillBuckets ∈ z_G := z_m3 (i := 10) rfl rfl
theorem z_g10 : Cond.code yX0_has cX0_has 2 (some .boolean) ∈ z_G := z_m2 (i := 95) rfl rfl
theorem z_g11 : Cond.instanceMethod yX0_has ∈ z_G := z_m2 (i := 93) rfl rfl
theorem z_g12 : Cond.selects RX0 yX0_has yX0_has ∈ z_G := z_m2 (i := 94) rfl rfl
theorem z_g13 : Cond.code yX0_heldOf cX0_heldOf 4 (some .int) ∈ z_G := z_m3 (i := 79) rfl rfl
theorem z_g14 : Cond.instanceMethod yX0_heldOf ∈ z_G := z_m3 (i := 77) rfl rfl
theorem z_g15 : Cond.selects RX0 yX0_heldOf yX0_heldOf ∈ z_G := z_m3 (i := 78) rfl rfl
theorem z_g16 : Cond.code yX0_takeUnits cX0_takeUnits 3 (some .int) ∈ z_G := z_m3 (i := 21) rfl rfl
theorem z_g17 : Cond.instanceMethod yX0_takeUnits ∈ z_G := z_m3 (i := 19) rfl rfl
theorem z_g18 : Cond.selects RX0 yX0_takeUnits yX0_takeUnits ∈ z_G := z_m3 (i := 20) rfl rfl
theorem z_g19 : Cond.code yX0_unitsOf cX0_unitsOf 4 (some .int) ∈ z_G := z_m3 (i := 88) rfl rfl
theorem z_g20 : Cond.instanceMethod yX0_unitsOf ∈ z_G := z_m3 (i := 86) rfl rfl
theorem z_g21 : Cond.selects RX0 yX0_unitsOf yX0_unitsOf ∈ z_G := z_m3 (i := 87) rfl rfl
theorem z_g22 : Cond.code yX1_append cX1_append 3 (some .int) ∈ z_G := z_m2 (i := 71) rfl rfl
theorem z_g23 : Cond.initialized RX1 ∈ z_G := z_m1 (i := 3) rfl rfl
theorem z_g24 : Cond.instanceMethod yX1_append ∈ z_G := z_m2 (i := 69) rfl rfl
theorem z_g25 : Cond.selects RX1 yX1_append yX1_append ∈ z_G := z_m2 (i := 70) rfl rfl
theorem z_g26 : Cond.code yX1_copyFrom cX1_copyFrom 2 none ∈ z_G := z_m2 (i := 54) rfl rfl
theorem z_g27 : Cond.instanceMethod yX1_copyFrom ∈ z_G := z_m2 (i := 52) rfl rfl
theorem z_g28 : Cond.selects RX1 yX1_copyFrom yX1_copyFrom ∈ z_G := z_m2 (i := 53) rfl rfl
theorem z_g29 : Cond.code yX1_has cX1_has 2 (some .boolean) ∈ z_G := z_m2 (i := 79) rfl rfl
theorem z_g30 : Cond.instanceMethod yX1_has ∈ z_G := z_m2 (i := 77) rfl rfl
theorem z_g31 : Cond.selects RX1 yX1_has yX1_has ∈ z_G := z_m2 (i := 78) rfl rfl
theorem z_g32 : Cond.code yX2_dropOldest cX2_dropOldest 3 none ∈ z_G := z_m2 (i := 42) rfl rfl
theorem z_g33 : Cond.initialized RX2 ∈ z_G := z_m1 (i := 6) rfl rfl
theorem z_g34 : Cond.instanceMethod yX2_dropOldest ∈ z_G := z_m2 (i := 41) rfl rfl
theorem z_g35 : Cond.selects RX2 yX2_dropOldest yX2_dropOldest ∈ z_G := z_m0 (i := 0) rfl rfl
theorem z_g36 : Cond.code yX2_push cX2_push 3 none ∈ z_G := z_m2 (i := 38) rfl rfl
theorem z_g37 : Cond.instanceMethod yX2_push ∈ z_G := z_m2 (i := 36) rfl rfl
theorem z_g38 : Cond.selects RX2 yX2_push yX2_push ∈ z_G := z_m2 (i := 37) rfl rfl
theorem z_g39 : Cond.code yX2_roomAt cX2_roomAt 2 (some (.object "DeficitCircles$State")) ∈ z_G := z_m2 (i := 46) rfl rfl
theorem z_g40 : Cond.instanceMethod yX2_roomAt ∈ z_G := z_m2 (i := 45) rfl rfl
theorem z_g41 : Cond.selects RX2 yX2_roomAt yX2_roomAt ∈ z_G := z_m0 (i := 1) rfl rfl
theorem z_g42 : Cond.code yX2_takeLatest cX2_takeLatest 3 none ∈ z_G := z_m3 (i := 62) rfl rfl
theorem z_g43 : Cond.instanceMethod yX2_takeLatest ∈ z_G := z_m3 (i := 60) rfl rfl
theorem z_g44 : Cond.selects RX2 yX2_takeLatest yX2_takeLatest ∈ z_G := z_m3 (i := 61) rfl rfl
theorem z_g45 : Cond.code yX3_allSizes cX3_allSizes 1 (some .int) ∈ z_G := z_m3 (i := 165) rfl rfl
theorem z_g46 : Cond.initialized RX3 ∈ z_G := z_m1 (i := 5) rfl rfl
theorem z_g47 : Cond.instanceMethod yX3_allSizes ∈ z_G := z_m3 (i := 163) rfl rfl
theorem z_g48 : Cond.selects RX3 yX3_allSizes yX3_allSizes ∈ z_G := z_m3 (i := 164) rfl rfl
theorem z_g49 : Cond.code yX3_append cX3_append 5 (some .int) ∈ z_G := z_m2 (i := 121) rfl rfl
theorem z_g50 : Cond.instanceMethod yX3_append ∈ z_G := z_m2 (i := 119) rfl rfl
theorem z_g51 : Cond.selects RX3 yX3_append yX3_append ∈ z_G := z_m2 (i := 120) rfl rfl
theorem z_g52 : Cond.code yX3_copyFrom cX3_copyFrom 2 none ∈ z_G := z_m2 (i := 66) rfl rfl
theorem z_g53 : Cond.instanceMethod yX3_copyFrom ∈ z_G := z_m2 (i := 64) rfl rfl
theorem z_g54 : Cond.selects RX3 yX3_copyFrom yX3_copyFrom ∈ z_G := z_m2 (i := 65) rfl rfl
theorem z_g55 : Cond.code yX3_firstOf cX3_firstOf 4 (some .int) ∈ z_G := z_m2 (i := 209) rfl rfl
theorem z_g56 : Cond.instanceMethod yX3_firstOf ∈ z_G := z_m2 (i := 207) rfl rfl
theorem z_g57 : Cond.selects RX3 yX3_firstOf yX3_firstOf ∈ z_G := z_m2 (i := 208) rfl rfl
theorem z_g58 : Cond.code yX3_has cX3_has 2 (some .boolean) ∈ z_G := z_m2 (i := 145) rfl rfl
theorem z_g59 : Cond.instanceMethod yX3_has ∈ z_G := z_m2 (i := 143) rfl rfl
theorem z_g60 : Cond.selects RX3 yX3_has yX3_has ∈ z_G := z_m2 (i := 144) rfl rfl
theorem z_g61 : Cond.code yX3_isFull cX3_isFull 1 (some .boolean) ∈ z_G := z_m2 (i := 113) rfl rfl
theorem z_g62 : Cond.instanceMethod yX3_isFull ∈ z_G := z_m2 (i := 111) rfl rfl
theorem z_g63 : Cond.selects RX3 yX3_isFull yX3_isFull ∈ z_G := z_m2 (i := 112) rfl rfl
theorem z_g64 : Cond.code yX3_isWaiting cX3_isWaiting 2 (some .boolean) ∈ z_G := z_m2 (i := 158) rfl rfl
theorem z_g65 : Cond.instanceMethod yX3_isWaiting ∈ z_G := z_m2 (i := 156) rfl rfl
theorem z_g66 : Cond.selects RX3 yX3_isWaiting yX3_isWaiting ∈ z_G := z_m2 (i := 157) rfl rfl
theorem z_g67 : Cond.code yX3_leaveLine cX3_leaveLine 4 none ∈ z_G := z_m2 (i := 218) rfl rfl
theorem z_g68 : Cond.instanceMethod yX3_leaveLine ∈ z_G := z_m2 (i := 216) rfl rfl
theorem z_g69 : Cond.selects RX3 yX3_leaveLine yX3_leaveLine ∈ z_G := z_m2 (i := 217) rfl rfl
theorem z_g70 : Cond.code yX3_sizesAheadOf cX3_sizesAheadOf 5 (some .int) ∈ z_G := z_m3 (i := 144) rfl rfl
theorem z_g71 : Cond.instanceMethod yX3_sizesAheadOf ∈ z_G := z_m3 (i := 142) rfl rfl
theorem z_g72 : Cond.selects RX3 yX3_sizesAheadOf yX3_sizesAheadOf ∈ z_G := z_m3 (i := 143) rfl rfl
theorem z_g73 : Cond.code yX3_sizesOf cX3_sizesOf 5 (some .int) ∈ z_G := z_m3 (i := 97) rfl rfl
theorem z_g74 : Cond.instanceMethod yX3_sizesOf ∈ z_G := z_m3 (i := 95) rfl rfl
theorem z_g75 : Cond.selects RX3 yX3_sizesOf yX3_sizesOf ∈ z_G := z_m3 (i := 96) rfl rfl
theorem z_g76 : Cond.code yX3_waitingAt cX3_waitingAt 2 (some .int) ∈ z_G := z_m2 (i := 141) rfl rfl
theorem z_g77 : Cond.instanceMethod yX3_waitingAt ∈ z_G := z_m2 (i := 139) rfl rfl
theorem z_g78 : Cond.selects RX3 yX3_waitingAt yX3_waitingAt ∈ z_G := z_m2 (i := 140) rfl rfl
theorem z_g79 : Cond.code yX3_waitsOf cX3_waitsOf 5 (some .int) ∈ z_G := z_m2 (i := 233) rfl rfl
theorem z_g80 : Cond.instanceMethod yX3_waitsOf ∈ z_G := z_m2 (i := 231) rfl rfl
theorem z_g81 : Cond.selects RX3 yX3_waitsOf yX3_waitsOf ∈ z_G := z_m2 (i := 232) rfl rfl
theorem z_g82 : Cond.code yX4_admit cX4_admit 3 (some .int) ∈ z_G := z_m2 (i := 117) rfl rfl
theorem z_g83 : Cond.initialized RX4 ∈ z_G := z_m1 (i := 2) rfl rfl
theorem z_g84 : Cond.instanceMethod yX4_admit ∈ z_G := z_m2 (i := 115) rfl rfl
theorem z_g85 : Cond.selects RX4 yX4_admit yX4_admit ∈ z_G := z_m2 (i := 116) rfl rfl
theorem z_g86 : Cond.code yX4_ageFor cX4_ageFor 2 (some .int) ∈ z_G := z_m2 (i := 153) rfl rfl
theorem z_g87 : Cond.instanceMethod yX4_ageFor ∈ z_G := z_m2 (i := 151) rfl rfl
theorem z_g88 : Cond.selects RX4 yX4_ageFor yX4_ageFor ∈ z_G := z_m2 (i := 152) rfl rfl
theorem z_g89 : Cond.code yX4_begin cX4_begin 2 none ∈ z_G := z_m2 (i := 214) rfl rfl
theorem z_g90 : Cond.instanceMethod yX4_begin ∈ z_G := z_m2 (i := 212) rfl rfl
theorem z_g91 : Cond.selects RX4 yX4_begin yX4_begin ∈ z_G := z_m2 (i := 213) rfl rfl
theorem z_g92 : Cond.code yX4_copyFrom cX4_copyFrom 2 none ∈ z_G := z_m2 (i := 50) rfl rfl
theorem z_g93 : Cond.instanceMethod yX4_copyFrom ∈ z_G := z_m2 (i := 48) rfl rfl
theorem z_g94 : Cond.selects RX4 yX4_copyFrom yX4_copyFrom ∈ z_G := z_m2 (i := 49) rfl rfl
theorem z_g95 : Cond.code yX4_doneJobs cX4_doneJobs 1 (some .int) ∈ z_G := z_m3 (i := 157) rfl rfl
theorem z_g96 : Cond.instanceMethod yX4_doneJobs ∈ z_G := z_m3 (i := 155) rfl rfl
theorem z_g97 : Cond.selects RX4 yX4_doneJobs yX4_doneJobs ∈ z_G := z_m3 (i := 156) rfl rfl
theorem z_g98 : Cond.code yX4_doneOf cX4_doneOf 4 (some .int) ∈ z_G := z_m3 (i := 102) rfl rfl
theorem z_g99 : Cond.instanceMethod yX4_doneOf ∈ z_G := z_m3 (i := 100) rfl rfl
theorem z_g100 : Cond.selects RX4 yX4_doneOf yX4_doneOf ∈ z_G := z_m3 (i := 101) rfl rfl
theorem z_g101 : Cond.code yX4_endOf cX4_endOf 2 (some .int) ∈ z_G := z_m3 (i := 116) rfl rfl
theorem z_g102 : Cond.instanceMethod yX4_endOf ∈ z_G := z_m3 (i := 114) rfl rfl
theorem z_g103 : Cond.selects RX4 yX4_endOf yX4_endOf ∈ z_G := z_m3 (i := 115) rfl rfl
theorem z_g104 : Cond.code yX4_firstOld cX4_firstOld 3 (some .int) ∈ z_G := z_m2 (i := 137) rfl rfl
theorem z_g105 : Cond.instanceMethod yX4_firstOld ∈ z_G := z_m2 (i := 135) rfl rfl
theorem z_g106 : Cond.selects RX4 yX4_firstOld yX4_firstOld ∈ z_G := z_m2 (i := 136) rfl rfl
theorem z_g107 : Cond.code yX4_groupFor cX4_groupFor 2 (some .int) ∈ z_G := z_m2 (i := 172) rfl rfl
theorem z_g108 : Cond.instanceMethod yX4_groupFor ∈ z_G := z_m2 (i := 170) rfl rfl
theorem z_g109 : Cond.selects RX4 yX4_groupFor yX4_groupFor ∈ z_G := z_m2 (i := 171) rfl rfl
theorem z_g110 : Cond.code yX4_isOld cX4_isOld 3 (some .boolean) ∈ z_G := z_m2 (i := 149) rfl rfl
theorem z_g111 : Cond.instanceMethod yX4_isOld ∈ z_G := z_m2 (i := 147) rfl rfl
theorem z_g112 : Cond.selects RX4 yX4_isOld yX4_isOld ∈ z_G := z_m2 (i := 148) rfl rfl
theorem z_g113 : Cond.code yX4_leftOf cX4_leftOf 3 (some .int) ∈ z_G := z_m3 (i := 120) rfl rfl
theorem z_g114 : Cond.instanceMethod yX4_leftOf ∈ z_G := z_m3 (i := 118) rfl rfl
theorem z_g115 : Cond.selects RX4 yX4_leftOf yX4_leftOf ∈ z_G := z_m3 (i := 119) rfl rfl
theorem z_g116 : Cond.code yX4_noteWait cX4_noteWait 3 none ∈ z_G := z_m2 (i := 222) rfl rfl
theorem z_g117 : Cond.instanceMethod yX4_noteWait ∈ z_G := z_m2 (i := 221) rfl rfl
theorem z_g118 : Cond.selects RX4 yX4_noteWait yX4_noteWait ∈ z_G := z_m0 (i := 11) rfl rfl
theorem z_g119 : Cond.code yX4_oldJobs cX4_oldJobs 3 (some .int) ∈ z_G := z_m3 (i := 161) rfl rfl
theorem z_g120 : Cond.instanceMethod yX4_oldJobs ∈ z_G := z_m3 (i := 159) rfl rfl
theorem z_g121 : Cond.selects RX4 yX4_oldJobs yX4_oldJobs ∈ z_G := z_m3 (i := 160) rfl rfl
theorem z_g122 : Cond.code yX4_payFromClass cX4_payFromClass 4 none ∈ z_G := z_m2 (i := 229) rfl rfl
theorem z_g123 : Cond.instanceMethod yX4_payFromClass ∈ z_G := z_m2 (i := 228) rfl rfl
theorem z_g124 : Cond.selects RX4 yX4_payFromClass yX4_payFromClass ∈ z_G := z_m0 (i := 12) rfl rfl
theorem z_g125 : Cond.code yX4_payFromGroup cX4_payFromGroup 4 none ∈ z_G := z_m2 (i := 238) rfl rfl
theorem z_g126 : Cond.instanceMethod yX4_payFromGroup ∈ z_G := z_m2 (i := 237) rfl rfl
theorem z_g127 : Cond.selects RX4 yX4_payFromGroup yX4_payFromGroup ∈ z_G := z_m0 (i := 13) rfl rfl
theorem z_g128 : Cond.code yX4_serveUnit cX4_serveUnit 2 (some .int) ∈ z_G := z_m3 (i := 7) rfl rfl
theorem z_g129 : Cond.instanceMethod yX4_serveUnit ∈ z_G := z_m3 (i := 5) rfl rfl
theorem z_g130 : Cond.selects RX4 yX4_serveUnit yX4_serveUnit ∈ z_G := z_m3 (i := 6) rfl rfl
theorem z_g131 : Cond.code yX4_sizesOfGroup cX4_sizesOfGroup 5 (some .int) ∈ z_G := z_m3 (i := 84) rfl rfl
theorem z_g132 : Cond.instanceMethod yX4_sizesOfGroup ∈ z_G := z_m3 (i := 82) rfl rfl
theorem z_g133 : Cond.selects RX4 yX4_sizesOfGroup yX4_sizesOfGroup ∈ z_G := z_m3 (i := 83) rfl rfl
theorem z_g134 : Cond.code yX4_stageOf cX4_stageOf 2 (some .int) ∈ z_G := z_m3 (i := 106) rfl rfl
theorem z_g135 : Cond.instanceMethod yX4_stageOf ∈ z_G := z_m3 (i := 104) rfl rfl
theorem z_g136 : Cond.selects RX4 yX4_stageOf yX4_stageOf ∈ z_G := z_m3 (i := 105) rfl rfl
theorem z_g137 : Cond.code yX4_waitsOfGroup cX4_waitsOfGroup 4 (some .int) ∈ z_G := z_m3 (i := 3) rfl rfl
theorem z_g138 : Cond.instanceMethod yX4_waitsOfGroup ∈ z_G := z_m3 (i := 1) rfl rfl
theorem z_g139 : Cond.selects RX4 yX4_waitsOfGroup yX4_waitsOfGroup ∈ z_G := z_m3 (i := 2) rfl rfl
theorem z_g140 : Cond.code yX4_whyNotAdmit cX4_whyNotAdmit 3 (some .int) ∈ z_G := z_m2 (i := 107) rfl rfl
theorem z_g141 : Cond.instanceMethod yX4_whyNotAdmit ∈ z_G := z_m2 (i := 105) rfl rfl
theorem z_g142 : Cond.selects RX4 yX4_whyNotAdmit yX4_whyNotAdmit ∈ z_G := z_m2 (i := 106) rfl rfl
theorem z_g143 : Cond.code yX5_append cX5_append 2 (some .int) ∈ z_G := z_m3 (i := 29) rfl rfl
theorem z_g144 : Cond.initialized RX5 ∈ z_G := z_m1 (i := 7) rfl rfl
theorem z_g145 : Cond.instanceMethod yX5_append ∈ z_G := z_m3 (i := 27) rfl rfl
theorem z_g146 : Cond.selects RX5 yX5_append yX5_append ∈ z_G := z_m3 (i := 28) rfl rfl
theorem z_g147 : Cond.code yX5_digitAt cX5_digitAt 2 (some .int) ∈ z_G := z_m3 (i := 49) rfl rfl
theorem z_g148 : Cond.instanceMethod yX5_digitAt ∈ z_G := z_m3 (i := 47) rfl rfl
theorem z_g149 : Cond.selects RX5 yX5_digitAt yX5_digitAt ∈ z_G := z_m3 (i := 48) rfl rfl
theorem z_g150 : Cond.code yX5_fault cX5_fault 3 (some .int) ∈ z_G := z_m3 (i := 41) rfl rfl
theorem z_g151 : Cond.instanceMethod yX5_fault ∈ z_G := z_m3 (i := 39) rfl rfl
theorem z_g152 : Cond.selects RX5 yX5_fault yX5_fault ∈ z_G := z_m3 (i := 40) rfl rfl
theorem z_g153 : Cond.code yX5_partAfter cX5_partAfter 3 (some .int) ∈ z_G := z_m3 (i := 44) rfl rfl
theorem z_g154 : Cond.static yX5_partAfter ∈ z_G := z_m3 (i := 43) rfl rfl
theorem z_g155 : Cond.code yX5_sizeAt cX5_sizeAt 4 (some .int) ∈ z_G := z_m3 (i := 53) rfl rfl
theorem z_g156 : Cond.instanceMethod yX5_sizeAt ∈ z_G := z_m3 (i := 51) rfl rfl
theorem z_g157 : Cond.selects RX5 yX5_sizeAt yX5_sizeAt ∈ z_G := z_m3 (i := 52) rfl rfl
theorem z_g158 : Cond.code yX6_lookAt cX6_lookAt 5 (some .int) ∈ z_G := z_m2 (i := 182) rfl rfl
theorem z_g159 : Cond.initialized RX6 ∈ z_G := z_m1 (i := 8) rfl rfl
theorem z_g160 : Cond.instanceMethod yX6_lookAt ∈ z_G := z_m2 (i := 181) rfl rfl
theorem z_g161 : Cond.selects RX6 yX6_lookAt yX6_lookAt ∈ z_G := z_m0 (i := 6) rfl rfl
theorem z_g162 : Cond.code yX6_nextJob cX6_nextJob 4 (some .int) ∈ z_G := z_m2 (i := 133) rfl rfl
theorem z_g163 : Cond.instanceMethod yX6_nextJob ∈ z_G := z_m2 (i := 131) rfl rfl
theorem z_g164 : Cond.selects RX6 yX6_nextJob yX6_nextJob ∈ z_G := z_m2 (i := 132) rfl rfl
theorem z_g165 : Cond.code yX6_noteFirstJobs cX6_noteFirstJobs 3 none ∈ z_G := z_m2 (i := 162) rfl rfl
theorem z_g166 : Cond.instanceMethod yX6_noteFirstJobs ∈ z_G := z_m2 (i := 161) rfl rfl
theorem z_g167 : Cond.selects RX6 yX6_noteFirstJobs yX6_noteFirstJobs ∈ z_G := z_m0 (i := 3) rfl rfl
theorem z_g168 : Cond.code yX6_noteJob cX6_noteJob 5 none ∈ z_G := z_m2 (i := 167) rfl rfl
theorem z_g169 : Cond.instanceMethod yX6_noteJob ∈ z_G := z_m2 (i := 166) rfl rfl
theorem z_g170 : Cond.selects RX6 yX6_noteJob yX6_noteJob ∈ z_G := z_m0 (i := 4) rfl rfl
theorem z_g171 : Cond.code yX6_presentGroupIsNext cX6_presentGroupIsNext 4 (some .boolean) ∈ z_G := z_m2 (i := 178) rfl rfl
theorem z_g172 : Cond.instanceMethod yX6_presentGroupIsNext ∈ z_G := z_m2 (i := 177) rfl rfl
theorem z_g173 : Cond.selects RX6 yX6_presentGroupIsNext yX6_presentGroupIsNext ∈ z_G := z_m0 (i := 5) rfl rfl
theorem z_g174 : Cond.code yX6_roundsBelow cX6_roundsBelow 3 (some .int) ∈ z_G := z_m2 (i := 194) rfl rfl
theorem z_g175 : Cond.static yX6_roundsBelow ∈ z_G := z_m2 (i := 193) rfl rfl
theorem z_g176 : Cond.code yX6_skipClassRounds cX6_skipClassRounds 6 none ∈ z_G := z_m2 (i := 190) rfl rfl
theorem z_g177 : Cond.instanceMethod yX6_skipClassRounds ∈ z_G := z_m2 (i := 189) rfl rfl
theorem z_g178 : Cond.selects RX6 yX6_skipClassRounds yX6_skipClassRounds ∈ z_G := z_m0 (i := 8) rfl rfl
theorem z_g179 : Cond.code yX6_skipGroupRounds cX6_skipGroupRounds 5 none ∈ z_G := z_m2 (i := 205) rfl rfl
theorem z_g180 : Cond.instanceMethod yX6_skipGroupRounds ∈ z_G := z_m2 (i := 204) rfl rfl
theorem z_g181 : Cond.selects RX6 yX6_skipGroupRounds yX6_skipGroupRounds ∈ z_G := z_m0 (i := 10) rfl rfl
theorem z_g182 : Cond.code yX6_walkClasses cX6_walkClasses 6 (some .boolean) ∈ z_G := z_m2 (i := 186) rfl rfl
theorem z_g183 : Cond.instanceMethod yX6_walkClasses ∈ z_G := z_m2 (i := 185) rfl rfl
theorem z_g184 : Cond.selects RX6 yX6_walkClasses yX6_walkClasses ∈ z_G := z_m0 (i := 7) rfl rfl
theorem z_g185 : Cond.code yX6_walkGroups cX6_walkGroups 6 (some .boolean) ∈ z_G := z_m2 (i := 201) rfl rfl
theorem z_g186 : Cond.instanceMethod yX6_walkGroups ∈ z_G := z_m2 (i := 200) rfl rfl
theorem z_g187 : Cond.selects RX6 yX6_walkGroups yX6_walkGroups ∈ z_G := z_m0 (i := 9) rfl rfl
theorem z_g188 : Cond.code yX7_add cX7_add 4 (some .int) ∈ z_G := z_m2 (i := 103) rfl rfl
theorem z_g189 : Cond.initialized RX7 ∈ z_G := z_m1 (i := 1) rfl rfl
theorem z_g190 : Cond.instanceMethod yX7_add ∈ z_G := z_m2 (i := 101) rfl rfl
theorem z_g191 : Cond.selects RX7 yX7_add yX7_add ∈ z_G := z_m2 (i := 102) rfl rfl
theorem z_g192 : Cond.code yX7_addClass cX7_addClass 5 (some .int) ∈ z_G := z_m2 (i := 75) rfl rfl
theorem z_g193 : Cond.instanceMethod yX7_addClass ∈ z_G := z_m2 (i := 73) rfl rfl
theorem z_g194 : Cond.selects RX7 yX7_addClass yX7_addClass ∈ z_G := z_m2 (i := 74) rfl rfl
theorem z_g195 : Cond.code yX7_addGroup cX7_addGroup 2 (some .int) ∈ z_G := z_m2 (i := 28) rfl rfl
theorem z_g196 : Cond.instanceMethod yX7_addGroup ∈ z_G := z_m2 (i := 26) rfl rfl
theorem z_g197 : Cond.selects RX7 yX7_addGroup yX7_addGroup ∈ z_G := z_m2 (i := 27) rfl rfl
theorem z_g198 : Cond.code yX7_beginAhead cX7_beginAhead 4 (some .int) ∈ z_G := z_m3 (i := 129) rfl rfl
theorem z_g199 : Cond.instanceMethod yX7_beginAhead ∈ z_G := z_m3 (i := 128) rfl rfl
theorem z_g200 : Cond.selects RX7 yX7_beginAhead yX7_beginAhead ∈ z_G := z_m0 (i := 14) rfl rfl
theorem z_g201 : Cond.code yX7_beginsAt cX7_beginsAt 2 (some .int) ∈ z_G := z_m3 (i := 133) rfl rfl
theorem z_g202 : Cond.instanceMethod yX7_beginsAt ∈ z_G := z_m3 (i := 131) rfl rfl
theorem z_g203 : Cond.selects RX7 yX7_beginsAt yX7_beginsAt ∈ z_G := z_m3 (i := 132) rfl rfl
theorem z_g204 : Cond.code yX7_bound cX7_bound 4 (some .int) ∈ z_G := z_m3 (i := 138) rfl rfl
theorem z_g205 : Cond.instanceMethod yX7_bound ∈ z_G := z_m3 (i := 136) rfl rfl
theorem z_g206 : Cond.selects RX7 yX7_bound yX7_bound ∈ z_G := z_m3 (i := 137) rfl rfl
theorem z_g207 : Cond.code yX7_classOf cX7_classOf 3 (some .int) ∈ z_G := z_m3 (i := 92) rfl rfl
theorem z_g208 : Cond.instanceMethod yX7_classOf ∈ z_G := z_m3 (i := 90) rfl rfl
theorem z_g209 : Cond.selects RX7 yX7_classOf yX7_classOf ∈ z_G := z_m3 (i := 91) rfl rfl
theorem z_g210 : Cond.code yX7_clearText cX7_clearText 2 (some .int) ∈ z_G := z_m3 (i := 33) rfl rfl
theorem z_g211 : Cond.instanceMethod yX7_clearText ∈ z_G := z_m3 (i := 31) rfl rfl
theorem z_g212 : Cond.selects RX7 yX7_clearText yX7_clearText ∈ z_G := z_m3 (i := 32) rfl rfl
theorem z_g213 : Cond.code yX7_count cX7_count 2 (some .int) ∈ z_G := z_m3 (i := 153) rfl rfl
theorem z_g214 : Cond.instanceMethod yX7_count ∈ z_G := z_m3 (i := 151) rfl rfl
theorem z_g215 : Cond.selects RX7 yX7_count yX7_count ∈ z_G := z_m3 (i := 152) rfl rfl
theorem z_g216 : Cond.code yX7_group cX7_group 3 (some .int) ∈ z_G := z_m3 (i := 74) rfl rfl
theorem z_g217 : Cond.instanceMethod yX7_group ∈ z_G := z_m3 (i := 72) rfl rfl
theorem z_g218 : Cond.selects RX7 yX7_group yX7_group ∈ z_G := z_m3 (i := 73) rfl rfl
theorem z_g219 : Cond.code yX7_isQuantum cX7_isQuantum 1 (some .boolean) ∈ z_G := z_m2 (i := 31) rfl rfl
theorem z_g220 : Cond.static yX7_isQuantum ∈ z_G := z_m2 (i := 30) rfl rfl
theorem z_g221 : Cond.code yX7_isWithin cX7_isWithin 3 (some .boolean) ∈ z_G := z_m2 (i := 34) rfl rfl
theorem z_g222 : Cond.static yX7_isWithin ∈ z_G := z_m2 (i := 33) rfl rfl
theorem z_g223 : Cond.code yX7_job cX7_job 3 (some .int) ∈ z_G := z_m3 (i := 110) rfl rfl
theorem z_g224 : Cond.instanceMethod yX7_job ∈ z_G := z_m3 (i := 108) rfl rfl
theorem z_g225 : Cond.selects RX7 yX7_job yX7_job ∈ z_G := z_m3 (i := 109) rfl rfl
theorem z_g226 : Cond.code yX7_keep cX7_keep 1 (some .int) ∈ z_G := z_m3 (i := 66) rfl rfl
theorem z_g227 : Cond.instanceMethod yX7_keep ∈ z_G := z_m3 (i := 64) rfl rfl
theorem z_g228 : Cond.selects RX7 yX7_keep yX7_keep ∈ z_G := z_m3 (i := 65) rfl rfl
theorem z_g229 : Cond.code yX7_mark cX7_mark 1 (some .int) ∈ z_G := z_m3 (i := 17) rfl rfl
theorem z_g230 : Cond.instanceMethod yX7_mark ∈ z_G := z_m3 (i := 15) rfl rfl
theorem z_g231 : Cond.selects RX7 yX7_mark yX7_mark ∈ z_G := z_m3 (i := 16) rfl rfl
theorem z_g232 : Cond.code yX7_pass cX7_pass 4 (some .int) ∈ z_G := z_m2 (i := 125) rfl rfl
theorem z_g233 : Cond.instanceMethod yX7_pass ∈ z_G := z_m2 (i := 123) rfl rfl
theorem z_g234 : Cond.selects RX7 yX7_pass yX7_pass ∈ z_G := z_m2 (i := 124) rfl rfl
theorem z_g235 : Cond.code yX7_passTick cX7_passTick 2 (some .int) ∈ z_G := z_m2 (i := 129) rfl rfl
theorem z_g236 : Cond.instanceMethod yX7_passTick ∈ z_G := z_m2 (i := 128) rfl rfl
theorem z_g237 : Cond.selects RX7 yX7_passTick yX7_passTick ∈ z_G := z_m0 (i := 2) rfl rfl
theorem z_g238 : Cond.code yX7_readJobs cX7_readJobs 7 (some .int) ∈ z_G := z_m3 (i := 37) rfl rfl
theorem z_g239 : Cond.instanceMethod yX7_readJobs ∈ z_G := z_m3 (i := 35) rfl rfl
theorem z_g240 : Cond.selects RX7 yX7_readJobs yX7_readJobs ∈ z_G := z_m3 (i := 36) rfl rfl
theorem z_g241 : Cond.code yX7_restore cX7_restore 1 (some .int) ∈ z_G := z_m3 (i := 70) rfl rfl
theorem z_g242 : Cond.instanceMethod yX7_restore ∈ z_G := z_m3 (i := 68) rfl rfl
theorem z_g243 : Cond.selects RX7 yX7_restore yX7_restore ∈ z_G := z_m3 (i := 69) rfl rfl
theorem z_g244 : Cond.code yX7_served cX7_served 2 (some .int) ∈ z_G := z_m3 (i := 125) rfl rfl
theorem z_g245 : Cond.instanceMethod yX7_served ∈ z_G := z_m3 (i := 123) rfl rfl
theorem z_g246 : Cond.selects RX7 yX7_served yX7_served ∈ z_G := z_m3 (i := 124) rfl rfl
theorem z_g247 : Cond.code yX7_setAge cX7_setAge 4 (some .int) ∈ z_G := z_m2 (i := 99) rfl rfl
theorem z_g248 : Cond.instanceMethod yX7_setAge ∈ z_G := z_m2 (i := 97) rfl rfl
theorem z_g249 : Cond.selects RX7 yX7_setAge yX7_setAge ∈ z_G := z_m2 (i := 98) rfl rfl
theorem z_g250 : Cond.code yX7_setGroupQuantum cX7_setGroupQuantum 4 (some .int) ∈ z_G := z_m2 (i := 87) rfl rfl
theorem z_g251 : Cond.instanceMethod yX7_setGroupQuantum ∈ z_G := z_m2 (i := 85) rfl rfl
theorem z_g252 : Cond.selects RX7 yX7_setGroupQuantum yX7_setGroupQuantum ∈ z_G := z_m2 (i := 86) rfl rfl
theorem z_g253 : Cond.code yX7_setQuantum cX7_setQuantum 4 (some .int) ∈ z_G := z_m2 (i := 91) rfl rfl
theorem z_g254 : Cond.instanceMethod yX7_setQuantum ∈ z_G := z_m2 (i := 89) rfl rfl
theorem z_g255 : Cond.selects RX7 yX7_setQuantum yX7_setQuantum ∈ z_G := z_m2 (i := 90) rfl rfl
theorem z_g256 : Cond.code yX7_shares cX7_shares 4 (some .int) ∈ z_G := z_m3 (i := 148) rfl rfl
theorem z_g257 : Cond.instanceMethod yX7_shares ∈ z_G := z_m3 (i := 146) rfl rfl
theorem z_g258 : Cond.selects RX7 yX7_shares yX7_shares ∈ z_G := z_m3 (i := 147) rfl rfl
theorem z_g259 : Cond.code yX7_type cX7_type 2 (some .int) ∈ z_G := z_m3 (i := 25) rfl rfl
theorem z_g260 : Cond.instanceMethod yX7_type ∈ z_G := z_m3 (i := 23) rfl rfl
theorem z_g261 : Cond.selects RX7 yX7_type yX7_type ∈ z_G := z_m3 (i := 24) rfl rfl
theorem z_g262 : Cond.code yX7_undo cX7_undo 1 (some .int) ∈ z_G := z_m3 (i := 58) rfl rfl
theorem z_g263 : Cond.instanceMethod yX7_undo ∈ z_G := z_m3 (i := 56) rfl rfl
theorem z_g264 : Cond.selects RX7 yX7_undo yX7_undo ∈ z_G := z_m3 (i := 57) rfl rfl
theorem z_g265 : Cond.code yX8_add cX8_add 4 (some .int) ∈ z_G := z_m4 (i := 29) rfl rfl
theorem z_g266 : Cond.initialized RX8 ∈ z_G := z_m1 (i := 9) rfl rfl
theorem z_g267 : Cond.instanceMethod yX8_add ∈ z_G := z_m4 (i := 27) rfl rfl
theorem z_g268 : Cond.selects RX8 yX8_add yX8_add ∈ z_G := z_m4 (i := 28) rfl rfl
theorem z_g269 : Cond.code yX8_addClass cX8_addClass 7 (some .int) ∈ z_G := z_m3 (i := 238) rfl rfl
theorem z_g270 : Cond.instanceMethod yX8_addClass ∈ z_G := z_m3 (i := 236) rfl rfl
theorem z_g271 : Cond.selects RX8 yX8_addClass yX8_addClass ∈ z_G := z_m3 (i := 237) rfl rfl
theorem z_g272 : Cond.code yX8_addGroup cX8_addGroup 3 (some .int) ∈ z_G := z_m3 (i := 228) rfl rfl
theorem z_g273 : Cond.instanceMethod yX8_addGroup ∈ z_G := z_m3 (i := 226) rfl rfl
theorem z_g274 : Cond.selects RX8 yX8_addGroup yX8_addGroup ∈ z_G := z_m3 (i := 227) rfl rfl
theorem z_g275 : Cond.code yX8_against cX8_against 3 (some .int) ∈ z_G := z_m4 (i := 33) rfl rfl
theorem z_g276 : Cond.instanceMethod yX8_against ∈ z_G := z_m4 (i := 32) rfl rfl
theorem z_g277 : Cond.selects RX8 yX8_against yX8_against ∈ z_G := z_m0 (i := 21) rfl rfl
theorem z_g278 : Cond.code yX8_begin cX8_begin 1 none ∈ z_G := z_m3 (i := 216) rfl rfl
theorem z_g279 : Cond.instanceMethod yX8_begin ∈ z_G := z_m3 (i := 215) rfl rfl
theorem z_g280 : Cond.selects RX8 yX8_begin yX8_begin ∈ z_G := z_m0 (i := 15) rfl rfl
theorem z_g281 : Cond.code yX8_beginsAt cX8_beginsAt 3 (some .int) ∈ z_G := z_m4 (i := 161) rfl rfl
theorem z_g282 : Cond.instanceMethod yX8_beginsAt ∈ z_G := z_m4 (i := 159) rfl rfl
theorem z_g283 : Cond.selects RX8 yX8_beginsAt yX8_beginsAt ∈ z_G := z_m4 (i := 160) rfl rfl
theorem z_g284 : Cond.code yX8_bound cX8_bound 6 (some .int) ∈ z_G := z_m4 (i := 165) rfl rfl
theorem z_g285 : Cond.instanceMethod yX8_bound ∈ z_G := z_m4 (i := 163) rfl rfl
theorem z_g286 : Cond.selects RX8 yX8_bound yX8_bound ∈ z_G := z_m4 (i := 164) rfl rfl
theorem z_g287 : Cond.code yX8_canServe cX8_canServe 3 (some .boolean) ∈ z_G := z_m4 (i := 96) rfl rfl
theorem z_g288 : Cond.instanceMethod yX8_canServe ∈ z_G := z_m4 (i := 95) rfl rfl
theorem z_g289 : Cond.selects RX8 yX8_canServe yX8_canServe ∈ z_G := z_m0 (i := 35) rfl rfl
theorem z_g290 : Cond.code yX8_canServeGroup cX8_canServeGroup 3 (some .boolean) ∈ z_G := z_m4 (i := 76) rfl rfl
theorem z_g291 : Cond.instanceMethod yX8_canServeGroup ∈ z_G := z_m4 (i := 75) rfl rfl
theorem z_g292 : Cond.selects RX8 yX8_canServeGroup yX8_canServeGroup ∈ z_G := z_m0 (i := 30) rfl rfl
theorem z_g293 : Cond.code yX8_choose cX8_choose 6 (some .int) ∈ z_G := z_m4 (i := 60) rfl rfl
theorem z_g294 : Cond.instanceMethod yX8_choose ∈ z_G := z_m4 (i := 59) rfl rfl
theorem z_g295 : Cond.selects RX8 yX8_choose yX8_choose ∈ z_G := z_m0 (i := 26) rfl rfl
theorem z_g296 : Cond.code yX8_classBehind cX8_classBehind 4 (some .int) ∈ z_G := z_m4 (i := 100) rfl rfl
theorem z_g297 : Cond.instanceMethod yX8_classBehind ∈ z_G := z_m4 (i := 99) rfl rfl
theorem z_g298 : Cond.selects RX8 yX8_classBehind yX8_classBehind ∈ z_G := z_m0 (i := 36) rfl rfl
theorem z_g299 : Cond.code yX8_classOf cX8_classOf 4 (some .int) ∈ z_G := z_m4 (i := 141) rfl rfl
theorem z_g300 : Cond.instanceMethod yX8_classOf ∈ z_G := z_m4 (i := 139) rfl rfl
theorem z_g301 : Cond.selects RX8 yX8_classOf yX8_classOf ∈ z_G := z_m4 (i := 140) rfl rfl
theorem z_g302 : Cond.code yX8_clearText cX8_clearText 2 (some .int) ∈ z_G := z_m4 (i := 112) rfl rfl
theorem z_g303 : Cond.instanceMethod yX8_clearText ∈ z_G := z_m4 (i := 110) rfl rfl
theorem z_g304 : Cond.selects RX8 yX8_clearText yX8_clearText ∈ z_G := z_m4 (i := 111) rfl rfl
theorem z_g305 : Cond.code yX8_come cX8_come 5 (some .int) ∈ z_G := z_m4 (i := 48) rfl rfl
theorem z_g306 : Cond.instanceMethod yX8_come ∈ z_G := z_m4 (i := 47) rfl rfl
theorem z_g307 : Cond.selects RX8 yX8_come yX8_come ∈ z_G := z_m0 (i := 24) rfl rfl
theorem z_g308 : Cond.code yX8_count cX8_count 2 (some .int) ∈ z_G := z_m4 (i := 174) rfl rfl
theorem z_g309 : Cond.instanceMethod yX8_count ∈ z_G := z_m4 (i := 172) rfl rfl
theorem z_g310 : Cond.selects RX8 yX8_count yX8_count ∈ z_G := z_m4 (i := 173) rfl rfl
theorem z_g311 : Cond.code yX8_firstOf cX8_firstOf 3 (some .int) ∈ z_G := z_m4 (i := 88) rfl rfl
theorem z_g312 : Cond.instanceMethod yX8_firstOf ∈ z_G := z_m4 (i := 87) rfl rfl
theorem z_g313 : Cond.selects RX8 yX8_firstOf yX8_firstOf ∈ z_G := z_m0 (i := 33) rfl rfl
theorem z_g314 : Cond.code yX8_firstOld cX8_firstOld 2 (some .int) ∈ z_G := z_m4 (i := 64) rfl rfl
theorem z_g315 : Cond.instanceMethod yX8_firstOld ∈ z_G := z_m4 (i := 63) rfl rfl
theorem z_g316 : Cond.selects RX8 yX8_firstOld yX8_firstOld ∈ z_G := z_m0 (i := 27) rfl rfl
theorem z_g317 : Cond.code yX8_goBack cX8_goBack 2 none ∈ z_G := z_m4 (i := 132) rfl rfl
theorem z_g318 : Cond.instanceMethod yX8_goBack ∈ z_G := z_m4 (i := 131) rfl rfl
theorem z_g319 : Cond.selects RX8 yX8_goBack yX8_goBack ∈ z_G := z_m0 (i := 40) rfl rfl
theorem z_g320 : Cond.code yX8_group cX8_group 6 (some .int) ∈ z_G := z_m4 (i := 136) rfl rfl
theorem z_g321 : Cond.instanceMethod yX8_group ∈ z_G := z_m4 (i := 134) rfl rfl
theorem z_g322 : Cond.selects RX8 yX8_group yX8_group ∈ z_G := z_m4 (i := 135) rfl rfl
theorem z_g323 : Cond.code yX8_in cX8_in 3 (some .boolean) ∈ z_G := z_m3 (i := 231) rfl rfl
theorem z_g324 : Cond.static yX8_in ∈ z_G := z_m3 (i := 230) rfl rfl
theorem z_g325 : Cond.code yX8_isBusy cX8_isBusy 2 (some .boolean) ∈ z_G := z_m4 (i := 84) rfl rfl
theorem z_g326 : Cond.instanceMethod yX8_isBusy ∈ z_G := z_m4 (i := 83) rfl rfl
theorem z_g327 : Cond.selects RX8 yX8_isBusy yX8_isBusy ∈ z_G := z_m0 (i := 32) rfl rfl
theorem z_g328 : Cond.code yX8_isGroupBusy cX8_isGroupBusy 4 (some .boolean) ∈ z_G := z_m4 (i := 80) rfl rfl
theorem z_g329 : Cond.instanceMethod yX8_isGroupBusy ∈ z_G := z_m4 (i := 79) rfl rfl
theorem z_g330 : Cond.selects RX8 yX8_isGroupBusy yX8_isGroupBusy ∈ z_G := z_m0 (i := 31) rfl rfl
theorem z_g331 : Cond.code yX8_isOld cX8_isOld 3 (some .boolean) ∈ z_G := z_m4 (i := 68) rfl rfl
theorem z_g332 : Cond.instanceMethod yX8_isOld ∈ z_G := z_m4 (i := 67) rfl rfl
theorem z_g333 : Cond.selects RX8 yX8_isOld yX8_isOld ∈ z_G := z_m0 (i := 28) rfl rfl
theorem z_g334 : Cond.code yX8_its cX8_its 1 (some .int) ∈ z_G := z_m4 (i := 40) rfl rfl
theorem z_g335 : Cond.static yX8_its ∈ z_G := z_m4 (i := 39) rfl rfl
theorem z_g336 : Cond.code yX8_job cX8_job 4 (some .int) ∈ z_G := z_m4 (i := 145) rfl rfl
theorem z_g337 : Cond.instanceMethod yX8_job ∈ z_G := z_m4 (i := 143) rfl rfl
theorem z_g338 : Cond.selects RX8 yX8_job yX8_job ∈ z_G := z_m4 (i := 144) rfl rfl
theorem z_g339 : Cond.code yX8_jobs cX8_jobs 5 (some .int) ∈ z_G := z_m4 (i := 120) rfl rfl
theorem z_g340 : Cond.instanceMethod yX8_jobs ∈ z_G := z_m4 (i := 119) rfl rfl
theorem z_g341 : Cond.selects RX8 yX8_jobs yX8_jobs ∈ z_G := z_m0 (i := 37) rfl rfl
theorem z_g342 : Cond.code yX8_jobsThat cX8_jobsThat 4 (some .int) ∈ z_G := z_m4 (i := 178) rfl rfl
theorem z_g343 : Cond.instanceMethod yX8_jobsThat ∈ z_G := z_m4 (i := 177) rfl rfl
theorem z_g344 : Cond.selects RX8 yX8_jobsThat yX8_jobsThat ∈ z_G := z_m0 (i := 43) rfl rfl
theorem z_g345 : Cond.code yX8_keep cX8_keep 2 (some .int) ∈ z_G := z_m3 (i := 208) rfl rfl
theorem z_g346 : Cond.instanceMethod yX8_keep ∈ z_G := z_m3 (i := 206) rfl rfl
theorem z_g347 : Cond.selects RX8 yX8_keep yX8_keep ∈ z_G := z_m3 (i := 207) rfl rfl
theorem z_g348 : Cond.code yX8_kind cX8_kind 1 (some .int) ∈ z_G := z_m4 (i := 5) rfl rfl
theorem z_g349 : Cond.static yX8_kind ∈ z_G := z_m4 (i := 4) rfl rfl
theorem z_g350 : Cond.code yX8_mark cX8_mark 3 (some .int) ∈ z_G := z_m4 (i := 104) rfl rfl
theorem z_g351 : Cond.instanceMethod yX8_mark ∈ z_G := z_m4 (i := 102) rfl rfl
theorem z_g352 : Cond.selects RX8 yX8_mark yX8_mark ∈ z_G := z_m4 (i := 103) rfl rfl
theorem z_g353 : Cond.code yX8_nextClass cX8_nextClass 3 (some .int) ∈ z_G := z_m4 (i := 92) rfl rfl
theorem z_g354 : Cond.instanceMethod yX8_nextClass ∈ z_G := z_m4 (i := 91) rfl rfl
theorem z_g355 : Cond.selects RX8 yX8_nextClass yX8_nextClass ∈ z_G := z_m0 (i := 34) rfl rfl
theorem z_g356 : Cond.code yX8_nextGroup cX8_nextGroup 2 (some .int) ∈ z_G := z_m4 (i := 72) rfl rfl
theorem z_g357 : Cond.instanceMethod yX8_nextGroup ∈ z_G := z_m4 (i := 71) rfl rfl
theorem z_g358 : Cond.selects RX8 yX8_nextGroup yX8_nextGroup ∈ z_G := z_m0 (i := 29) rfl rfl
theorem z_g359 : Cond.code yX8_noClass cX8_noClass 2 (some .boolean) ∈ z_G := z_m4 (i := 21) rfl rfl
theorem z_g360 : Cond.instanceMethod yX8_noClass ∈ z_G := z_m4 (i := 20) rfl rfl
theorem z_g361 : Cond.selects RX8 yX8_noClass yX8_noClass ∈ z_G := z_m0 (i := 20) rfl rfl
theorem z_g362 : Cond.code yX8_noGroup cX8_noGroup 2 (some .boolean) ∈ z_G := z_m4 (i := 2) rfl rfl
theorem z_g363 : Cond.instanceMethod yX8_noGroup ∈ z_G := z_m4 (i := 1) rfl rfl
theorem z_g364 : Cond.selects RX8 yX8_noGroup yX8_noGroup ∈ z_G := z_m0 (i := 18) rfl rfl
theorem z_g365 : Cond.code yX8_noJob cX8_noJob 2 (some .boolean) ∈ z_G := z_m4 (i := 149) rfl rfl
theorem z_g366 : Cond.instanceMethod yX8_noJob ∈ z_G := z_m4 (i := 148) rfl rfl
theorem z_g367 : Cond.selects RX8 yX8_noJob yX8_noJob ∈ z_G := z_m0 (i := 41) rfl rfl
theorem z_g368 : Cond.code yX8_party cX8_party 1 (some .int) ∈ z_G := z_m3 (i := 234) rfl rfl
theorem z_g369 : Cond.static yX8_party ∈ z_G := z_m3 (i := 233) rfl rfl
theorem z_g370 : Cond.code yX8_pass cX8_pass 4 (some .int) ∈ z_G := z_m4 (i := 52) rfl rfl
theorem z_g371 : Cond.instanceMethod yX8_pass ∈ z_G := z_m4 (i := 50) rfl rfl
theorem z_g372 : Cond.selects RX8 yX8_pass yX8_pass ∈ z_G := z_m4 (i := 51) rfl rfl
theorem z_g373 : Cond.code yX8_readJob cX8_readJob 5 (some .int) ∈ z_G := z_m4 (i := 124) rfl rfl
theorem z_g374 : Cond.instanceMethod yX8_readJob ∈ z_G := z_m4 (i := 123) rfl rfl
theorem z_g375 : Cond.selects RX8 yX8_readJob yX8_readJob ∈ z_G := z_m0 (i := 38) rfl rfl
theorem z_g376 : Cond.code yX8_readJobs cX8_readJobs 2 (some .int) ∈ z_G := z_m4 (i := 116) rfl rfl
theorem z_g377 : Cond.instanceMethod yX8_readJobs ∈ z_G := z_m4 (i := 114) rfl rfl
theorem z_g378 : Cond.selects RX8 yX8_readJobs yX8_readJobs ∈ z_G := z_m4 (i := 115) rfl rfl
theorem z_g379 : Cond.code yX8_record cX8_record 2 none ∈ z_G := z_m3 (i := 224) rfl rfl
theorem z_g380 : Cond.instanceMethod yX8_record ∈ z_G := z_m3 (i := 223) rfl rfl
theorem z_g381 : Cond.selects RX8 yX8_record yX8_record ∈ z_G := z_m0 (i := 17) rfl rfl
theorem z_g382 : Cond.code yX8_remember cX8_remember 2 none ∈ z_G := z_m3 (i := 220) rfl rfl
theorem z_g383 : Cond.instanceMethod yX8_remember ∈ z_G := z_m3 (i := 219) rfl rfl
theorem z_g384 : Cond.selects RX8 yX8_remember yX8_remember ∈ z_G := z_m0 (i := 16) rfl rfl
theorem z_g385 : Cond.code yX8_restore cX8_restore 2 (some .int) ∈ z_G := z_m3 (i := 212) rfl rfl
theorem z_g386 : Cond.instanceMethod yX8_restore ∈ z_G := z_m3 (i := 210) rfl rfl
theorem z_g387 : Cond.selects RX8 yX8_restore yX8_restore ∈ z_G := z_m3 (i := 211) rfl rfl
theorem z_g388 : Cond.code yX8_sees cX8_sees 3 (some .boolean) ∈ z_G := z_m4 (i := 128) rfl rfl
theorem z_g389 : Cond.instanceMethod yX8_sees ∈ z_G := z_m4 (i := 127) rfl rfl
theorem z_g390 : Cond.selects RX8 yX8_sees yX8_sees ∈ z_G := z_m0 (i := 39) rfl rfl
theorem z_g391 : Cond.code yX8_serveOut cX8_serveOut 2 none ∈ z_G := z_m4 (i := 157) rfl rfl
theorem z_g392 : Cond.instanceMethod yX8_serveOut ∈ z_G := z_m4 (i := 156) rfl rfl
theorem z_g393 : Cond.selects RX8 yX8_serveOut yX8_serveOut ∈ z_G := z_m0 (i := 42) rfl rfl
theorem z_g394 : Cond.code yX8_served cX8_served 4 (some .int) ∈ z_G := z_m4 (i := 153) rfl rfl
theorem z_g395 : Cond.instanceMethod yX8_served ∈ z_G := z_m4 (i := 151) rfl rfl
theorem z_g396 : Cond.selects RX8 yX8_served yX8_served ∈ z_G := z_m4 (i := 152) rfl rfl
theorem z_g397 : Cond.code yX8_set cX8_set 4 (some .int) ∈ z_G := z_m4 (i := 13) rfl rfl
theorem z_g398 : Cond.instanceMethod yX8_set ∈ z_G := z_m4 (i := 12) rfl rfl
theorem z_g399 : Cond.selects RX8 yX8_set yX8_set ∈ z_G := z_m0 (i := 19) rfl rfl
theorem z_g400 : Cond.code yX8_setAge cX8_setAge 3 (some .int) ∈ z_G := z_m4 (i := 25) rfl rfl
theorem z_g401 : Cond.instanceMethod yX8_setAge ∈ z_G := z_m4 (i := 23) rfl rfl
theorem z_g402 : Cond.selects RX8 yX8_setAge yX8_setAge ∈ z_G := z_m4 (i := 24) rfl rfl
theorem z_g403 : Cond.code yX8_setGroupQuantum cX8_setGroupQuantum 3 (some .int) ∈ z_G := z_m4 (i := 9) rfl rfl
theorem z_g404 : Cond.instanceMethod yX8_setGroupQuantum ∈ z_G := z_m4 (i := 7) rfl rfl
theorem z_g405 : Cond.selects RX8 yX8_setGroupQuantum yX8_setGroupQuantum ∈ z_G := z_m4 (i := 8) rfl rfl
theorem z_g406 : Cond.code yX8_setQuantum cX8_setQuantum 3 (some .int) ∈ z_G := z_m4 (i := 17) rfl rfl
theorem z_g407 : Cond.instanceMethod yX8_setQuantum ∈ z_G := z_m4 (i := 15) rfl rfl
theorem z_g408 : Cond.selects RX8 yX8_setQuantum yX8_setQuantum ∈ z_G := z_m4 (i := 16) rfl rfl
theorem z_g409 : Cond.code yX8_shares cX8_shares 3 (some .int) ∈ z_G := z_m4 (i := 169) rfl rfl
theorem z_g410 : Cond.instanceMethod yX8_shares ∈ z_G := z_m4 (i := 167) rfl rfl
theorem z_g411 : Cond.selects RX8 yX8_shares yX8_shares ∈ z_G := z_m4 (i := 168) rfl rfl
theorem z_g412 : Cond.code yX8_tick cX8_tick 5 (some .int) ∈ z_G := z_m4 (i := 56) rfl rfl
theorem z_g413 : Cond.instanceMethod yX8_tick ∈ z_G := z_m4 (i := 55) rfl rfl
theorem z_g414 : Cond.selects RX8 yX8_tick yX8_tick ∈ z_G := z_m0 (i := 25) rfl rfl
theorem z_g415 : Cond.code yX8_type cX8_type 2 (some .int) ∈ z_G := z_m4 (i := 108) rfl rfl
theorem z_g416 : Cond.instanceMethod yX8_type ∈ z_G := z_m4 (i := 106) rfl rfl
theorem z_g417 : Cond.selects RX8 yX8_type yX8_type ∈ z_G := z_m4 (i := 107) rfl rfl
theorem z_g418 : Cond.code yX8_undo cX8_undo 2 (some .int) ∈ z_G := z_m3 (i := 204) rfl rfl
theorem z_g419 : Cond.instanceMethod yX8_undo ∈ z_G := z_m3 (i := 202) rfl rfl
theorem z_g420 : Cond.selects RX8 yX8_undo yX8_undo ∈ z_G := z_m3 (i := 203) rfl rfl
theorem z_g421 : Cond.code yX8_waiting cX8_waiting 8 (some .int) ∈ z_G := z_m4 (i := 37) rfl rfl
theorem z_g422 : Cond.instanceMethod yX8_waiting ∈ z_G := z_m4 (i := 36) rfl rfl
theorem z_g423 : Cond.selects RX8 yX8_waiting yX8_waiting ∈ z_G := z_m0 (i := 22) rfl rfl
theorem z_g424 : Cond.code yX8_waits cX8_waits 2 (some .boolean) ∈ z_G := z_m4 (i := 44) rfl rfl
theorem z_g425 : Cond.instanceMethod yX8_waits ∈ z_G := z_m4 (i := 43) rfl rfl
theorem z_g426 : Cond.selects RX8 yX8_waits yX8_waits ∈ z_G := z_m0 (i := 23) rfl rfl
def z_cn (k : Nat) : String := z_cns.getD k ""
def z_okm (mi : z_I) : Prop := (z_y mi).cls = z_cn (z_own mi) ∧ plainName (z_y mi).cls = true ∧ Cond.code (z_y mi) (z_cd mi) (z_ml' mi) (z_rt mi) ∈ z_G ∧ Cond.initialized (z_y mi).cls ∈ z_G ∧ ((z_y mi).cls ≠ "java/lang/invoke/MethodHandle" ∧ (z_y mi).cls ≠ "java/lang/invoke/VarHandle") ∧ (parseMethodDescriptor (z_y mi).desc).map (fun d => d.parameters.length) = some (z_na mi) ∧ ((z_sta mi = true → Cond.static (z_y mi) ∈ z_G) ∧ (z_sta mi = false → Cond.instanceMethod (z_y mi) ∈ z_G ∧ Cond.selects (z_y mi).cls (z_y mi) (z_y mi) ∈ z_G))
theorem z_okm_0 : z_okm (0, yX0_append, cX0_append, 6, (some .int), false, 4, 0) := ⟨rfl, by decide +kernel, z_g0, z_g1, by decide +kernel, by decide +kernel, ⟨fun h => absurd h (by decide), fun _ => ⟨z_g2, z_g3⟩⟩⟩
theorem z_okm_1 : z_okm (0, yX0_copyFrom, cX0_copyFrom, 2, none, false, 1, 1) := ⟨rfl, by decide +kernel, z_g4, z_g1, by decide +kernel, by decide +kernel, ⟨fun h => absurd h (by decide), fun _ => ⟨z_g5, z_g6⟩⟩⟩
theorem z_okm_2 : z_okm (0, yX0_fillBuckets, cX0_fillBuckets, 3, none, false, 1, 1) := ⟨rfl, by decide +kernel, z_g7, z_g1, by decide +kernel, by decide +kernel, ⟨fun h => absurd h (by decide), fun _ => ⟨z_g8, z_g9⟩⟩⟩
theorem z_okm_3 : z_okm (0, yX0_has, cX0_has, 2, (some .boolean), false, 1, 0) := ⟨rfl, by decide +kernel, z_g10, z_g1, by decide +kernel, by decide +kernel, ⟨fun h => absurd h (by decide), fun _ => ⟨z_g11, z_g12⟩⟩⟩
theorem z_okm_4 : z_okm (0, yX0_heldOf, cX0_heldOf, 4, (some .int), false, 1, 1) := ⟨rfl, by decide +kernel, z_g13, z_g1, by decide +kernel, by decide +kernel, ⟨fun h => absurd h (by decide), fun _ => ⟨z_g14, z_g15⟩⟩⟩
theorem z_okm_5 : z_okm (0, yX0_takeUnits, cX0_takeUnits, 3, (some .int), false, 0, 1) := ⟨rfl, by decide +kernel, z_g16, z_g1, by decide +kernel, by decide +kernel, ⟨fun h => absurd h (by decide), fun _ => ⟨z_g17, z_g18⟩⟩⟩
theorem z_okm_6 : z_okm (0, yX0_unitsOf, cX0_unitsOf, 4, (some .int), false, 1, 1) := ⟨rfl, by decide +kernel, z_g19, z_g1, by decide +kernel, by decide +kernel, ⟨fun h => absurd h (by decide), fun _ => ⟨z_g20, z_g21⟩⟩⟩
theorem z_okm_7 : z_okm (1, yX1_append, cX1_append, 3, (some .int), false, 1, 0) := ⟨rfl, by decide +kernel, z_g22, z_g23, by decide +kernel, by decide +kernel, ⟨fun h => absurd h (by decide), fun _ => ⟨z_g24, z_g25⟩⟩⟩
theorem z_okm_8 : z_okm (1, yX1_copyFrom, cX1_copyFrom, 2, none, false, 1, 1) := ⟨rfl, by decide +kernel, z_g26, z_g23, by decide +kernel, by decide +kernel, ⟨fun h => absurd h (by decide), fun _ => ⟨z_g27, z_g28⟩⟩⟩
theorem z_okm_9 : z_okm (1, yX1_has, cX1_has, 2, (some .boolean), false, 1, 0) := ⟨rfl, by decide +kernel, z_g29, z_g23, by decide +kernel, by decide +kernel, ⟨fun h => absurd h (by decide), fun _ => ⟨z_g30, z_g31⟩⟩⟩
theorem z_okm_10 : z_okm (2, yX2_dropOldest, cX2_dropOldest, 3, none, false, 0, 0) := ⟨rfl, by decide +kernel, z_g32, z_g33, by decide +kernel, by decide +kernel, ⟨fun h => absurd h (by decide), fun _ => ⟨z_g34, z_g35⟩⟩⟩
theorem z_okm_11 : z_okm (2, yX2_push, cX2_push, 3, none, false, 1, 3) := ⟨rfl, by decide +kernel, z_g36, z_g33, by decide +kernel, by decide +kernel, ⟨fun h => absurd h (by decide), fun _ => ⟨z_g37, z_g38⟩⟩⟩
theorem z_okm_12 : z_okm (2, yX2_roomAt, cX2_roomAt, 2, (some (.object "DeficitCircles$State")), false, 1, 0) := ⟨rfl, by decide +kernel, z_g39, z_g33, by decide +kernel, by decide +kernel, ⟨fun h => absurd h (by decide), fun _ => ⟨z_g40, z_g41⟩⟩⟩
theorem z_okm_13 : z_okm (2, yX2_takeLatest, cX2_takeLatest, 3, none, false, 1, 3) := ⟨rfl, by decide +kernel, z_g42, z_g33, by decide +kernel, by decide +kernel, ⟨fun h => absurd h (by decide), fun _ => ⟨z_g43, z_g44⟩⟩⟩
theorem z_okm_14 : z_okm (3, yX3_allSizes, cX3_allSizes, 1, (some .int), false, 0, 3) := ⟨rfl, by decide +kernel, z_g45, z_g46, by decide +kernel, by decide +kernel, ⟨fun h => absurd h (by decide), fun _ => ⟨z_g47, z_g48⟩⟩⟩
theorem z_okm_15 : z_okm (3, yX3_append, cX3_append, 5, (some .int), false, 3, 0) := ⟨rfl, by decide +kernel, z_g49, z_g46, by decide +kernel, by decide +kernel, ⟨fun h => absurd h (by decide), fun _ => ⟨z_g50, z_g51⟩⟩⟩
theorem z_okm_16 : z_okm (3, yX3_copyFrom, cX3_copyFrom, 2, none, false, 1, 1) := ⟨rfl, by decide +kernel, z_g52, z_g46, by decide +kernel, by decide +kernel, ⟨fun h => absurd h (by decide), fun _ => ⟨z_g53, z_g54⟩⟩⟩
theorem z_okm_17 : z_okm (3, yX3_firstOf, cX3_firstOf, 4, (some .int), false, 1, 2) := ⟨rfl, by decide +kernel, z_g55, z_g46, by decide +kernel, by decide +kernel, ⟨fun h => absurd h (by decide), fun _ => ⟨z_g56, z_g57⟩⟩⟩
theorem z_okm_18 : z_okm (3, yX3_has, cX3_has, 2, (some .boolean), false, 1, 0) := ⟨rfl, by decide +kernel, z_g58, z_g46, by decide +kernel, by decide +kernel, ⟨fun h => absurd h (by decide), fun _ => ⟨z_g59, z_g60⟩⟩⟩
theorem z_okm_19 : z_okm (3, yX3_isFull, cX3_isFull, 1, (some .boolean), false, 0, 0) := ⟨rfl, by decide +kernel, z_g61, z_g46, by decide +kernel, by decide +kernel, ⟨fun h => absurd h (by decide), fun _ => ⟨z_g62, z_g63⟩⟩⟩
theorem z_okm_20 : z_okm (3, yX3_isWaiting, cX3_isWaiting, 2, (some .boolean), false, 1, 1) := ⟨rfl, by decide +kernel, z_g64, z_g46, by decide +kernel, by decide +kernel, ⟨fun h => absurd h (by decide), fun _ => ⟨z_g65, z_g66⟩⟩⟩
theorem z_okm_21 : z_okm (3, yX3_leaveLine, cX3_leaveLine, 4, none, false, 1, 0) := ⟨rfl, by decide +kernel, z_g67, z_g46, by decide +kernel, by decide +kernel, ⟨fun h => absurd h (by decide), fun _ => ⟨z_g68, z_g69⟩⟩⟩
theorem z_okm_22 : z_okm (3, yX3_sizesAheadOf, cX3_sizesAheadOf, 5, (some .int), false, 1, 2) := ⟨rfl, by decide +kernel, z_g70, z_g46, by decide +kernel, by decide +kernel, ⟨fun h => absurd h (by decide), fun _ => ⟨z_g71, z_g72⟩⟩⟩
theorem z_okm_23 : z_okm (3, yX3_sizesOf, cX3_sizesOf, 5, (some .int), false, 1, 2) := ⟨rfl, by decide +kernel, z_g73, z_g46, by decide +kernel, by decide +kernel, ⟨fun h => absurd h (by decide), fun _ => ⟨z_g74, z_g75⟩⟩⟩
theorem z_okm_24 : z_okm (3, yX3_waitingAt, cX3_waitingAt, 2, (some .int), false, 1, 1) := ⟨rfl, by decide +kernel, z_g76, z_g46, by decide +kernel, by decide +kernel, ⟨fun h => absurd h (by decide), fun _ => ⟨z_g77, z_g78⟩⟩⟩
theorem z_okm_25 : z_okm (3, yX3_waitsOf, cX3_waitsOf, 5, (some .int), false, 1, 2) := ⟨rfl, by decide +kernel, z_g79, z_g46, by decide +kernel, by decide +kernel, ⟨fun h => absurd h (by decide), fun _ => ⟨z_g80, z_g81⟩⟩⟩
theorem z_okm_26 : z_okm (4, yX4_admit, cX4_admit, 3, (some .int), false, 2, 1) := ⟨rfl, by decide +kernel, z_g82, z_g83, by decide +kernel, by decide +kernel, ⟨fun h => absurd h (by decide), fun _ => ⟨z_g84, z_g85⟩⟩⟩
theorem z_okm_27 : z_okm (4, yX4_ageFor, cX4_ageFor, 2, (some .int), false, 1, 1) := ⟨rfl, by decide +kernel, z_g86, z_g83, by decide +kernel, by decide +kernel, ⟨fun h => absurd h (by decide), fun _ => ⟨z_g87, z_g88⟩⟩⟩
theorem z_okm_28 : z_okm (4, yX4_begin, cX4_begin, 2, none, false, 1, 4) := ⟨rfl, by decide +kernel, z_g89, z_g83, by decide +kernel, by decide +kernel, ⟨fun h => absurd h (by decide), fun _ => ⟨z_g90, z_g91⟩⟩⟩
theorem z_okm_29 : z_okm (4, yX4_copyFrom, cX4_copyFrom, 2, none, false, 1, 2) := ⟨rfl, by decide +kernel, z_g92, z_g83, by decide +kernel, by decide +kernel, ⟨fun h => absurd h (by decide), fun _ => ⟨z_g93, z_g94⟩⟩⟩
theorem z_okm_30 : z_okm (4, yX4_doneJobs, cX4_doneJobs, 1, (some .int), false, 0, 0) := ⟨rfl, by decide +kernel, z_g95, z_g83, by decide +kernel, by decide +kernel, ⟨fun h => absurd h (by decide), fun _ => ⟨z_g96, z_g97⟩⟩⟩
theorem z_okm_31 : z_okm (4, yX4_doneOf, cX4_doneOf, 4, (some .int), false, 1, 3) := ⟨rfl, by decide +kernel, z_g98, z_g83, by decide +kernel, by decide +kernel, ⟨fun h => absurd h (by decide), fun _ => ⟨z_g99, z_g100⟩⟩⟩
theorem z_okm_32 : z_okm (4, yX4_endOf, cX4_endOf, 2, (some .int), false, 1, 3) := ⟨rfl, by decide +kernel, z_g101, z_g83, by decide +kernel, by decide +kernel, ⟨fun h => absurd h (by decide), fun _ => ⟨z_g102, z_g103⟩⟩⟩
theorem z_okm_33 : z_okm (4, yX4_firstOld, cX4_firstOld, 3, (some .int), false, 0, 3) := ⟨rfl, by decide +kernel, z_g104, z_g83, by decide +kernel, by decide +kernel, ⟨fun h => absurd h (by decide), fun _ => ⟨z_g105, z_g106⟩⟩⟩
theorem z_okm_34 : z_okm (4, yX4_groupFor, cX4_groupFor, 2, (some .int), false, 1, 1) := ⟨rfl, by decide +kernel, z_g107, z_g83, by decide +kernel, by decide +kernel, ⟨fun h => absurd h (by decide), fun _ => ⟨z_g108, z_g109⟩⟩⟩
theorem z_okm_35 : z_okm (4, yX4_isOld, cX4_isOld, 3, (some .boolean), false, 1, 2) := ⟨rfl, by decide +kernel, z_g110, z_g83, by decide +kernel, by decide +kernel, ⟨fun h => absurd h (by decide), fun _ => ⟨z_g111, z_g112⟩⟩⟩
theorem z_okm_36 : z_okm (4, yX4_leftOf, cX4_leftOf, 3, (some .int), false, 1, 3) := ⟨rfl, by decide +kernel, z_g113, z_g83, by decide +kernel, by decide +kernel, ⟨fun h => absurd h (by decide), fun _ => ⟨z_g114, z_g115⟩⟩⟩
theorem z_okm_37 : z_okm (4, yX4_noteWait, cX4_noteWait, 3, none, false, 2, 1) := ⟨rfl, by decide +kernel, z_g116, z_g83, by decide +kernel, by decide +kernel, ⟨fun h => absurd h (by decide), fun _ => ⟨z_g117, z_g118⟩⟩⟩
theorem z_okm_38 : z_okm (4, yX4_oldJobs, cX4_oldJobs, 3, (some .int), false, 0, 3) := ⟨rfl, by decide +kernel, z_g119, z_g83, by decide +kernel, by decide +kernel, ⟨fun h => absurd h (by decide), fun _ => ⟨z_g120, z_g121⟩⟩⟩
theorem z_okm_39 : z_okm (4, yX4_payFromClass, cX4_payFromClass, 4, none, false, 2, 3) := ⟨rfl, by decide +kernel, z_g122, z_g83, by decide +kernel, by decide +kernel, ⟨fun h => absurd h (by decide), fun _ => ⟨z_g123, z_g124⟩⟩⟩
theorem z_okm_40 : z_okm (4, yX4_payFromGroup, cX4_payFromGroup, 4, none, false, 2, 3) := ⟨rfl, by decide +kernel, z_g125, z_g83, by decide +kernel, by decide +kernel, ⟨fun h => absurd h (by decide), fun _ => ⟨z_g126, z_g127⟩⟩⟩
theorem z_okm_41 : z_okm (4, yX4_serveUnit, cX4_serveUnit, 2, (some .int), false, 0, 1) := ⟨rfl, by decide +kernel, z_g128, z_g83, by decide +kernel, by decide +kernel, ⟨fun h => absurd h (by decide), fun _ => ⟨z_g129, z_g130⟩⟩⟩
theorem z_okm_42 : z_okm (4, yX4_sizesOfGroup, cX4_sizesOfGroup, 5, (some .int), false, 1, 2) := ⟨rfl, by decide +kernel, z_g131, z_g83, by decide +kernel, by decide +kernel, ⟨fun h => absurd h (by decide), fun _ => ⟨z_g132, z_g133⟩⟩⟩
theorem z_okm_43 : z_okm (4, yX4_stageOf, cX4_stageOf, 2, (some .int), false, 1, 2) := ⟨rfl, by decide +kernel, z_g134, z_g83, by decide +kernel, by decide +kernel, ⟨fun h => absurd h (by decide), fun _ => ⟨z_g135, z_g136⟩⟩⟩
theorem z_okm_44 : z_okm (4, yX4_waitsOfGroup, cX4_waitsOfGroup, 4, (some .int), false, 1, 2) := ⟨rfl, by decide +kernel, z_g137, z_g83, by decide +kernel, by decide +kernel, ⟨fun h => absurd h (by decide), fun _ => ⟨z_g138, z_g139⟩⟩⟩
theorem z_okm_45 : z_okm (4, yX4_whyNotAdmit, cX4_whyNotAdmit, 3, (some .int), false, 2, 1) := ⟨rfl, by decide +kernel, z_g140, z_g83, by decide +kernel, by decide +kernel, ⟨fun h => absurd h (by decide), fun _ => ⟨z_g141, z_g142⟩⟩⟩
theorem z_okm_46 : z_okm (5, yX5_append, cX5_append, 2, (some .int), false, 1, 0) := ⟨rfl, by decide +kernel, z_g143, z_g144, by decide +kernel, by decide +kernel, ⟨fun h => absurd h (by decide), fun _ => ⟨z_g145, z_g146⟩⟩⟩
theorem z_okm_47 : z_okm (5, yX5_digitAt, cX5_digitAt, 2, (some .int), false, 1, 0) := ⟨rfl, by decide +kernel, z_g147, z_g144, by decide +kernel, by decide +kernel, ⟨fun h => absurd h (by decide), fun _ => ⟨z_g148, z_g149⟩⟩⟩
theorem z_okm_48 : z_okm (5, yX5_fault, cX5_fault, 3, (some .int), false, 0, 1) := ⟨rfl, by decide +kernel, z_g150, z_g144, by decide +kernel, by decide +kernel, ⟨fun h => absurd h (by decide), fun _ => ⟨z_g151, z_g152⟩⟩⟩
theorem z_okm_49 : z_okm (5, yX5_partAfter, cX5_partAfter, 3, (some .int), true, 2, 0) := ⟨rfl, by decide +kernel, z_g153, z_g144, by decide +kernel, by decide +kernel, ⟨fun _ => z_g154, fun h => absurd h (by decide)⟩⟩
theorem z_okm_50 : z_okm (5, yX5_sizeAt, cX5_sizeAt, 4, (some .int), false, 1, 1) := ⟨rfl, by decide +kernel, z_g155, z_g144, by decide +kernel, by decide +kernel, ⟨fun h => absurd h (by decide), fun _ => ⟨z_g156, z_g157⟩⟩⟩
theorem z_okm_51 : z_okm (6, yX6_lookAt, cX6_lookAt, 5, (some .int), false, 2, 2) := ⟨rfl, by decide +kernel, z_g158, z_g159, by decide +kernel, by decide +kernel, ⟨fun h => absurd h (by decide), fun _ => ⟨z_g160, z_g161⟩⟩⟩
theorem z_okm_52 : z_okm (6, yX6_nextJob, cX6_nextJob, 4, (some .int), false, 1, 4) := ⟨rfl, by decide +kernel, z_g162, z_g159, by decide +kernel, by decide +kernel, ⟨fun h => absurd h (by decide), fun _ => ⟨z_g163, z_g164⟩⟩⟩
theorem z_okm_53 : z_okm (6, yX6_noteFirstJobs, cX6_noteFirstJobs, 3, none, false, 1, 3) := ⟨rfl, by decide +kernel, z_g165, z_g159, by decide +kernel, by decide +kernel, ⟨fun h => absurd h (by decide), fun _ => ⟨z_g166, z_g167⟩⟩⟩
theorem z_okm_54 : z_okm (6, yX6_noteJob, cX6_noteJob, 5, none, false, 2, 2) := ⟨rfl, by decide +kernel, z_g168, z_g159, by decide +kernel, by decide +kernel, ⟨fun h => absurd h (by decide), fun _ => ⟨z_g169, z_g170⟩⟩⟩
theorem z_okm_55 : z_okm (6, yX6_presentGroupIsNext, cX6_presentGroupIsNext, 4, (some .boolean), false, 1, 3) := ⟨rfl, by decide +kernel, z_g171, z_g159, by decide +kernel, by decide +kernel, ⟨fun h => absurd h (by decide), fun _ => ⟨z_g172, z_g173⟩⟩⟩
theorem z_okm_56 : z_okm (6, yX6_roundsBelow, cX6_roundsBelow, 3, (some .int), true, 3, 0) := ⟨rfl, by decide +kernel, z_g174, z_g159, by decide +kernel, by decide +kernel, ⟨fun _ => z_g175, fun h => absurd h (by decide)⟩⟩
theorem z_okm_57 : z_okm (6, yX6_skipClassRounds, cX6_skipClassRounds, 6, none, false, 2, 1) := ⟨rfl, by decide +kernel, z_g176, z_g159, by decide +kernel, by decide +kernel, ⟨fun h => absurd h (by decide), fun _ => ⟨z_g177, z_g178⟩⟩⟩
theorem z_okm_58 : z_okm (6, yX6_skipGroupRounds, cX6_skipGroupRounds, 5, none, false, 1, 1) := ⟨rfl, by decide +kernel, z_g179, z_g159, by decide +kernel, by decide +kernel, ⟨fun h => absurd h (by decide), fun _ => ⟨z_g180, z_g181⟩⟩⟩
theorem z_okm_59 : z_okm (6, yX6_walkClasses, cX6_walkClasses, 6, (some .boolean), false, 2, 1) := ⟨rfl, by decide +kernel, z_g182, z_g159, by decide +kernel, by decide +kernel, ⟨fun h => absurd h (by decide), fun _ => ⟨z_g183, z_g184⟩⟩⟩
theorem z_okm_60 : z_okm (6, yX6_walkGroups, cX6_walkGroups, 6, (some .boolean), false, 1, 3) := ⟨rfl, by decide +kernel, z_g185, z_g159, by decide +kernel, by decide +kernel, ⟨fun h => absurd h (by decide), fun _ => ⟨z_g186, z_g187⟩⟩⟩
theorem z_okm_61 : z_okm (7, yX7_add, cX7_add, 4, (some .int), false, 2, 4) := ⟨rfl, by decide +kernel, z_g188, z_g189, by decide +kernel, by decide +kernel, ⟨fun h => absurd h (by decide), fun _ => ⟨z_g190, z_g191⟩⟩⟩
theorem z_okm_62 : z_okm (7, yX7_addClass, cX7_addClass, 5, (some .int), false, 4, 4) := ⟨rfl, by decide +kernel, z_g192, z_g189, by decide +kernel, by decide +kernel, ⟨fun h => absurd h (by decide), fun _ => ⟨z_g193, z_g194⟩⟩⟩
theorem z_okm_63 : z_okm (7, yX7_addGroup, cX7_addGroup, 2, (some .int), false, 1, 4) := ⟨rfl, by decide +kernel, z_g195, z_g189, by decide +kernel, by decide +kernel, ⟨fun h => absurd h (by decide), fun _ => ⟨z_g196, z_g197⟩⟩⟩
theorem z_okm_64 : z_okm (7, yX7_beginAhead, cX7_beginAhead, 4, (some .int), false, 1, 5) := ⟨rfl, by decide +kernel, z_g198, z_g189, by decide +kernel, by decide +kernel, ⟨fun h => absurd h (by decide), fun _ => ⟨z_g199, z_g200⟩⟩⟩
theorem z_okm_65 : z_okm (7, yX7_beginsAt, cX7_beginsAt, 2, (some .int), false, 1, 6) := ⟨rfl, by decide +kernel, z_g201, z_g189, by decide +kernel, by decide +kernel, ⟨fun h => absurd h (by decide), fun _ => ⟨z_g202, z_g203⟩⟩⟩
theorem z_okm_66 : z_okm (7, yX7_bound, cX7_bound, 4, (some .int), false, 1, 3) := ⟨rfl, by decide +kernel, z_g204, z_g189, by decide +kernel, by decide +kernel, ⟨fun h => absurd h (by decide), fun _ => ⟨z_g205, z_g206⟩⟩⟩
theorem z_okm_67 : z_okm (7, yX7_classOf, cX7_classOf, 3, (some .int), false, 2, 4) := ⟨rfl, by decide +kernel, z_g207, z_g189, by decide +kernel, by decide +kernel, ⟨fun h => absurd h (by decide), fun _ => ⟨z_g208, z_g209⟩⟩⟩
theorem z_okm_68 : z_okm (7, yX7_clearText, cX7_clearText, 2, (some .int), false, 0, 0) := ⟨rfl, by decide +kernel, z_g210, z_g189, by decide +kernel, by decide +kernel, ⟨fun h => absurd h (by decide), fun _ => ⟨z_g211, z_g212⟩⟩⟩
theorem z_okm_69 : z_okm (7, yX7_count, cX7_count, 2, (some .int), false, 1, 4) := ⟨rfl, by decide +kernel, z_g213, z_g189, by decide +kernel, by decide +kernel, ⟨fun h => absurd h (by decide), fun _ => ⟨z_g214, z_g215⟩⟩⟩
theorem z_okm_70 : z_okm (7, yX7_group, cX7_group, 3, (some .int), false, 2, 3) := ⟨rfl, by decide +kernel, z_g216, z_g189, by decide +kernel, by decide +kernel, ⟨fun h => absurd h (by decide), fun _ => ⟨z_g217, z_g218⟩⟩⟩
theorem z_okm_71 : z_okm (7, yX7_isQuantum, cX7_isQuantum, 1, (some .boolean), true, 1, 1) := ⟨rfl, by decide +kernel, z_g219, z_g189, by decide +kernel, by decide +kernel, ⟨fun _ => z_g220, fun h => absurd h (by decide)⟩⟩
theorem z_okm_72 : z_okm (7, yX7_isWithin, cX7_isWithin, 3, (some .boolean), true, 3, 0) := ⟨rfl, by decide +kernel, z_g221, z_g189, by decide +kernel, by decide +kernel, ⟨fun _ => z_g222, fun h => absurd h (by decide)⟩⟩
theorem z_okm_73 : z_okm (7, yX7_job, cX7_job, 3, (some .int), false, 2, 4) := ⟨rfl, by decide +kernel, z_g223, z_g189, by decide +kernel, by decide +kernel, ⟨fun h => absurd h (by decide), fun _ => ⟨z_g224, z_g225⟩⟩⟩
theorem z_okm_74 : z_okm (7, yX7_keep, cX7_keep, 1, (some .int), false, 0, 3) := ⟨rfl, by decide +kernel, z_g226, z_g189, by decide +kernel, by decide +kernel, ⟨fun h => absurd h (by decide), fun _ => ⟨z_g227, z_g228⟩⟩⟩
theorem z_okm_75 : z_okm (7, yX7_mark, cX7_mark, 1, (some .int), false, 0, 4) := ⟨rfl, by decide +kernel, z_g229, z_g189, by decide +kernel, by decide +kernel, ⟨fun h => absurd h (by decide), fun _ => ⟨z_g230, z_g231⟩⟩⟩
theorem z_okm_76 : z_okm (7, yX7_pass, cX7_pass, 4, (some .int), false, 1, 6) := ⟨rfl, by decide +kernel, z_g232, z_g189, by decide +kernel, by decide +kernel, ⟨fun h => absurd h (by decide), fun _ => ⟨z_g233, z_g234⟩⟩⟩
theorem z_okm_77 : z_okm (7, yX7_passTick, cX7_passTick, 2, (some .int), false, 0, 5) := ⟨rfl, by decide +kernel, z_g235, z_g189, by decide +kernel, by decide +kernel, ⟨fun h => absurd h (by decide), fun _ => ⟨z_g236, z_g237⟩⟩⟩
theorem z_okm_78 : z_okm (7, yX7_readJobs, cX7_readJobs, 7, (some .int), false, 0, 4) := ⟨rfl, by decide +kernel, z_g238, z_g189, by decide +kernel, by decide +kernel, ⟨fun h => absurd h (by decide), fun _ => ⟨z_g239, z_g240⟩⟩⟩
theorem z_okm_79 : z_okm (7, yX7_restore, cX7_restore, 1, (some .int), false, 0, 4) := ⟨rfl, by decide +kernel, z_g241, z_g189, by decide +kernel, by decide +kernel, ⟨fun h => absurd h (by decide), fun _ => ⟨z_g242, z_g243⟩⟩⟩
theorem z_okm_80 : z_okm (7, yX7_served, cX7_served, 2, (some .int), false, 1, 6) := ⟨rfl, by decide +kernel, z_g244, z_g189, by decide +kernel, by decide +kernel, ⟨fun h => absurd h (by decide), fun _ => ⟨z_g245, z_g246⟩⟩⟩
theorem z_okm_81 : z_okm (7, yX7_setAge, cX7_setAge, 4, (some .int), false, 2, 4) := ⟨rfl, by decide +kernel, z_g247, z_g189, by decide +kernel, by decide +kernel, ⟨fun h => absurd h (by decide), fun _ => ⟨z_g248, z_g249⟩⟩⟩
theorem z_okm_82 : z_okm (7, yX7_setGroupQuantum, cX7_setGroupQuantum, 4, (some .int), false, 2, 4) := ⟨rfl, by decide +kernel, z_g250, z_g189, by decide +kernel, by decide +kernel, ⟨fun h => absurd h (by decide), fun _ => ⟨z_g251, z_g252⟩⟩⟩
theorem z_okm_83 : z_okm (7, yX7_setQuantum, cX7_setQuantum, 4, (some .int), false, 2, 4) := ⟨rfl, by decide +kernel, z_g253, z_g189, by decide +kernel, by decide +kernel, ⟨fun h => absurd h (by decide), fun _ => ⟨z_g254, z_g255⟩⟩⟩
theorem z_okm_84 : z_okm (7, yX7_shares, cX7_shares, 4, (some .int), false, 2, 1) := ⟨rfl, by decide +kernel, z_g256, z_g189, by decide +kernel, by decide +kernel, ⟨fun h => absurd h (by decide), fun _ => ⟨z_g257, z_g258⟩⟩⟩
theorem z_okm_85 : z_okm (7, yX7_type, cX7_type, 2, (some .int), false, 1, 1) := ⟨rfl, by decide +kernel, z_g259, z_g189, by decide +kernel, by decide +kernel, ⟨fun h => absurd h (by decide), fun _ => ⟨z_g260, z_g261⟩⟩⟩
theorem z_okm_86 : z_okm (7, yX7_undo, cX7_undo, 1, (some .int), false, 0, 4) := ⟨rfl, by decide +kernel, z_g262, z_g189, by decide +kernel, by decide +kernel, ⟨fun h => absurd h (by decide), fun _ => ⟨z_g263, z_g264⟩⟩⟩
theorem z_okm_87 : z_okm (8, yX8_add, cX8_add, 4, (some .int), false, 2, 4) := ⟨rfl, by decide +kernel, z_g265, z_g266, by decide +kernel, by decide +kernel, ⟨fun h => absurd h (by decide), fun _ => ⟨z_g267, z_g268⟩⟩⟩
theorem z_okm_88 : z_okm (8, yX8_addClass, cX8_addClass, 7, (some .int), false, 4, 2) := ⟨rfl, by decide +kernel, z_g269, z_g266, by decide +kernel, by decide +kernel, ⟨fun h => absurd h (by decide), fun _ => ⟨z_g270, z_g271⟩⟩⟩
theorem z_okm_89 : z_okm (8, yX8_addGroup, cX8_addGroup, 3, (some .int), false, 1, 2) := ⟨rfl, by decide +kernel, z_g272, z_g266, by decide +kernel, by decide +kernel, ⟨fun h => absurd h (by decide), fun _ => ⟨z_g273, z_g274⟩⟩⟩
theorem z_okm_90 : z_okm (8, yX8_against, cX8_against, 3, (some .int), false, 2, 3) := ⟨rfl, by decide +kernel, z_g275, z_g266, by decide +kernel, by decide +kernel, ⟨fun h => absurd h (by decide), fun _ => ⟨z_g276, z_g277⟩⟩⟩
theorem z_okm_91 : z_okm (8, yX8_begin, cX8_begin, 1, none, false, 0, 1) := ⟨rfl, by decide +kernel, z_g278, z_g266, by decide +kernel, by decide +kernel, ⟨fun h => absurd h (by decide), fun _ => ⟨z_g279, z_g280⟩⟩⟩
theorem z_okm_92 : z_okm (8, yX8_beginsAt, cX8_beginsAt, 3, (some .int), false, 1, 8) := ⟨rfl, by decide +kernel, z_g281, z_g266, by decide +kernel, by decide +kernel, ⟨fun h => absurd h (by decide), fun _ => ⟨z_g282, z_g283⟩⟩⟩
theorem z_okm_93 : z_okm (8, yX8_bound, cX8_bound, 6, (some .int), false, 1, 2) := ⟨rfl, by decide +kernel, z_g284, z_g266, by decide +kernel, by decide +kernel, ⟨fun h => absurd h (by decide), fun _ => ⟨z_g285, z_g286⟩⟩⟩
theorem z_okm_94 : z_okm (8, yX8_canServe, cX8_canServe, 3, (some .boolean), false, 1, 3) := ⟨rfl, by decide +kernel, z_g287, z_g266, by decide +kernel, by decide +kernel, ⟨fun h => absurd h (by decide), fun _ => ⟨z_g288, z_g289⟩⟩⟩
theorem z_okm_95 : z_okm (8, yX8_canServeGroup, cX8_canServeGroup, 3, (some .boolean), false, 1, 5) := ⟨rfl, by decide +kernel, z_g290, z_g266, by decide +kernel, by decide +kernel, ⟨fun h => absurd h (by decide), fun _ => ⟨z_g291, z_g292⟩⟩⟩
theorem z_okm_96 : z_okm (8, yX8_choose, cX8_choose, 6, (some .int), false, 0, 7) := ⟨rfl, by decide +kernel, z_g293, z_g266, by decide +kernel, by decide +kernel, ⟨fun h => absurd h (by decide), fun _ => ⟨z_g294, z_g295⟩⟩⟩
theorem z_okm_97 : z_okm (8, yX8_classBehind, cX8_classBehind, 4, (some .int), false, 2, 1) := ⟨rfl, by decide +kernel, z_g296, z_g266, by decide +kernel, by decide +kernel, ⟨fun h => absurd h (by decide), fun _ => ⟨z_g297, z_g298⟩⟩⟩
theorem z_okm_98 : z_okm (8, yX8_classOf, cX8_classOf, 4, (some .int), false, 2, 3) := ⟨rfl, by decide +kernel, z_g299, z_g266, by decide +kernel, by decide +kernel, ⟨fun h => absurd h (by decide), fun _ => ⟨z_g300, z_g301⟩⟩⟩
theorem z_okm_99 : z_okm (8, yX8_clearText, cX8_clearText, 2, (some .int), false, 0, 0) := ⟨rfl, by decide +kernel, z_g302, z_g266, by decide +kernel, by decide +kernel, ⟨fun h => absurd h (by decide), fun _ => ⟨z_g303, z_g304⟩⟩⟩
theorem z_okm_100 : z_okm (8, yX8_come, cX8_come, 5, (some .int), false, 2, 1) := ⟨rfl, by decide +kernel, z_g305, z_g266, by decide +kernel, by decide +kernel, ⟨fun h => absurd h (by decide), fun _ => ⟨z_g306, z_g307⟩⟩⟩
theorem z_okm_101 : z_okm (8, yX8_count, cX8_count, 2, (some .int), false, 1, 4) := ⟨rfl, by decide +kernel, z_g308, z_g266, by decide +kernel, by decide +kernel, ⟨fun h => absurd h (by decide), fun _ => ⟨z_g309, z_g310⟩⟩⟩
theorem z_okm_102 : z_okm (8, yX8_firstOf, cX8_firstOf, 3, (some .int), false, 1, 2) := ⟨rfl, by decide +kernel, z_g311, z_g266, by decide +kernel, by decide +kernel, ⟨fun h => absurd h (by decide), fun _ => ⟨z_g312, z_g313⟩⟩⟩
theorem z_okm_103 : z_okm (8, yX8_firstOld, cX8_firstOld, 2, (some .int), false, 0, 3) := ⟨rfl, by decide +kernel, z_g314, z_g266, by decide +kernel, by decide +kernel, ⟨fun h => absurd h (by decide), fun _ => ⟨z_g315, z_g316⟩⟩⟩
theorem z_okm_104 : z_okm (8, yX8_goBack, cX8_goBack, 2, none, false, 0, 0) := ⟨rfl, by decide +kernel, z_g317, z_g266, by decide +kernel, by decide +kernel, ⟨fun h => absurd h (by decide), fun _ => ⟨z_g318, z_g319⟩⟩⟩
theorem z_okm_105 : z_okm (8, yX8_group, cX8_group, 6, (some .int), false, 2, 3) := ⟨rfl, by decide +kernel, z_g320, z_g266, by decide +kernel, by decide +kernel, ⟨fun h => absurd h (by decide), fun _ => ⟨z_g321, z_g322⟩⟩⟩
theorem z_okm_106 : z_okm (8, yX8_in, cX8_in, 3, (some .boolean), true, 3, 0) := ⟨rfl, by decide +kernel, z_g323, z_g266, by decide +kernel, by decide +kernel, ⟨fun _ => z_g324, fun h => absurd h (by decide)⟩⟩
theorem z_okm_107 : z_okm (8, yX8_isBusy, cX8_isBusy, 2, (some .boolean), false, 1, 3) := ⟨rfl, by decide +kernel, z_g325, z_g266, by decide +kernel, by decide +kernel, ⟨fun h => absurd h (by decide), fun _ => ⟨z_g326, z_g327⟩⟩⟩
theorem z_okm_108 : z_okm (8, yX8_isGroupBusy, cX8_isGroupBusy, 4, (some .boolean), false, 1, 4) := ⟨rfl, by decide +kernel, z_g328, z_g266, by decide +kernel, by decide +kernel, ⟨fun h => absurd h (by decide), fun _ => ⟨z_g329, z_g330⟩⟩⟩
theorem z_okm_109 : z_okm (8, yX8_isOld, cX8_isOld, 3, (some .boolean), false, 1, 2) := ⟨rfl, by decide +kernel, z_g331, z_g266, by decide +kernel, by decide +kernel, ⟨fun h => absurd h (by decide), fun _ => ⟨z_g332, z_g333⟩⟩⟩
theorem z_okm_110 : z_okm (8, yX8_its, cX8_its, 1, (some .int), true, 1, 0) := ⟨rfl, by decide +kernel, z_g334, z_g266, by decide +kernel, by decide +kernel, ⟨fun _ => z_g335, fun h => absurd h (by decide)⟩⟩
theorem z_okm_111 : z_okm (8, yX8_job, cX8_job, 4, (some .int), false, 2, 3) := ⟨rfl, by decide +kernel, z_g336, z_g266, by decide +kernel, by decide +kernel, ⟨fun h => absurd h (by decide), fun _ => ⟨z_g337, z_g338⟩⟩⟩
theorem z_okm_112 : z_okm (8, yX8_jobs, cX8_jobs, 5, (some .int), false, 1, 5) := ⟨rfl, by decide +kernel, z_g339, z_g266, by decide +kernel, by decide +kernel, ⟨fun h => absurd h (by decide), fun _ => ⟨z_g340, z_g341⟩⟩⟩
theorem z_okm_113 : z_okm (8, yX8_jobsThat, cX8_jobsThat, 4, (some .int), false, 1, 3) := ⟨rfl, by decide +kernel, z_g342, z_g266, by decide +kernel, by decide +kernel, ⟨fun h => absurd h (by decide), fun _ => ⟨z_g343, z_g344⟩⟩⟩
theorem z_okm_114 : z_okm (8, yX8_keep, cX8_keep, 2, (some .int), false, 0, 0) := ⟨rfl, by decide +kernel, z_g345, z_g266, by decide +kernel, by decide +kernel, ⟨fun h => absurd h (by decide), fun _ => ⟨z_g346, z_g347⟩⟩⟩
theorem z_okm_115 : z_okm (8, yX8_kind, cX8_kind, 1, (some .int), true, 1, 0) := ⟨rfl, by decide +kernel, z_g348, z_g266, by decide +kernel, by decide +kernel, ⟨fun _ => z_g349, fun h => absurd h (by decide)⟩⟩
theorem z_okm_116 : z_okm (8, yX8_mark, cX8_mark, 3, (some .int), false, 0, 2) := ⟨rfl, by decide +kernel, z_g350, z_g266, by decide +kernel, by decide +kernel, ⟨fun h => absurd h (by decide), fun _ => ⟨z_g351, z_g352⟩⟩⟩
theorem z_okm_117 : z_okm (8, yX8_nextClass, cX8_nextClass, 3, (some .int), false, 1, 4) := ⟨rfl, by decide +kernel, z_g353, z_g266, by decide +kernel, by decide +kernel, ⟨fun h => absurd h (by decide), fun _ => ⟨z_g354, z_g355⟩⟩⟩
theorem z_okm_118 : z_okm (8, yX8_nextGroup, cX8_nextGroup, 2, (some .int), false, 0, 6) := ⟨rfl, by decide +kernel, z_g356, z_g266, by decide +kernel, by decide +kernel, ⟨fun h => absurd h (by decide), fun _ => ⟨z_g357, z_g358⟩⟩⟩
theorem z_okm_119 : z_okm (8, yX8_noClass, cX8_noClass, 2, (some .boolean), false, 1, 1) := ⟨rfl, by decide +kernel, z_g359, z_g266, by decide +kernel, by decide +kernel, ⟨fun h => absurd h (by decide), fun _ => ⟨z_g360, z_g361⟩⟩⟩
theorem z_okm_120 : z_okm (8, yX8_noGroup, cX8_noGroup, 2, (some .boolean), false, 1, 1) := ⟨rfl, by decide +kernel, z_g362, z_g266, by decide +kernel, by decide +kernel, ⟨fun h => absurd h (by decide), fun _ => ⟨z_g363, z_g364⟩⟩⟩
theorem z_okm_121 : z_okm (8, yX8_noJob, cX8_noJob, 2, (some .boolean), false, 1, 1) := ⟨rfl, by decide +kernel, z_g365, z_g266, by decide +kernel, by decide +kernel, ⟨fun h => absurd h (by decide), fun _ => ⟨z_g366, z_g367⟩⟩⟩
theorem z_okm_122 : z_okm (8, yX8_party, cX8_party, 1, (some .int), true, 1, 0) := ⟨rfl, by decide +kernel, z_g368, z_g266, by decide +kernel, by decide +kernel, ⟨fun _ => z_g369, fun h => absurd h (by decide)⟩⟩
theorem z_okm_123 : z_okm (8, yX8_pass, cX8_pass, 4, (some .int), false, 1, 9) := ⟨rfl, by decide +kernel, z_g370, z_g266, by decide +kernel, by decide +kernel, ⟨fun h => absurd h (by decide), fun _ => ⟨z_g371, z_g372⟩⟩⟩
theorem z_okm_124 : z_okm (8, yX8_readJob, cX8_readJob, 5, (some .int), false, 1, 4) := ⟨rfl, by decide +kernel, z_g373, z_g266, by decide +kernel, by decide +kernel, ⟨fun h => absurd h (by decide), fun _ => ⟨z_g374, z_g375⟩⟩⟩
theorem z_okm_125 : z_okm (8, yX8_readJobs, cX8_readJobs, 2, (some .int), false, 0, 6) := ⟨rfl, by decide +kernel, z_g376, z_g266, by decide +kernel, by decide +kernel, ⟨fun h => absurd h (by decide), fun _ => ⟨z_g377, z_g378⟩⟩⟩
theorem z_okm_126 : z_okm (8, yX8_record, cX8_record, 2, none, false, 0, 0) := ⟨rfl, by decide +kernel, z_g379, z_g266, by decide +kernel, by decide +kernel, ⟨fun h => absurd h (by decide), fun _ => ⟨z_g380, z_g381⟩⟩⟩
theorem z_okm_127 : z_okm (8, yX8_remember, cX8_remember, 2, none, false, 0, 0) := ⟨rfl, by decide +kernel, z_g382, z_g266, by decide +kernel, by decide +kernel, ⟨fun h => absurd h (by decide), fun _ => ⟨z_g383, z_g384⟩⟩⟩
theorem z_okm_128 : z_okm (8, yX8_restore, cX8_restore, 2, (some .int), false, 0, 2) := ⟨rfl, by decide +kernel, z_g385, z_g266, by decide +kernel, by decide +kernel, ⟨fun h => absurd h (by decide), fun _ => ⟨z_g386, z_g387⟩⟩⟩
theorem z_okm_129 : z_okm (8, yX8_sees, cX8_sees, 3, (some .boolean), false, 2, 1) := ⟨rfl, by decide +kernel, z_g388, z_g266, by decide +kernel, by decide +kernel, ⟨fun h => absurd h (by decide), fun _ => ⟨z_g389, z_g390⟩⟩⟩
theorem z_okm_130 : z_okm (8, yX8_serveOut, cX8_serveOut, 2, none, false, 0, 1) := ⟨rfl, by decide +kernel, z_g391, z_g266, by decide +kernel, by decide +kernel, ⟨fun h => absurd h (by decide), fun _ => ⟨z_g392, z_g393⟩⟩⟩
theorem z_okm_131 : z_okm (8, yX8_served, cX8_served, 4, (some .int), false, 1, 8) := ⟨rfl, by decide +kernel, z_g394, z_g266, by decide +kernel, by decide +kernel, ⟨fun h => absurd h (by decide), fun _ => ⟨z_g395, z_g396⟩⟩⟩
theorem z_okm_132 : z_okm (8, yX8_set, cX8_set, 4, (some .int), false, 2, 2) := ⟨rfl, by decide +kernel, z_g397, z_g266, by decide +kernel, by decide +kernel, ⟨fun h => absurd h (by decide), fun _ => ⟨z_g398, z_g399⟩⟩⟩
theorem z_okm_133 : z_okm (8, yX8_setAge, cX8_setAge, 3, (some .int), false, 2, 3) := ⟨rfl, by decide +kernel, z_g400, z_g266, by decide +kernel, by decide +kernel, ⟨fun h => absurd h (by decide), fun _ => ⟨z_g401, z_g402⟩⟩⟩
theorem z_okm_134 : z_okm (8, yX8_setGroupQuantum, cX8_setGroupQuantum, 3, (some .int), false, 2, 3) := ⟨rfl, by decide +kernel, z_g403, z_g266, by decide +kernel, by decide +kernel, ⟨fun h => absurd h (by decide), fun _ => ⟨z_g404, z_g405⟩⟩⟩
theorem z_okm_135 : z_okm (8, yX8_setQuantum, cX8_setQuantum, 3, (some .int), false, 2, 3) := ⟨rfl, by decide +kernel, z_g406, z_g266, by decide +kernel, by decide +kernel, ⟨fun h => absurd h (by decide), fun _ => ⟨z_g407, z_g408⟩⟩⟩
theorem z_okm_136 : z_okm (8, yX8_shares, cX8_shares, 3, (some .int), false, 2, 2) := ⟨rfl, by decide +kernel, z_g409, z_g266, by decide +kernel, by decide +kernel, ⟨fun h => absurd h (by decide), fun _ => ⟨z_g410, z_g411⟩⟩⟩
theorem z_okm_137 : z_okm (8, yX8_tick, cX8_tick, 5, (some .int), false, 0, 8) := ⟨rfl, by decide +kernel, z_g412, z_g266, by decide +kernel, by decide +kernel, ⟨fun h => absurd h (by decide), fun _ => ⟨z_g413, z_g414⟩⟩⟩
theorem z_okm_138 : z_okm (8, yX8_type, cX8_type, 2, (some .int), false, 1, 0) := ⟨rfl, by decide +kernel, z_g415, z_g266, by decide +kernel, by decide +kernel, ⟨fun h => absurd h (by decide), fun _ => ⟨z_g416, z_g417⟩⟩⟩
theorem z_okm_139 : z_okm (8, yX8_undo, cX8_undo, 2, (some .int), false, 0, 0) := ⟨rfl, by decide +kernel, z_g418, z_g266, by decide +kernel, by decide +kernel, ⟨fun h => absurd h (by decide), fun _ => ⟨z_g419, z_g420⟩⟩⟩
theorem z_okm_140 : z_okm (8, yX8_waiting, cX8_waiting, 8, (some .int), false, 3, 2) := ⟨rfl, by decide +kernel, z_g421, z_g266, by decide +kernel, by decide +kernel, ⟨fun h => absurd h (by decide), fun _ => ⟨z_g422, z_g423⟩⟩⟩
theorem z_okm_141 : z_okm (8, yX8_waits, cX8_waits, 2, (some .boolean), false, 1, 1) := ⟨rfl, by decide +kernel, z_g424, z_g266, by decide +kernel, by decide +kernel, ⟨fun h => absurd h (by decide), fun _ => ⟨z_g425, z_g426⟩⟩⟩
set_option maxRecDepth 100000 in
theorem z_mts_ok : ∀ mi ∈ z_mts, z_okm mi := List.forall_mem_cons.mpr ⟨z_okm_0,
  List.forall_mem_cons.mpr ⟨z_okm_1,
  List.forall_mem_cons.mpr ⟨z_okm_2,
  List.forall_mem_cons.mpr ⟨z_okm_3,
  List.forall_mem_cons.mpr ⟨z_okm_4,
  List.forall_mem_cons.mpr ⟨z_okm_5,
  List.forall_mem_cons.mpr ⟨z_okm_6,
  List.forall_mem_cons.mpr ⟨z_okm_7,
  List.forall_mem_cons.mpr ⟨z_okm_8,
  List.forall_mem_cons.mpr ⟨z_okm_9,
  List.forall_mem_cons.mpr ⟨z_okm_10,
  List.forall_mem_cons.mpr ⟨z_okm_11,
  List.forall_mem_cons.mpr ⟨z_okm_12,
  List.forall_mem_cons.mpr ⟨z_okm_13,
  List.forall_mem_cons.mpr ⟨z_okm_14,
  List.forall_mem_cons.mpr ⟨z_okm_15,
  List.forall_mem_cons.mpr ⟨z_okm_16,
  List.forall_mem_cons.mpr ⟨z_okm_17,
  List.forall_mem_cons.mpr ⟨z_okm_18,
  List.forall_mem_cons.mpr ⟨z_okm_19,
  List.forall_mem_cons.mpr ⟨z_okm_20,
  List.forall_mem_cons.mpr ⟨z_okm_21,
  List.forall_mem_cons.mpr ⟨z_okm_22,
  List.forall_mem_cons.mpr ⟨z_okm_23,
  List.forall_mem_cons.mpr ⟨z_okm_24,
  List.forall_mem_cons.mpr ⟨z_okm_25,
  List.forall_mem_cons.mpr ⟨z_okm_26,
  List.forall_mem_cons.mpr ⟨z_okm_27,
  List.forall_mem_cons.mpr ⟨z_okm_28,
  List.forall_mem_cons.mpr ⟨z_okm_29,
  List.forall_mem_cons.mpr ⟨z_okm_30,
  List.forall_mem_cons.mpr ⟨z_okm_31,
  List.forall_mem_cons.mpr ⟨z_okm_32,
  List.forall_mem_cons.mpr ⟨z_okm_33,
  List.forall_mem_cons.mpr ⟨z_okm_34,
  List.forall_mem_cons.mpr ⟨z_okm_35,
  List.forall_mem_cons.mpr ⟨z_okm_36,
  List.forall_mem_cons.mpr ⟨z_okm_37,
  List.forall_mem_cons.mpr ⟨z_okm_38,
  List.forall_mem_cons.mpr ⟨z_okm_39,
  List.forall_mem_cons.mpr ⟨z_okm_40,
  List.forall_mem_cons.mpr ⟨z_okm_41,
  List.forall_mem_cons.mpr ⟨z_okm_42,
  List.forall_mem_cons.mpr ⟨z_okm_43,
  List.forall_mem_cons.mpr ⟨z_okm_44,
  List.forall_mem_cons.mpr ⟨z_okm_45,
  List.forall_mem_cons.mpr ⟨z_okm_46,
  List.forall_mem_cons.mpr ⟨z_okm_47,
  List.forall_mem_cons.mpr ⟨z_okm_48,
  List.forall_mem_cons.mpr ⟨z_okm_49,
  List.forall_mem_cons.mpr ⟨z_okm_50,
  List.forall_mem_cons.mpr ⟨z_okm_51,
  List.forall_mem_cons.mpr ⟨z_okm_52,
  List.forall_mem_cons.mpr ⟨z_okm_53,
  List.forall_mem_cons.mpr ⟨z_okm_54,
  List.forall_mem_cons.mpr ⟨z_okm_55,
  List.forall_mem_cons.mpr ⟨z_okm_56,
  List.forall_mem_cons.mpr ⟨z_okm_57,
  List.forall_mem_cons.mpr ⟨z_okm_58,
  List.forall_mem_cons.mpr ⟨z_okm_59,
  List.forall_mem_cons.mpr ⟨z_okm_60,
  List.forall_mem_cons.mpr ⟨z_okm_61,
  List.forall_mem_cons.mpr ⟨z_okm_62,
  List.forall_mem_cons.mpr ⟨z_okm_63,
  List.forall_mem_cons.mpr ⟨z_okm_64,
  List.forall_mem_cons.mpr ⟨z_okm_65,
  List.forall_mem_cons.mpr ⟨z_okm_66,
  List.forall_mem_cons.mpr ⟨z_okm_67,
  List.forall_mem_cons.mpr ⟨z_okm_68,
  List.forall_mem_cons.mpr ⟨z_okm_69,
  List.forall_mem_cons.mpr ⟨z_okm_70,
  List.forall_mem_cons.mpr ⟨z_okm_71,
  List.forall_mem_cons.mpr ⟨z_okm_72,
  List.forall_mem_cons.mpr ⟨z_okm_73,
  List.forall_mem_cons.mpr ⟨z_okm_74,
  List.forall_mem_cons.mpr ⟨z_okm_75,
  List.forall_mem_cons.mpr ⟨z_okm_76,
  List.forall_mem_cons.mpr ⟨z_okm_77,
  List.forall_mem_cons.mpr ⟨z_okm_78,
  List.forall_mem_cons.mpr ⟨z_okm_79,
  List.forall_mem_cons.mpr ⟨z_okm_80,
  List.forall_mem_cons.mpr ⟨z_okm_81,
  List.forall_mem_cons.mpr ⟨z_okm_82,
  List.forall_mem_cons.mpr ⟨z_okm_83,
  List.forall_mem_cons.mpr ⟨z_okm_84,
  List.forall_mem_cons.mpr ⟨z_okm_85,
  List.forall_mem_cons.mpr ⟨z_okm_86,
  List.forall_mem_cons.mpr ⟨z_okm_87,
  List.forall_mem_cons.mpr ⟨z_okm_88,
  List.forall_mem_cons.mpr ⟨z_okm_89,
  List.forall_mem_cons.mpr ⟨z_okm_90,
  List.forall_mem_cons.mpr ⟨z_okm_91,
  List.forall_mem_cons.mpr ⟨z_okm_92,
  List.forall_mem_cons.mpr ⟨z_okm_93,
  List.forall_mem_cons.mpr ⟨z_okm_94,
  List.forall_mem_cons.mpr ⟨z_okm_95,
  List.forall_mem_cons.mpr ⟨z_okm_96,
  List.forall_mem_cons.mpr ⟨z_okm_97,
  List.forall_mem_cons.mpr ⟨z_okm_98,
  List.forall_mem_cons.mpr ⟨z_okm_99,
  List.forall_mem_cons.mpr ⟨z_okm_100,
  List.forall_mem_cons.mpr ⟨z_okm_101,
  List.forall_mem_cons.mpr ⟨z_okm_102,
  List.forall_mem_cons.mpr ⟨z_okm_103,
  List.forall_mem_cons.mpr ⟨z_okm_104,
  List.forall_mem_cons.mpr ⟨z_okm_105,
  List.forall_mem_cons.mpr ⟨z_okm_106,
  List.forall_mem_cons.mpr ⟨z_okm_107,
  List.forall_mem_cons.mpr ⟨z_okm_108,
  List.forall_mem_cons.mpr ⟨z_okm_109,
  List.forall_mem_cons.mpr ⟨z_okm_110,
  List.forall_mem_cons.mpr ⟨z_okm_111,
  List.forall_mem_cons.mpr ⟨z_okm_112,
  List.forall_mem_cons.mpr ⟨z_okm_113,
  List.forall_mem_cons.mpr ⟨z_okm_114,
  List.forall_mem_cons.mpr ⟨z_okm_115,
  List.forall_mem_cons.mpr ⟨z_okm_116,
  List.forall_mem_cons.mpr ⟨z_okm_117,
  List.forall_mem_cons.mpr ⟨z_okm_118,
  List.forall_mem_cons.mpr ⟨z_okm_119,
  List.forall_mem_cons.mpr ⟨z_okm_120,
  List.forall_mem_cons.mpr ⟨z_okm_121,
  List.forall_mem_cons.mpr ⟨z_okm_122,
  List.forall_mem_cons.mpr ⟨z_okm_123,
  List.forall_mem_cons.mpr ⟨z_okm_124,
  List.forall_mem_cons.mpr ⟨z_okm_125,
  List.forall_mem_cons.mpr ⟨z_okm_126,
  List.forall_mem_cons.mpr ⟨z_okm_127,
  List.forall_mem_cons.mpr ⟨z_okm_128,
  List.forall_mem_cons.mpr ⟨z_okm_129,
  List.forall_mem_cons.mpr ⟨z_okm_130,
  List.forall_mem_cons.mpr ⟨z_okm_131,
  List.forall_mem_cons.mpr ⟨z_okm_132,
  List.forall_mem_cons.mpr ⟨z_okm_133,
  List.forall_mem_cons.mpr ⟨z_okm_134,
  List.forall_mem_cons.mpr ⟨z_okm_135,
  List.forall_mem_cons.mpr ⟨z_okm_136,
  List.forall_mem_cons.mpr ⟨z_okm_137,
  List.forall_mem_cons.mpr ⟨z_okm_138,
  List.forall_mem_cons.mpr ⟨z_okm_139,
  List.forall_mem_cons.mpr ⟨z_okm_140,
  List.forall_mem_cons.mpr ⟨z_okm_141,
  fun _ h => absurd h List.not_mem_nil⟩⟩⟩⟩⟩⟩⟩⟩⟩⟩⟩⟩⟩⟩⟩⟩⟩⟩⟩⟩⟩⟩⟩⟩⟩⟩⟩⟩⟩⟩⟩⟩⟩⟩⟩⟩⟩⟩⟩⟩⟩⟩⟩⟩⟩⟩⟩⟩⟩⟩⟩⟩⟩⟩⟩⟩⟩⟩⟩⟩⟩⟩⟩⟩⟩⟩⟩⟩⟩⟩⟩⟩⟩⟩⟩⟩⟩⟩⟩⟩⟩⟩⟩⟩⟩⟩⟩⟩⟩⟩⟩⟩⟩⟩⟩⟩⟩⟩⟩⟩⟩⟩⟩⟩⟩⟩⟩⟩⟩⟩⟩⟩⟩⟩⟩⟩⟩⟩⟩⟩⟩⟩⟩⟩⟩⟩⟩⟩⟩⟩⟩⟩⟩⟩⟩⟩⟩⟩⟩⟩⟩⟩
theorem z_g427 : Cond.fieldLink RX0 9 "DeficitCircles$Classes" "held" "I" ∈ z_G := z_m1 (i := 61) rfl rfl
theorem z_g428 : Cond.fieldLink RX0 15 "DeficitCircles$Classes" "group" "[I" ∈ z_G := z_m1 (i := 64) rfl rfl
theorem z_g429 : Cond.fieldLink RX0 19 "DeficitCircles$Classes" "quantum" "[I" ∈ z_G := z_m1 (i := 68) rfl rfl
theorem z_g430 : Cond.fieldLink RX0 22 "DeficitCircles$Classes" "deficit" "[I" ∈ z_G := z_m1 (i := 71) rfl rfl
theorem z_g431 : Cond.fieldLink RX0 25 "DeficitCircles$Classes" "bucket" "[I" ∈ z_G := z_m1 (i := 75) rfl rfl
theorem z_g432 : Cond.fieldLink RX0 28 "DeficitCircles$Classes" "fill" "[I" ∈ z_G := z_m1 (i := 76) rfl rfl
theorem z_g433 : Cond.fieldLink RX0 31 "DeficitCircles$Classes" "tokens" "[I" ∈ z_G := z_m1 (i := 77) rfl rfl
theorem z_g434 : Cond.fieldLink RX0 34 "DeficitCircles$Classes" "age" "[I" ∈ z_G := z_m1 (i := 80) rfl rfl
theorem z_g435 : Cond.fieldLink RX0 37 "DeficitCircles$Classes" "longestWait" "[I" ∈ z_G := z_m1 (i := 83) rfl rfl
theorem z_g436 : Cond.fieldLink RX0 40 "DeficitCircles$Classes" "units" "[I" ∈ z_G := z_m1 (i := 86) rfl rfl
theorem z_g437 : Cond.fieldLink RX1 9 "DeficitCircles$Groups" "held" "I" ∈ z_G := z_m1 (i := 32) rfl rfl
theorem z_g438 : Cond.fieldLink RX1 15 "DeficitCircles$Groups" "quantum" "[I" ∈ z_G := z_m1 (i := 35) rfl rfl
theorem z_g439 : Cond.fieldLink RX1 19 "DeficitCircles$Groups" "deficit" "[I" ∈ z_G := z_m1 (i := 38) rfl rfl
theorem z_g440 : Cond.fieldLink RX1 22 "DeficitCircles$Groups" "present" "[I" ∈ z_G := z_m1 (i := 42) rfl rfl
theorem z_g441 : Cond.fieldLink RX2 9 "DeficitCircles$History" "length" "I" ∈ z_G := z_m1 (i := 203) rfl rfl
theorem z_g442 : Cond.fieldLink RX2 17 "DeficitCircles$History" "states" "[LDeficitCircles$State;" ∈ z_G := z_m1 (i := 205) rfl rfl
theorem z_g443 : Cond.fieldLink RX3 9 "DeficitCircles$Jobs" "held" "I" ∈ z_G := z_m1 (i := 116) rfl rfl
theorem z_g444 : Cond.fieldLink RX3 15 "DeficitCircles$Jobs" "ofClass" "[I" ∈ z_G := z_m1 (i := 119) rfl rfl
theorem z_g445 : Cond.fieldLink RX3 19 "DeficitCircles$Jobs" "size" "[I" ∈ z_G := z_m1 (i := 123) rfl rfl
theorem z_g446 : Cond.fieldLink RX3 22 "DeficitCircles$Jobs" "came" "[I" ∈ z_G := z_m1 (i := 127) rfl rfl
theorem z_g447 : Cond.fieldLink RX3 25 "DeficitCircles$Jobs" "began" "[I" ∈ z_G := z_m1 (i := 130) rfl rfl
theorem z_g448 : Cond.fieldLink RX3 28 "DeficitCircles$Jobs" "waits" "I" ∈ z_G := z_m1 (i := 133) rfl rfl
theorem z_g449 : Cond.fieldLink RX3 31 "DeficitCircles$Jobs" "line" "[I" ∈ z_G := z_m1 (i := 137) rfl rfl
theorem z_g450 : Cond.fieldLink RX4 12 "DeficitCircles$State" "groups" "LDeficitCircles$Groups;" ∈ z_G := z_m1 (i := 153) rfl rfl
theorem z_g451 : Cond.fieldLink RX4 21 "DeficitCircles$State" "classes" "LDeficitCircles$Classes;" ∈ z_G := z_m1 (i := 156) rfl rfl
theorem z_g452 : Cond.fieldLink RX4 28 "DeficitCircles$State" "jobs" "LDeficitCircles$Jobs;" ∈ z_G := z_m1 (i := 159) rfl rfl
theorem z_g453 : Cond.fieldLink RX4 32 "DeficitCircles$State" "time" "I" ∈ z_G := z_m1 (i := 162) rfl rfl
theorem z_g454 : Cond.fieldLink RX4 36 "DeficitCircles$State" "presentGroup" "I" ∈ z_G := z_m1 (i := 164) rfl rfl
theorem z_g455 : Cond.fieldLink RX4 39 "DeficitCircles$State" "inService" "I" ∈ z_G := z_m1 (i := 167) rfl rfl
theorem z_g456 : Cond.fieldLink RX4 42 "DeficitCircles$State" "left" "I" ∈ z_G := z_m1 (i := 169) rfl rfl
theorem z_g457 : Cond.fieldLink RX4 45 "DeficitCircles$State" "idleTicks" "I" ∈ z_G := z_m1 (i := 171) rfl rfl
theorem z_g458 : Cond.fieldLink RX4 48 "DeficitCircles$State" "servedWhenOld" "I" ∈ z_G := z_m1 (i := 173) rfl rfl
theorem z_g459 : Cond.fieldLink RX4 69 "DeficitCircles$Classes" "tokens" "[I" ∈ z_G := z_m1 (i := 78) rfl rfl
theorem z_g460 : Cond.fieldLink RX4 91 "DeficitCircles$Jobs" "began" "[I" ∈ z_G := z_m1 (i := 131) rfl rfl
theorem z_g461 : Cond.fieldLink RX4 94 "DeficitCircles$Jobs" "size" "[I" ∈ z_G := z_m1 (i := 125) rfl rfl
theorem z_g462 : Cond.fieldLink RX4 97 "DeficitCircles$Jobs" "ofClass" "[I" ∈ z_G := z_m1 (i := 121) rfl rfl
theorem z_g463 : Cond.fieldLink RX4 100 "DeficitCircles$Jobs" "came" "[I" ∈ z_G := z_m1 (i := 128) rfl rfl
theorem z_g464 : Cond.fieldLink RX4 117 "DeficitCircles$Classes" "longestWait" "[I" ∈ z_G := z_m1 (i := 84) rfl rfl
theorem z_g465 : Cond.fieldLink RX4 129 "DeficitCircles$Classes" "deficit" "[I" ∈ z_G := z_m1 (i := 72) rfl rfl
theorem z_g466 : Cond.fieldLink RX4 136 "DeficitCircles$Groups" "deficit" "[I" ∈ z_G := z_m1 (i := 40) rfl rfl
theorem z_g467 : Cond.fieldLink RX4 138 "DeficitCircles$Classes" "units" "[I" ∈ z_G := z_m1 (i := 87) rfl rfl
theorem z_g468 : Cond.fieldLink RX4 141 "DeficitCircles$Classes" "age" "[I" ∈ z_G := z_m1 (i := 82) rfl rfl
theorem z_g469 : Cond.fieldLink RX4 147 "DeficitCircles$Jobs" "waits" "I" ∈ z_G := z_m1 (i := 135) rfl rfl
theorem z_g470 : Cond.fieldLink RX4 153 "DeficitCircles$Classes" "group" "[I" ∈ z_G := z_m1 (i := 66) rfl rfl
theorem z_g471 : Cond.fieldLink RX4 159 "DeficitCircles$Jobs" "held" "I" ∈ z_G := z_m1 (i := 117) rfl rfl
theorem z_g472 : Cond.fieldLink RX5 9 "DeficitCircles$Text" "length" "I" ∈ z_G := z_m1 (i := 217) rfl rfl
theorem z_g473 : Cond.fieldLink RX5 15 "DeficitCircles$Text" "signs" "[C" ∈ z_G := z_m1 (i := 219) rfl rfl
theorem z_g474 : Cond.fieldLink RX6 9 "DeficitCircles$Turns" "classNeed" "[I" ∈ z_G := z_m1 (i := 232) rfl rfl
theorem z_g475 : Cond.fieldLink RX6 15 "DeficitCircles$Turns" "groupNeed" "[I" ∈ z_G := z_m1 (i := 233) rfl rfl
theorem z_g476 : Cond.fieldLink RX6 18 "DeficitCircles$Turns" "groupBusy" "[Z" ∈ z_G := z_m1 (i := 234) rfl rfl
theorem z_g477 : Cond.fieldLink RX6 22 "DeficitCircles$State" "jobs" "LDeficitCircles$Jobs;" ∈ z_G := z_m1 (i := 160) rfl rfl
theorem z_g478 : Cond.fieldLink RX6 28 "DeficitCircles$Jobs" "waits" "I" ∈ z_G := z_m1 (i := 134) rfl rfl
theorem z_g479 : Cond.fieldLink RX6 52 "DeficitCircles$State" "presentGroup" "I" ∈ z_G := z_m1 (i := 165) rfl rfl
theorem z_g480 : Cond.fieldLink RX6 55 "DeficitCircles$State" "groups" "LDeficitCircles$Groups;" ∈ z_G := z_m1 (i := 155) rfl rfl
theorem z_g481 : Cond.fieldLink RX6 65 "DeficitCircles$Groups" "present" "[I" ∈ z_G := z_m1 (i := 43) rfl rfl
theorem z_g482 : Cond.fieldLink RX6 80 "DeficitCircles$Jobs" "ofClass" "[I" ∈ z_G := z_m1 (i := 120) rfl rfl
theorem z_g483 : Cond.fieldLink RX6 86 "DeficitCircles$State" "classes" "LDeficitCircles$Classes;" ∈ z_G := z_m1 (i := 158) rfl rfl
theorem z_g484 : Cond.fieldLink RX6 93 "DeficitCircles$Jobs" "size" "[I" ∈ z_G := z_m1 (i := 124) rfl rfl
theorem z_g485 : Cond.fieldLink RX6 100 "DeficitCircles$Groups" "deficit" "[I" ∈ z_G := z_m1 (i := 39) rfl rfl
theorem z_g486 : Cond.fieldLink RX6 103 "DeficitCircles$Groups" "held" "I" ∈ z_G := z_m1 (i := 34) rfl rfl
theorem z_g487 : Cond.fieldLink RX6 106 "DeficitCircles$Groups" "quantum" "[I" ∈ z_G := z_m1 (i := 37) rfl rfl
theorem z_g488 : Cond.fieldLink RX6 120 "DeficitCircles$Classes" "deficit" "[I" ∈ z_G := z_m1 (i := 73) rfl rfl
theorem z_g489 : Cond.fieldLink RX6 128 "DeficitCircles$Classes" "held" "I" ∈ z_G := z_m1 (i := 63) rfl rfl
theorem z_g490 : Cond.fieldLink RX6 129 "DeficitCircles$Classes" "group" "[I" ∈ z_G := z_m1 (i := 65) rfl rfl
theorem z_g491 : Cond.fieldLink RX6 132 "DeficitCircles$Classes" "quantum" "[I" ∈ z_G := z_m1 (i := 70) rfl rfl
theorem z_g492 : Cond.fieldLink RX7 10 "DeficitCircles" "state" "LDeficitCircles$State;" ∈ z_G := z_m2 (i := 3) rfl rfl
theorem z_g493 : Cond.fieldLink RX7 16 "DeficitCircles" "snapshot" "LDeficitCircles$State;" ∈ z_G := z_m2 (i := 4) rfl rfl
theorem z_g494 : Cond.fieldLink RX7 19 "DeficitCircles" "hasSnapshot" "Z" ∈ z_G := z_m2 (i := 5) rfl rfl
theorem z_g495 : Cond.fieldLink RX7 23 "DeficitCircles" "trial" "LDeficitCircles$State;" ∈ z_G := z_m2 (i := 6) rfl rfl
theorem z_g496 : Cond.fieldLink RX7 29 "DeficitCircles" "history" "LDeficitCircles$History;" ∈ z_G := z_m2 (i := 7) rfl rfl
theorem z_g497 : Cond.fieldLink RX7 36 "DeficitCircles" "text" "LDeficitCircles$Text;" ∈ z_G := z_m2 (i := 8) rfl rfl
theorem z_g498 : Cond.fieldLink RX7 43 "DeficitCircles" "turns" "LDeficitCircles$Turns;" ∈ z_G := z_m2 (i := 9) rfl rfl
theorem z_g499 : Cond.fieldLink RX7 51 "DeficitCircles$State" "groups" "LDeficitCircles$Groups;" ∈ z_G := z_m1 (i := 154) rfl rfl
theorem z_g500 : Cond.fieldLink RX7 55 "DeficitCircles$Groups" "held" "I" ∈ z_G := z_m1 (i := 33) rfl rfl
theorem z_g501 : Cond.fieldLink RX7 76 "DeficitCircles$State" "classes" "LDeficitCircles$Classes;" ∈ z_G := z_m1 (i := 157) rfl rfl
theorem z_g502 : Cond.fieldLink RX7 80 "DeficitCircles$Classes" "held" "I" ∈ z_G := z_m1 (i := 62) rfl rfl
theorem z_g503 : Cond.fieldLink RX7 86 "DeficitCircles$Groups" "quantum" "[I" ∈ z_G := z_m1 (i := 36) rfl rfl
theorem z_g504 : Cond.fieldLink RX7 91 "DeficitCircles$Classes" "quantum" "[I" ∈ z_G := z_m1 (i := 69) rfl rfl
theorem z_g505 : Cond.fieldLink RX7 92 "DeficitCircles$Classes" "age" "[I" ∈ z_G := z_m1 (i := 81) rfl rfl
theorem z_g506 : Cond.fieldLink RX7 102 "DeficitCircles$State" "time" "I" ∈ z_G := z_m1 (i := 163) rfl rfl
theorem z_g507 : Cond.fieldLink RX7 116 "DeficitCircles$Text" "length" "I" ∈ z_G := z_m1 (i := 218) rfl rfl
theorem z_g508 : Cond.fieldLink RX7 134 "DeficitCircles$History" "length" "I" ∈ z_G := z_m1 (i := 204) rfl rfl
theorem z_g509 : Cond.fieldLink RX7 138 "DeficitCircles$Groups" "deficit" "[I" ∈ z_G := z_m1 (i := 41) rfl rfl
theorem z_g510 : Cond.fieldLink RX7 151 "DeficitCircles$Groups" "present" "[I" ∈ z_G := z_m1 (i := 44) rfl rfl
theorem z_g511 : Cond.fieldLink RX7 157 "DeficitCircles$Classes" "group" "[I" ∈ z_G := z_m1 (i := 67) rfl rfl
theorem z_g512 : Cond.fieldLink RX7 160 "DeficitCircles$Classes" "deficit" "[I" ∈ z_G := z_m1 (i := 74) rfl rfl
theorem z_g513 : Cond.fieldLink RX7 161 "DeficitCircles$State" "jobs" "LDeficitCircles$Jobs;" ∈ z_G := z_m1 (i := 161) rfl rfl
theorem z_g514 : Cond.fieldLink RX7 173 "DeficitCircles$Classes" "tokens" "[I" ∈ z_G := z_m1 (i := 79) rfl rfl
theorem z_g515 : Cond.fieldLink RX7 182 "DeficitCircles$Classes" "longestWait" "[I" ∈ z_G := z_m1 (i := 85) rfl rfl
theorem z_g516 : Cond.fieldLink RX7 185 "DeficitCircles$Classes" "units" "[I" ∈ z_G := z_m1 (i := 88) rfl rfl
theorem z_g517 : Cond.fieldLink RX7 189 "DeficitCircles$Jobs" "ofClass" "[I" ∈ z_G := z_m1 (i := 122) rfl rfl
theorem z_g518 : Cond.fieldLink RX7 192 "DeficitCircles$Jobs" "size" "[I" ∈ z_G := z_m1 (i := 126) rfl rfl
theorem z_g519 : Cond.fieldLink RX7 195 "DeficitCircles$Jobs" "came" "[I" ∈ z_G := z_m1 (i := 129) rfl rfl
theorem z_g520 : Cond.fieldLink RX7 201 "DeficitCircles$Jobs" "began" "[I" ∈ z_G := z_m1 (i := 132) rfl rfl
theorem z_g521 : Cond.fieldLink RX7 213 "DeficitCircles$Jobs" "waits" "I" ∈ z_G := z_m1 (i := 136) rfl rfl
theorem z_g522 : Cond.fieldLink RX7 234 "DeficitCircles$Jobs" "held" "I" ∈ z_G := z_m1 (i := 118) rfl rfl
theorem z_g523 : Cond.fieldLink RX7 235 "DeficitCircles$State" "inService" "I" ∈ z_G := z_m1 (i := 168) rfl rfl
theorem z_g524 : Cond.fieldLink RX7 238 "DeficitCircles$State" "presentGroup" "I" ∈ z_G := z_m1 (i := 166) rfl rfl
theorem z_g525 : Cond.fieldLink RX7 247 "DeficitCircles$State" "idleTicks" "I" ∈ z_G := z_m1 (i := 172) rfl rfl
theorem z_g526 : Cond.fieldLink RX7 250 "DeficitCircles$State" "servedWhenOld" "I" ∈ z_G := z_m1 (i := 174) rfl rfl
theorem z_g527 : Cond.fieldLink RX7 266 "DeficitCircles$State" "left" "I" ∈ z_G := z_m1 (i := 170) rfl rfl
theorem z_g528 : Cond.fieldLink RX8 7 "DeficitCirclesModel" "row" "[I" ∈ z_G := z_m3 (i := 173) rfl rfl
theorem z_g529 : Cond.fieldLink RX8 13 "DeficitCirclesModel" "past" "[I" ∈ z_G := z_m3 (i := 174) rfl rfl
theorem z_g530 : Cond.fieldLink RX8 16 "DeficitCirclesModel" "aside" "[I" ∈ z_G := z_m3 (i := 175) rfl rfl
theorem z_g531 : Cond.fieldLink RX8 19 "DeficitCirclesModel" "before" "[I" ∈ z_G := z_m3 (i := 176) rfl rfl
theorem z_g532 : Cond.fieldLink RX8 22 "DeficitCirclesModel" "text" "[C" ∈ z_G := z_m3 (i := 179) rfl rfl
theorem z_g533 : Cond.fieldLink RX8 26 "DeficitCirclesModel" "states" "I" ∈ z_G := z_m3 (i := 177) rfl rfl
theorem z_g534 : Cond.fieldLink RX8 36 "DeficitCirclesModel" "isAside" "Z" ∈ z_G := z_m3 (i := 178) rfl rfl
theorem z_g535 : Cond.fieldLink RX8 118 "DeficitCirclesModel" "length" "I" ∈ z_G := z_m3 (i := 180) rfl rfl
theorem z_g536 : Cond.fieldLink RX8 121 "DeficitCirclesModel" "at" "I" ∈ z_G := z_m3 (i := 181) rfl rfl
def z_okf (e : (Nat × Nat) × (Nat × Nat)) : Prop := ∃ (C : String) (T : u_T) (N : Nat), z_cl[e.2.1]? = some (C, T, N) ∧ e.2.2 < N ∧ Cond.fieldLink (z_cn e.1.1) e.1.2 (T e.2.2).1 (T e.2.2).2.1 (T e.2.2).2.2.1 ∈ z_G
set_option maxRecDepth 100000 in
theorem z_fl_ok : ∀ e ∈ z_fl, z_okf e := List.forall_mem_cons.mpr ⟨⟨_, _, _, rfl, by decide, z_g427⟩,
  List.forall_mem_cons.mpr ⟨⟨_, _, _, rfl, by decide, z_g428⟩,
  List.forall_mem_cons.mpr ⟨⟨_, _, _, rfl, by decide, z_g429⟩,
  List.forall_mem_cons.mpr ⟨⟨_, _, _, rfl, by decide, z_g430⟩,
  List.forall_mem_cons.mpr ⟨⟨_, _, _, rfl, by decide, z_g431⟩,
  List.forall_mem_cons.mpr ⟨⟨_, _, _, rfl, by decide, z_g432⟩,
  List.forall_mem_cons.mpr ⟨⟨_, _, _, rfl, by decide, z_g433⟩,
  List.forall_mem_cons.mpr ⟨⟨_, _, _, rfl, by decide, z_g434⟩,
  List.forall_mem_cons.mpr ⟨⟨_, _, _, rfl, by decide, z_g435⟩,
  List.forall_mem_cons.mpr ⟨⟨_, _, _, rfl, by decide, z_g436⟩,
  List.forall_mem_cons.mpr ⟨⟨_, _, _, rfl, by decide, z_g437⟩,
  List.forall_mem_cons.mpr ⟨⟨_, _, _, rfl, by decide, z_g438⟩,
  List.forall_mem_cons.mpr ⟨⟨_, _, _, rfl, by decide, z_g439⟩,
  List.forall_mem_cons.mpr ⟨⟨_, _, _, rfl, by decide, z_g440⟩,
  List.forall_mem_cons.mpr ⟨⟨_, _, _, rfl, by decide, z_g441⟩,
  List.forall_mem_cons.mpr ⟨⟨_, _, _, rfl, by decide, z_g442⟩,
  List.forall_mem_cons.mpr ⟨⟨_, _, _, rfl, by decide, z_g443⟩,
  List.forall_mem_cons.mpr ⟨⟨_, _, _, rfl, by decide, z_g444⟩,
  List.forall_mem_cons.mpr ⟨⟨_, _, _, rfl, by decide, z_g445⟩,
  List.forall_mem_cons.mpr ⟨⟨_, _, _, rfl, by decide, z_g446⟩,
  List.forall_mem_cons.mpr ⟨⟨_, _, _, rfl, by decide, z_g447⟩,
  List.forall_mem_cons.mpr ⟨⟨_, _, _, rfl, by decide, z_g448⟩,
  List.forall_mem_cons.mpr ⟨⟨_, _, _, rfl, by decide, z_g449⟩,
  List.forall_mem_cons.mpr ⟨⟨_, _, _, rfl, by decide, z_g450⟩,
  List.forall_mem_cons.mpr ⟨⟨_, _, _, rfl, by decide, z_g451⟩,
  List.forall_mem_cons.mpr ⟨⟨_, _, _, rfl, by decide, z_g452⟩,
  List.forall_mem_cons.mpr ⟨⟨_, _, _, rfl, by decide, z_g453⟩,
  List.forall_mem_cons.mpr ⟨⟨_, _, _, rfl, by decide, z_g454⟩,
  List.forall_mem_cons.mpr ⟨⟨_, _, _, rfl, by decide, z_g455⟩,
  List.forall_mem_cons.mpr ⟨⟨_, _, _, rfl, by decide, z_g456⟩,
  List.forall_mem_cons.mpr ⟨⟨_, _, _, rfl, by decide, z_g457⟩,
  List.forall_mem_cons.mpr ⟨⟨_, _, _, rfl, by decide, z_g458⟩,
  List.forall_mem_cons.mpr ⟨⟨_, _, _, rfl, by decide, z_g459⟩,
  List.forall_mem_cons.mpr ⟨⟨_, _, _, rfl, by decide, z_g460⟩,
  List.forall_mem_cons.mpr ⟨⟨_, _, _, rfl, by decide, z_g461⟩,
  List.forall_mem_cons.mpr ⟨⟨_, _, _, rfl, by decide, z_g462⟩,
  List.forall_mem_cons.mpr ⟨⟨_, _, _, rfl, by decide, z_g463⟩,
  List.forall_mem_cons.mpr ⟨⟨_, _, _, rfl, by decide, z_g464⟩,
  List.forall_mem_cons.mpr ⟨⟨_, _, _, rfl, by decide, z_g465⟩,
  List.forall_mem_cons.mpr ⟨⟨_, _, _, rfl, by decide, z_g466⟩,
  List.forall_mem_cons.mpr ⟨⟨_, _, _, rfl, by decide, z_g467⟩,
  List.forall_mem_cons.mpr ⟨⟨_, _, _, rfl, by decide, z_g468⟩,
  List.forall_mem_cons.mpr ⟨⟨_, _, _, rfl, by decide, z_g469⟩,
  List.forall_mem_cons.mpr ⟨⟨_, _, _, rfl, by decide, z_g470⟩,
  List.forall_mem_cons.mpr ⟨⟨_, _, _, rfl, by decide, z_g471⟩,
  List.forall_mem_cons.mpr ⟨⟨_, _, _, rfl, by decide, z_g472⟩,
  List.forall_mem_cons.mpr ⟨⟨_, _, _, rfl, by decide, z_g473⟩,
  List.forall_mem_cons.mpr ⟨⟨_, _, _, rfl, by decide, z_g474⟩,
  List.forall_mem_cons.mpr ⟨⟨_, _, _, rfl, by decide, z_g475⟩,
  List.forall_mem_cons.mpr ⟨⟨_, _, _, rfl, by decide, z_g476⟩,
  List.forall_mem_cons.mpr ⟨⟨_, _, _, rfl, by decide, z_g477⟩,
  List.forall_mem_cons.mpr ⟨⟨_, _, _, rfl, by decide, z_g478⟩,
  List.forall_mem_cons.mpr ⟨⟨_, _, _, rfl, by decide, z_g479⟩,
  List.forall_mem_cons.mpr ⟨⟨_, _, _, rfl, by decide, z_g480⟩,
  List.forall_mem_cons.mpr ⟨⟨_, _, _, rfl, by decide, z_g481⟩,
  List.forall_mem_cons.mpr ⟨⟨_, _, _, rfl, by decide, z_g482⟩,
  List.forall_mem_cons.mpr ⟨⟨_, _, _, rfl, by decide, z_g483⟩,
  List.forall_mem_cons.mpr ⟨⟨_, _, _, rfl, by decide, z_g484⟩,
  List.forall_mem_cons.mpr ⟨⟨_, _, _, rfl, by decide, z_g485⟩,
  List.forall_mem_cons.mpr ⟨⟨_, _, _, rfl, by decide, z_g486⟩,
  List.forall_mem_cons.mpr ⟨⟨_, _, _, rfl, by decide, z_g487⟩,
  List.forall_mem_cons.mpr ⟨⟨_, _, _, rfl, by decide, z_g488⟩,
  List.forall_mem_cons.mpr ⟨⟨_, _, _, rfl, by decide, z_g489⟩,
  List.forall_mem_cons.mpr ⟨⟨_, _, _, rfl, by decide, z_g490⟩,
  List.forall_mem_cons.mpr ⟨⟨_, _, _, rfl, by decide, z_g491⟩,
  List.forall_mem_cons.mpr ⟨⟨_, _, _, rfl, by decide, z_g492⟩,
  List.forall_mem_cons.mpr ⟨⟨_, _, _, rfl, by decide, z_g493⟩,
  List.forall_mem_cons.mpr ⟨⟨_, _, _, rfl, by decide, z_g494⟩,
  List.forall_mem_cons.mpr ⟨⟨_, _, _, rfl, by decide, z_g495⟩,
  List.forall_mem_cons.mpr ⟨⟨_, _, _, rfl, by decide, z_g496⟩,
  List.forall_mem_cons.mpr ⟨⟨_, _, _, rfl, by decide, z_g497⟩,
  List.forall_mem_cons.mpr ⟨⟨_, _, _, rfl, by decide, z_g498⟩,
  List.forall_mem_cons.mpr ⟨⟨_, _, _, rfl, by decide, z_g499⟩,
  List.forall_mem_cons.mpr ⟨⟨_, _, _, rfl, by decide, z_g500⟩,
  List.forall_mem_cons.mpr ⟨⟨_, _, _, rfl, by decide, z_g501⟩,
  List.forall_mem_cons.mpr ⟨⟨_, _, _, rfl, by decide, z_g502⟩,
  List.forall_mem_cons.mpr ⟨⟨_, _, _, rfl, by decide, z_g503⟩,
  List.forall_mem_cons.mpr ⟨⟨_, _, _, rfl, by decide, z_g504⟩,
  List.forall_mem_cons.mpr ⟨⟨_, _, _, rfl, by decide, z_g505⟩,
  List.forall_mem_cons.mpr ⟨⟨_, _, _, rfl, by decide, z_g506⟩,
  List.forall_mem_cons.mpr ⟨⟨_, _, _, rfl, by decide, z_g507⟩,
  List.forall_mem_cons.mpr ⟨⟨_, _, _, rfl, by decide, z_g508⟩,
  List.forall_mem_cons.mpr ⟨⟨_, _, _, rfl, by decide, z_g509⟩,
  List.forall_mem_cons.mpr ⟨⟨_, _, _, rfl, by decide, z_g510⟩,
  List.forall_mem_cons.mpr ⟨⟨_, _, _, rfl, by decide, z_g511⟩,
  List.forall_mem_cons.mpr ⟨⟨_, _, _, rfl, by decide, z_g512⟩,
  List.forall_mem_cons.mpr ⟨⟨_, _, _, rfl, by decide, z_g513⟩,
  List.forall_mem_cons.mpr ⟨⟨_, _, _, rfl, by decide, z_g514⟩,
  List.forall_mem_cons.mpr ⟨⟨_, _, _, rfl, by decide, z_g515⟩,
  List.forall_mem_cons.mpr ⟨⟨_, _, _, rfl, by decide, z_g516⟩,
  List.forall_mem_cons.mpr ⟨⟨_, _, _, rfl, by decide, z_g517⟩,
  List.forall_mem_cons.mpr ⟨⟨_, _, _, rfl, by decide, z_g518⟩,
  List.forall_mem_cons.mpr ⟨⟨_, _, _, rfl, by decide, z_g519⟩,
  List.forall_mem_cons.mpr ⟨⟨_, _, _, rfl, by decide, z_g520⟩,
  List.forall_mem_cons.mpr ⟨⟨_, _, _, rfl, by decide, z_g521⟩,
  List.forall_mem_cons.mpr ⟨⟨_, _, _, rfl, by decide, z_g522⟩,
  List.forall_mem_cons.mpr ⟨⟨_, _, _, rfl, by decide, z_g523⟩,
  List.forall_mem_cons.mpr ⟨⟨_, _, _, rfl, by decide, z_g524⟩,
  List.forall_mem_cons.mpr ⟨⟨_, _, _, rfl, by decide, z_g525⟩,
  List.forall_mem_cons.mpr ⟨⟨_, _, _, rfl, by decide, z_g526⟩,
  List.forall_mem_cons.mpr ⟨⟨_, _, _, rfl, by decide, z_g527⟩,
  List.forall_mem_cons.mpr ⟨⟨_, _, _, rfl, by decide, z_g528⟩,
  List.forall_mem_cons.mpr ⟨⟨_, _, _, rfl, by decide, z_g529⟩,
  List.forall_mem_cons.mpr ⟨⟨_, _, _, rfl, by decide, z_g530⟩,
  List.forall_mem_cons.mpr ⟨⟨_, _, _, rfl, by decide, z_g531⟩,
  List.forall_mem_cons.mpr ⟨⟨_, _, _, rfl, by decide, z_g532⟩,
  List.forall_mem_cons.mpr ⟨⟨_, _, _, rfl, by decide, z_g533⟩,
  List.forall_mem_cons.mpr ⟨⟨_, _, _, rfl, by decide, z_g534⟩,
  List.forall_mem_cons.mpr ⟨⟨_, _, _, rfl, by decide, z_g535⟩,
  List.forall_mem_cons.mpr ⟨⟨_, _, _, rfl, by decide, z_g536⟩,
  fun _ h => absurd h List.not_mem_nil⟩⟩⟩⟩⟩⟩⟩⟩⟩⟩⟩⟩⟩⟩⟩⟩⟩⟩⟩⟩⟩⟩⟩⟩⟩⟩⟩⟩⟩⟩⟩⟩⟩⟩⟩⟩⟩⟩⟩⟩⟩⟩⟩⟩⟩⟩⟩⟩⟩⟩⟩⟩⟩⟩⟩⟩⟩⟩⟩⟩⟩⟩⟩⟩⟩⟩⟩⟩⟩⟩⟩⟩⟩⟩⟩⟩⟩⟩⟩⟩⟩⟩⟩⟩⟩⟩⟩⟩⟩⟩⟩⟩⟩⟩⟩⟩⟩⟩⟩⟩⟩⟩⟩⟩⟩⟩⟩⟩⟩⟩
theorem z_g537 : Cond.methodLink RX0 43 yX0_has ∈ z_G := z_m3 (i := 12) rfl rfl
theorem z_g538 : Cond.methodLink RX2 22 yX2_dropOldest ∈ z_G := z_m2 (i := 39) rfl rfl
theorem z_g539 : Cond.methodLink RX2 25 yX2_roomAt ∈ z_G := z_m2 (i := 43) rfl rfl
theorem z_g540 : Cond.methodLink RX2 29 yX4_copyFrom ∈ z_G := z_m2 (i := 47) rfl rfl
theorem z_g541 : Cond.methodLink RX3 34 yX3_has ∈ z_G := z_m2 (i := 142) rfl rfl
theorem z_g542 : Cond.methodLink RX3 38 yX3_waitingAt ∈ z_G := z_m2 (i := 210) rfl rfl
theorem z_g543 : Cond.methodLink RX3 42 yX3_sizesAheadOf ∈ z_G := z_m3 (i := 166) rfl rfl
theorem z_g544 : Cond.methodLink RX4 51 yX1_copyFrom ∈ z_G := z_m2 (i := 51) rfl rfl
theorem z_g545 : Cond.methodLink RX4 55 yX0_copyFrom ∈ z_G := z_m2 (i := 58) rfl rfl
theorem z_g546 : Cond.methodLink RX4 58 yX3_copyFrom ∈ z_G := z_m2 (i := 63) rfl rfl
theorem z_g547 : Cond.methodLink RX4 61 yX0_has ∈ z_G := z_m2 (i := 108) rfl rfl
theorem z_g548 : Cond.methodLink RX4 73 yX3_isFull ∈ z_G := z_m2 (i := 110) rfl rfl
theorem z_g549 : Cond.methodLink RX4 77 yX3_append ∈ z_G := z_m2 (i := 118) rfl rfl
theorem z_g550 : Cond.methodLink RX4 81 yX3_isWaiting ∈ z_G := z_m2 (i := 155) rfl rfl
theorem z_g551 : Cond.methodLink RX4 84 yX4_isOld ∈ z_G := z_m2 (i := 146) rfl rfl
theorem z_g552 : Cond.methodLink RX4 87 yX3_leaveLine ∈ z_G := z_m2 (i := 215) rfl rfl
theorem z_g553 : Cond.methodLink RX4 103 yX4_noteWait ∈ z_G := z_m2 (i := 219) rfl rfl
theorem z_g554 : Cond.methodLink RX4 107 yX4_payFromClass ∈ z_G := z_m2 (i := 226) rfl rfl
theorem z_g555 : Cond.methodLink RX4 110 yX4_groupFor ∈ z_G := z_m2 (i := 234) rfl rfl
theorem z_g556 : Cond.methodLink RX4 114 yX4_payFromGroup ∈ z_G := z_m2 (i := 235) rfl rfl
theorem z_g557 : Cond.methodLink RX4 126 yX3_waitsOf ∈ z_G := z_m2 (i := 230) rfl rfl
theorem z_g558 : Cond.methodLink RX4 132 yX1_has ∈ z_G := z_m2 (i := 239) rfl rfl
theorem z_g559 : Cond.methodLink RX4 133 yX4_waitsOfGroup ∈ z_G := z_m3 (i := 0) rfl rfl
theorem z_g560 : Cond.methodLink RX4 137 yX3_has ∈ z_G := z_m2 (i := 154) rfl rfl
theorem z_g561 : Cond.methodLink RX4 144 yX4_ageFor ∈ z_G := z_m2 (i := 150) rfl rfl
theorem z_g562 : Cond.methodLink RX4 150 yX3_waitingAt ∈ z_G := z_m2 (i := 138) rfl rfl
theorem z_g563 : Cond.methodLink RX4 156 yX4_stageOf ∈ z_G := z_m3 (i := 103) rfl rfl
theorem z_g564 : Cond.methodLink RX5 19 yX5_partAfter ∈ z_G := z_m3 (i := 42) rfl rfl
theorem z_g565 : Cond.methodLink RX5 23 yX5_digitAt ∈ z_G := z_m3 (i := 54) rfl rfl
theorem z_g566 : Cond.methodLink RX6 34 yX4_firstOld ∈ z_G := z_m2 (i := 134) rfl rfl
theorem z_g567 : Cond.methodLink RX6 38 yX6_noteFirstJobs ∈ z_G := z_m2 (i := 159) rfl rfl
theorem z_g568 : Cond.methodLink RX6 42 yX6_presentGroupIsNext ∈ z_G := z_m2 (i := 175) rfl rfl
theorem z_g569 : Cond.methodLink RX6 46 yX6_walkGroups ∈ z_G := z_m2 (i := 198) rfl rfl
theorem z_g570 : Cond.methodLink RX6 49 yX6_skipGroupRounds ∈ z_G := z_m2 (i := 202) rfl rfl
theorem z_g571 : Cond.methodLink RX6 59 yX1_has ∈ z_G := z_m2 (i := 174) rfl rfl
theorem z_g572 : Cond.methodLink RX6 68 yX3_firstOf ∈ z_G := z_m2 (i := 206) rfl rfl
theorem z_g573 : Cond.methodLink RX6 72 yX3_waitingAt ∈ z_G := z_m2 (i := 163) rfl rfl
theorem z_g574 : Cond.methodLink RX6 75 yX6_noteJob ∈ z_G := z_m2 (i := 164) rfl rfl
theorem z_g575 : Cond.methodLink RX6 79 yX3_has ∈ z_G := z_m2 (i := 168) rfl rfl
theorem z_g576 : Cond.methodLink RX6 83 yX4_groupFor ∈ z_G := z_m2 (i := 169) rfl rfl
theorem z_g577 : Cond.methodLink RX6 90 yX0_has ∈ z_G := z_m2 (i := 173) rfl rfl
theorem z_g578 : Cond.methodLink RX6 96 yX6_lookAt ∈ z_G := z_m2 (i := 179) rfl rfl
theorem z_g579 : Cond.methodLink RX6 110 yX6_roundsBelow ∈ z_G := z_m2 (i := 192) rfl rfl
theorem z_g580 : Cond.methodLink RX6 121 yX6_walkClasses ∈ z_G := z_m2 (i := 183) rfl rfl
theorem z_g581 : Cond.methodLink RX6 125 yX6_skipClassRounds ∈ z_G := z_m2 (i := 187) rfl rfl
theorem z_g582 : Cond.methodLink RX7 47 yX7_isQuantum ∈ z_G := z_m2 (i := 29) rfl rfl
theorem z_g583 : Cond.methodLink RX7 61 yX2_push ∈ z_G := z_m2 (i := 35) rfl rfl
theorem z_g584 : Cond.methodLink RX7 65 yX1_append ∈ z_G := z_m2 (i := 68) rfl rfl
theorem z_g585 : Cond.methodLink RX7 69 yX1_has ∈ z_G := z_m2 (i := 76) rfl rfl
theorem z_g586 : Cond.methodLink RX7 72 yX7_isWithin ∈ z_G := z_m2 (i := 32) rfl rfl
theorem z_g587 : Cond.methodLink RX7 83 yX0_append ∈ z_G := z_m2 (i := 80) rfl rfl
theorem z_g588 : Cond.methodLink RX7 90 yX0_has ∈ z_G := z_m2 (i := 92) rfl rfl
theorem z_g589 : Cond.methodLink RX7 95 yX4_whyNotAdmit ∈ z_G := z_m2 (i := 104) rfl rfl
theorem z_g590 : Cond.methodLink RX7 99 yX4_admit ∈ z_G := z_m2 (i := 114) rfl rfl
theorem z_g591 : Cond.methodLink RX7 105 yX7_passTick ∈ z_G := z_m2 (i := 126) rfl rfl
theorem z_g592 : Cond.methodLink RX7 109 yX0_fillBuckets ∈ z_G := z_m3 (i := 8) rfl rfl
theorem z_g593 : Cond.methodLink RX7 113 yX0_takeUnits ∈ z_G := z_m3 (i := 18) rfl rfl
theorem z_g594 : Cond.methodLink RX7 119 yX5_append ∈ z_G := z_m3 (i := 26) rfl rfl
theorem z_g595 : Cond.methodLink RX7 122 yX5_fault ∈ z_G := z_m3 (i := 38) rfl rfl
theorem z_g596 : Cond.methodLink RX7 125 yX4_copyFrom ∈ z_G := z_m3 (i := 45) rfl rfl
theorem z_g597 : Cond.methodLink RX7 128 yX5_digitAt ∈ z_G := z_m3 (i := 46) rfl rfl
theorem z_g598 : Cond.methodLink RX7 131 yX5_sizeAt ∈ z_G := z_m3 (i := 50) rfl rfl
theorem z_g599 : Cond.methodLink RX7 135 yX2_takeLatest ∈ z_G := z_m3 (i := 59) rfl rfl
theorem z_g600 : Cond.methodLink RX7 142 yX0_heldOf ∈ z_G := z_m3 (i := 76) rfl rfl
theorem z_g601 : Cond.methodLink RX7 145 yX4_waitsOfGroup ∈ z_G := z_m3 (i := 80) rfl rfl
theorem z_g602 : Cond.methodLink RX7 148 yX4_sizesOfGroup ∈ z_G := z_m3 (i := 81) rfl rfl
theorem z_g603 : Cond.methodLink RX7 154 yX0_unitsOf ∈ z_G := z_m3 (i := 85) rfl rfl
theorem z_g604 : Cond.methodLink RX7 165 yX3_waitsOf ∈ z_G := z_m3 (i := 93) rfl rfl
theorem z_g605 : Cond.methodLink RX7 170 yX3_sizesOf ∈ z_G := z_m3 (i := 94) rfl rfl
theorem z_g606 : Cond.methodLink RX7 176 yX3_firstOf ∈ z_G := z_m3 (i := 98) rfl rfl
theorem z_g607 : Cond.methodLink RX7 179 yX4_doneOf ∈ z_G := z_m3 (i := 99) rfl rfl
theorem z_g608 : Cond.methodLink RX7 188 yX3_has ∈ z_G := z_m3 (i := 111) rfl rfl
theorem z_g609 : Cond.methodLink RX7 198 yX4_stageOf ∈ z_G := z_m3 (i := 112) rfl rfl
theorem z_g610 : Cond.methodLink RX7 204 yX4_endOf ∈ z_G := z_m3 (i := 113) rfl rfl
theorem z_g611 : Cond.methodLink RX7 207 yX4_leftOf ∈ z_G := z_m3 (i := 117) rfl rfl
theorem z_g612 : Cond.methodLink RX7 210 yX4_isOld ∈ z_G := z_m3 (i := 121) rfl rfl
theorem z_g613 : Cond.methodLink RX7 216 yX7_beginAhead ∈ z_G := z_m3 (i := 126) rfl rfl
theorem z_g614 : Cond.methodLink RX7 219 yX3_isWaiting ∈ z_G := z_m3 (i := 134) rfl rfl
theorem z_g615 : Cond.methodLink RX7 222 yX4_ageFor ∈ z_G := z_m3 (i := 139) rfl rfl
theorem z_g616 : Cond.methodLink RX7 230 yX3_sizesAheadOf ∈ z_G := z_m3 (i := 141) rfl rfl
theorem z_g617 : Cond.methodLink RX7 241 yX4_doneJobs ∈ z_G := z_m3 (i := 154) rfl rfl
theorem z_g618 : Cond.methodLink RX7 244 yX4_oldJobs ∈ z_G := z_m3 (i := 158) rfl rfl
theorem z_g619 : Cond.methodLink RX7 253 yX3_allSizes ∈ z_G := z_m3 (i := 162) rfl rfl
theorem z_g620 : Cond.methodLink RX7 256 yX6_nextJob ∈ z_G := z_m2 (i := 130) rfl rfl
theorem z_g621 : Cond.methodLink RX7 260 yX4_begin ∈ z_G := z_m2 (i := 211) rfl rfl
theorem z_g622 : Cond.methodLink RX7 263 yX4_serveUnit ∈ z_G := z_m3 (i := 4) rfl rfl
theorem z_g623 : Cond.methodLink RX8 30 yX8_remember ∈ z_G := z_m3 (i := 217) rfl rfl
theorem z_g624 : Cond.methodLink RX8 33 yX8_record ∈ z_G := z_m3 (i := 221) rfl rfl
theorem z_g625 : Cond.methodLink RX8 40 yX8_begin ∈ z_G := z_m3 (i := 213) rfl rfl
theorem z_g626 : Cond.methodLink RX8 43 yX8_in ∈ z_G := z_m3 (i := 229) rfl rfl
theorem z_g627 : Cond.methodLink RX8 47 yX8_its ∈ z_G := z_m4 (i := 38) rfl rfl
theorem z_g628 : Cond.methodLink RX8 51 yX8_waits ∈ z_G := z_m4 (i := 41) rfl rfl
theorem z_g629 : Cond.methodLink RX8 55 yX8_firstOf ∈ z_G := z_m4 (i := 85) rfl rfl
theorem z_g630 : Cond.methodLink RX8 58 yX8_kind ∈ z_G := z_m4 (i := 3) rfl rfl
theorem z_g631 : Cond.methodLink RX8 61 yX8_isBusy ∈ z_G := z_m4 (i := 81) rfl rfl
theorem z_g632 : Cond.methodLink RX8 64 yX8_party ∈ z_G := z_m3 (i := 232) rfl rfl
theorem z_g633 : Cond.methodLink RX8 67 yX8_noGroup ∈ z_G := z_m3 (i := 239) rfl rfl
theorem z_g634 : Cond.methodLink RX8 70 yX8_set ∈ z_G := z_m4 (i := 10) rfl rfl
theorem z_g635 : Cond.methodLink RX8 74 yX8_noClass ∈ z_G := z_m4 (i := 18) rfl rfl
theorem z_g636 : Cond.methodLink RX8 77 yX8_waiting ∈ z_G := z_m4 (i := 34) rfl rfl
theorem z_g637 : Cond.methodLink RX8 81 yX8_against ∈ z_G := z_m4 (i := 30) rfl rfl
theorem z_g638 : Cond.methodLink RX8 84 yX8_come ∈ z_G := z_m4 (i := 45) rfl rfl
theorem z_g639 : Cond.methodLink RX8 87 yX8_canServe ∈ z_G := z_m4 (i := 93) rfl rfl
theorem z_g640 : Cond.methodLink RX8 90 yX8_classBehind ∈ z_G := z_m4 (i := 97) rfl rfl
theorem z_g641 : Cond.methodLink RX8 93 yX8_isGroupBusy ∈ z_G := z_m4 (i := 77) rfl rfl
theorem z_g642 : Cond.methodLink RX8 96 yX8_nextClass ∈ z_G := z_m4 (i := 89) rfl rfl
theorem z_g643 : Cond.methodLink RX8 99 yX8_canServeGroup ∈ z_G := z_m4 (i := 73) rfl rfl
theorem z_g644 : Cond.methodLink RX8 102 yX8_isOld ∈ z_G := z_m4 (i := 65) rfl rfl
theorem z_g645 : Cond.methodLink RX8 105 yX8_firstOld ∈ z_G := z_m4 (i := 61) rfl rfl
theorem z_g646 : Cond.methodLink RX8 109 yX8_nextGroup ∈ z_G := z_m4 (i := 69) rfl rfl
theorem z_g647 : Cond.methodLink RX8 112 yX8_choose ∈ z_G := z_m4 (i := 57) rfl rfl
theorem z_g648 : Cond.methodLink RX8 115 yX8_tick ∈ z_G := z_m4 (i := 53) rfl rfl
theorem z_g649 : Cond.methodLink RX8 124 yX8_sees ∈ z_G := z_m4 (i := 125) rfl rfl
theorem z_g650 : Cond.methodLink RX8 128 yX8_readJob ∈ z_G := z_m4 (i := 121) rfl rfl
theorem z_g651 : Cond.methodLink RX8 132 yX8_jobs ∈ z_G := z_m4 (i := 117) rfl rfl
theorem z_g652 : Cond.methodLink RX8 135 yX8_goBack ∈ z_G := z_m4 (i := 129) rfl rfl
theorem z_g653 : Cond.methodLink RX8 139 yX8_noJob ∈ z_G := z_m4 (i := 146) rfl rfl
theorem z_g654 : Cond.methodLink RX8 142 yX8_serveOut ∈ z_G := z_m4 (i := 154) rfl rfl
theorem z_g655 : Cond.methodLink RX8 146 yX8_jobsThat ∈ z_G := z_m4 (i := 175) rfl rfl
def z_okl (e : (Nat × Nat) × Nat) : Prop := ∃ mj, z_mts[e.2]? = some mj ∧ Cond.methodLink (z_cn e.1.1) e.1.2 (z_y mj) ∈ z_G
set_option maxRecDepth 100000 in
theorem z_ml_ok : ∀ e ∈ z_ml, z_okl e := List.forall_mem_cons.mpr ⟨⟨_, rfl, z_g537⟩,
  List.forall_mem_cons.mpr ⟨⟨_, rfl, z_g538⟩,
  List.forall_mem_cons.mpr ⟨⟨_, rfl, z_g539⟩,
  List.forall_mem_cons.mpr ⟨⟨_, rfl, z_g540⟩,
  List.forall_mem_cons.mpr ⟨⟨_, rfl, z_g541⟩,
  List.forall_mem_cons.mpr ⟨⟨_, rfl, z_g542⟩,
  List.forall_mem_cons.mpr ⟨⟨_, rfl, z_g543⟩,
  List.forall_mem_cons.mpr ⟨⟨_, rfl, z_g544⟩,
  List.forall_mem_cons.mpr ⟨⟨_, rfl, z_g545⟩,
  List.forall_mem_cons.mpr ⟨⟨_, rfl, z_g546⟩,
  List.forall_mem_cons.mpr ⟨⟨_, rfl, z_g547⟩,
  List.forall_mem_cons.mpr ⟨⟨_, rfl, z_g548⟩,
  List.forall_mem_cons.mpr ⟨⟨_, rfl, z_g549⟩,
  List.forall_mem_cons.mpr ⟨⟨_, rfl, z_g550⟩,
  List.forall_mem_cons.mpr ⟨⟨_, rfl, z_g551⟩,
  List.forall_mem_cons.mpr ⟨⟨_, rfl, z_g552⟩,
  List.forall_mem_cons.mpr ⟨⟨_, rfl, z_g553⟩,
  List.forall_mem_cons.mpr ⟨⟨_, rfl, z_g554⟩,
  List.forall_mem_cons.mpr ⟨⟨_, rfl, z_g555⟩,
  List.forall_mem_cons.mpr ⟨⟨_, rfl, z_g556⟩,
  List.forall_mem_cons.mpr ⟨⟨_, rfl, z_g557⟩,
  List.forall_mem_cons.mpr ⟨⟨_, rfl, z_g558⟩,
  List.forall_mem_cons.mpr ⟨⟨_, rfl, z_g559⟩,
  List.forall_mem_cons.mpr ⟨⟨_, rfl, z_g560⟩,
  List.forall_mem_cons.mpr ⟨⟨_, rfl, z_g561⟩,
  List.forall_mem_cons.mpr ⟨⟨_, rfl, z_g562⟩,
  List.forall_mem_cons.mpr ⟨⟨_, rfl, z_g563⟩,
  List.forall_mem_cons.mpr ⟨⟨_, rfl, z_g564⟩,
  List.forall_mem_cons.mpr ⟨⟨_, rfl, z_g565⟩,
  List.forall_mem_cons.mpr ⟨⟨_, rfl, z_g566⟩,
  List.forall_mem_cons.mpr ⟨⟨_, rfl, z_g567⟩,
  List.forall_mem_cons.mpr ⟨⟨_, rfl, z_g568⟩,
  List.forall_mem_cons.mpr ⟨⟨_, rfl, z_g569⟩,
  List.forall_mem_cons.mpr ⟨⟨_, rfl, z_g570⟩,
  List.forall_mem_cons.mpr ⟨⟨_, rfl, z_g571⟩,
  List.forall_mem_cons.mpr ⟨⟨_, rfl, z_g572⟩,
  List.forall_mem_cons.mpr ⟨⟨_, rfl, z_g573⟩,
  List.forall_mem_cons.mpr ⟨⟨_, rfl, z_g574⟩,
  List.forall_mem_cons.mpr ⟨⟨_, rfl, z_g575⟩,
  List.forall_mem_cons.mpr ⟨⟨_, rfl, z_g576⟩,
  List.forall_mem_cons.mpr ⟨⟨_, rfl, z_g577⟩,
  List.forall_mem_cons.mpr ⟨⟨_, rfl, z_g578⟩,
  List.forall_mem_cons.mpr ⟨⟨_, rfl, z_g579⟩,
  List.forall_mem_cons.mpr ⟨⟨_, rfl, z_g580⟩,
  List.forall_mem_cons.mpr ⟨⟨_, rfl, z_g581⟩,
  List.forall_mem_cons.mpr ⟨⟨_, rfl, z_g582⟩,
  List.forall_mem_cons.mpr ⟨⟨_, rfl, z_g583⟩,
  List.forall_mem_cons.mpr ⟨⟨_, rfl, z_g584⟩,
  List.forall_mem_cons.mpr ⟨⟨_, rfl, z_g585⟩,
  List.forall_mem_cons.mpr ⟨⟨_, rfl, z_g586⟩,
  List.forall_mem_cons.mpr ⟨⟨_, rfl, z_g587⟩,
  List.forall_mem_cons.mpr ⟨⟨_, rfl, z_g588⟩,
  List.forall_mem_cons.mpr ⟨⟨_, rfl, z_g589⟩,
  List.forall_mem_cons.mpr ⟨⟨_, rfl, z_g590⟩,
  List.forall_mem_cons.mpr ⟨⟨_, rfl, z_g591⟩,
  List.forall_mem_cons.mpr ⟨⟨_, rfl, z_g592⟩,
  List.forall_mem_cons.mpr ⟨⟨_, rfl, z_g593⟩,
  List.forall_mem_cons.mpr ⟨⟨_, rfl, z_g594⟩,
  List.forall_mem_cons.mpr ⟨⟨_, rfl, z_g595⟩,
  List.forall_mem_cons.mpr ⟨⟨_, rfl, z_g596⟩,
  List.forall_mem_cons.mpr ⟨⟨_, rfl, z_g597⟩,
  List.forall_mem_cons.mpr ⟨⟨_, rfl, z_g598⟩,
  List.forall_mem_cons.mpr ⟨⟨_, rfl, z_g599⟩,
  List.forall_mem_cons.mpr ⟨⟨_, rfl, z_g600⟩,
  List.forall_mem_cons.mpr ⟨⟨_, rfl, z_g601⟩,
  List.forall_mem_cons.mpr ⟨⟨_, rfl, z_g602⟩,
  List.forall_mem_cons.mpr ⟨⟨_, rfl, z_g603⟩,
  List.forall_mem_cons.mpr ⟨⟨_, rfl, z_g604⟩,
  List.forall_mem_cons.mpr ⟨⟨_, rfl, z_g605⟩,
  List.forall_mem_cons.mpr ⟨⟨_, rfl, z_g606⟩,
  List.forall_mem_cons.mpr ⟨⟨_, rfl, z_g607⟩,
  List.forall_mem_cons.mpr ⟨⟨_, rfl, z_g608⟩,
  List.forall_mem_cons.mpr ⟨⟨_, rfl, z_g609⟩,
  List.forall_mem_cons.mpr ⟨⟨_, rfl, z_g610⟩,
  List.forall_mem_cons.mpr ⟨⟨_, rfl, z_g611⟩,
  List.forall_mem_cons.mpr ⟨⟨_, rfl, z_g612⟩,
  List.forall_mem_cons.mpr ⟨⟨_, rfl, z_g613⟩,
  List.forall_mem_cons.mpr ⟨⟨_, rfl, z_g614⟩,
  List.forall_mem_cons.mpr ⟨⟨_, rfl, z_g615⟩,
  List.forall_mem_cons.mpr ⟨⟨_, rfl, z_g616⟩,
  List.forall_mem_cons.mpr ⟨⟨_, rfl, z_g617⟩,
  List.forall_mem_cons.mpr ⟨⟨_, rfl, z_g618⟩,
  List.forall_mem_cons.mpr ⟨⟨_, rfl, z_g619⟩,
  List.forall_mem_cons.mpr ⟨⟨_, rfl, z_g620⟩,
  List.forall_mem_cons.mpr ⟨⟨_, rfl, z_g621⟩,
  List.forall_mem_cons.mpr ⟨⟨_, rfl, z_g622⟩,
  List.forall_mem_cons.mpr ⟨⟨_, rfl, z_g623⟩,
  List.forall_mem_cons.mpr ⟨⟨_, rfl, z_g624⟩,
  List.forall_mem_cons.mpr ⟨⟨_, rfl, z_g625⟩,
  List.forall_mem_cons.mpr ⟨⟨_, rfl, z_g626⟩,
  List.forall_mem_cons.mpr ⟨⟨_, rfl, z_g627⟩,
  List.forall_mem_cons.mpr ⟨⟨_, rfl, z_g628⟩,
  List.forall_mem_cons.mpr ⟨⟨_, rfl, z_g629⟩,
  List.forall_mem_cons.mpr ⟨⟨_, rfl, z_g630⟩,
  List.forall_mem_cons.mpr ⟨⟨_, rfl, z_g631⟩,
  List.forall_mem_cons.mpr ⟨⟨_, rfl, z_g632⟩,
  List.forall_mem_cons.mpr ⟨⟨_, rfl, z_g633⟩,
  List.forall_mem_cons.mpr ⟨⟨_, rfl, z_g634⟩,
  List.forall_mem_cons.mpr ⟨⟨_, rfl, z_g635⟩,
  List.forall_mem_cons.mpr ⟨⟨_, rfl, z_g636⟩,
  List.forall_mem_cons.mpr ⟨⟨_, rfl, z_g637⟩,
  List.forall_mem_cons.mpr ⟨⟨_, rfl, z_g638⟩,
  List.forall_mem_cons.mpr ⟨⟨_, rfl, z_g639⟩,
  List.forall_mem_cons.mpr ⟨⟨_, rfl, z_g640⟩,
  List.forall_mem_cons.mpr ⟨⟨_, rfl, z_g641⟩,
  List.forall_mem_cons.mpr ⟨⟨_, rfl, z_g642⟩,
  List.forall_mem_cons.mpr ⟨⟨_, rfl, z_g643⟩,
  List.forall_mem_cons.mpr ⟨⟨_, rfl, z_g644⟩,
  List.forall_mem_cons.mpr ⟨⟨_, rfl, z_g645⟩,
  List.forall_mem_cons.mpr ⟨⟨_, rfl, z_g646⟩,
  List.forall_mem_cons.mpr ⟨⟨_, rfl, z_g647⟩,
  List.forall_mem_cons.mpr ⟨⟨_, rfl, z_g648⟩,
  List.forall_mem_cons.mpr ⟨⟨_, rfl, z_g649⟩,
  List.forall_mem_cons.mpr ⟨⟨_, rfl, z_g650⟩,
  List.forall_mem_cons.mpr ⟨⟨_, rfl, z_g651⟩,
  List.forall_mem_cons.mpr ⟨⟨_, rfl, z_g652⟩,
  List.forall_mem_cons.mpr ⟨⟨_, rfl, z_g653⟩,
  List.forall_mem_cons.mpr ⟨⟨_, rfl, z_g654⟩,
  List.forall_mem_cons.mpr ⟨⟨_, rfl, z_g655⟩,
  fun _ h => absurd h List.not_mem_nil⟩⟩⟩⟩⟩⟩⟩⟩⟩⟩⟩⟩⟩⟩⟩⟩⟩⟩⟩⟩⟩⟩⟩⟩⟩⟩⟩⟩⟩⟩⟩⟩⟩⟩⟩⟩⟩⟩⟩⟩⟩⟩⟩⟩⟩⟩⟩⟩⟩⟩⟩⟩⟩⟩⟩⟩⟩⟩⟩⟩⟩⟩⟩⟩⟩⟩⟩⟩⟩⟩⟩⟩⟩⟩⟩⟩⟩⟩⟩⟩⟩⟩⟩⟩⟩⟩⟩⟩⟩⟩⟩⟩⟩⟩⟩⟩⟩⟩⟩⟩⟩⟩⟩⟩⟩⟩⟩⟩⟩⟩⟩⟩⟩⟩⟩⟩⟩⟩⟩
def z_okj (e : (Nat × Nat) × Nat) : Prop := (e.2 = 0 → Cond.methodLink (z_cn e.1.1) e.1.2 Lib.Math.max.name ∈ z_G) ∧ (e.2 = 1 → Cond.methodLink (z_cn e.1.1) e.1.2 Lib.Math.min.name ∈ z_G) ∧ (e.2 = 2 → Cond.methodLink (z_cn e.1.1) e.1.2 arraycopyName ∈ z_G)
theorem z_g656 : Cond.methodLink RX0 47 Lib.Math.min.name ∈ z_G := z_m3 (i := 13) rfl rfl
theorem z_g657 : Cond.methodLink RX0 53 arraycopyName ∈ z_G := z_m2 (i := 62) rfl rfl
theorem z_g658 : Cond.methodLink RX1 25 arraycopyName ∈ z_G := z_m2 (i := 55) rfl rfl
theorem z_g659 : Cond.methodLink RX3 45 arraycopyName ∈ z_G := z_m2 (i := 67) rfl rfl
theorem z_g660 : Cond.methodLink RX4 120 Lib.Math.max.name ∈ z_G := z_m2 (i := 223) rfl rfl
theorem z_g661 : Cond.methodLink RX6 114 Lib.Math.min.name ∈ z_G := z_m2 (i := 195) rfl rfl
theorem z_g662 : Cond.methodLink RX7 225 Lib.Math.max.name ∈ z_G := z_m3 (i := 140) rfl rfl
set_option maxRecDepth 100000 in
theorem z_mm_ok : ∀ e ∈ z_mm, z_okj e := List.forall_mem_cons.mpr ⟨⟨fun h => absurd h (by decide), fun _ => z_g656, fun h => absurd h (by decide)⟩,
  List.forall_mem_cons.mpr ⟨⟨fun h => absurd h (by decide), fun h => absurd h (by decide), fun _ => z_g657⟩,
  List.forall_mem_cons.mpr ⟨⟨fun h => absurd h (by decide), fun h => absurd h (by decide), fun _ => z_g658⟩,
  List.forall_mem_cons.mpr ⟨⟨fun h => absurd h (by decide), fun h => absurd h (by decide), fun _ => z_g659⟩,
  List.forall_mem_cons.mpr ⟨⟨fun _ => z_g660, fun h => absurd h (by decide), fun h => absurd h (by decide)⟩,
  List.forall_mem_cons.mpr ⟨⟨fun h => absurd h (by decide), fun _ => z_g661, fun h => absurd h (by decide)⟩,
  List.forall_mem_cons.mpr ⟨⟨fun _ => z_g662, fun h => absurd h (by decide), fun h => absurd h (by decide)⟩,
  fun _ h => absurd h List.not_mem_nil⟩⟩⟩⟩⟩⟩⟩
theorem z_g663 : Cond.static Lib.Math.max.name ∈ z_G := z_m2 (i := 224) rfl rfl
theorem z_g664 : Cond.initialized "java/lang/Math" ∈ z_G := z_m1 (i := 11) rfl rfl
theorem z_g665 : Cond.code Lib.Math.max.name Lib.Math.max.code 2 (some .int) ∈ z_G := z_m2 (i := 225) rfl rfl
theorem z_max_ok : Cond.static Lib.Math.max.name ∈ z_G ∧ Cond.initialized "java/lang/Math" ∈ z_G ∧ Cond.code Lib.Math.max.name Lib.Math.max.code 2 (some .int) ∈ z_G := ⟨z_g663, z_g664, z_g665⟩
theorem z_g666 : Cond.static Lib.Math.min.name ∈ z_G := z_m2 (i := 196) rfl rfl
theorem z_g667 : Cond.code Lib.Math.min.name Lib.Math.min.code 2 (some .int) ∈ z_G := z_m2 (i := 197) rfl rfl
theorem z_min_ok : Cond.static Lib.Math.min.name ∈ z_G ∧ Cond.initialized "java/lang/Math" ∈ z_G ∧ Cond.code Lib.Math.min.name Lib.Math.min.code 2 (some .int) ∈ z_G := ⟨z_g666, z_g664, z_g667⟩
theorem z_g668 : Cond.native arraycopyName ∈ z_G := z_m2 (i := 57) rfl rfl
theorem z_g669 : Cond.static arraycopyName ∈ z_G := z_m2 (i := 56) rfl rfl
theorem z_g670 : Cond.initialized "java/lang/System" ∈ z_G := z_m1 (i := 10) rfl rfl
theorem z_cpy_ok : Cond.native arraycopyName ∈ z_G ∧ Cond.static arraycopyName ∈ z_G ∧ Cond.initialized "java/lang/System" ∈ z_G := ⟨z_g668, z_g669, z_g670⟩
theorem z_g671 : Cond.constant RX6 109 (Int32.ofInt 1000000) ∈ z_G := z_m2 (i := 191) rfl rfl
theorem z_g672 : Cond.constant RX7 141 (Int32.ofInt 100000) ∈ z_G := z_m3 (i := 75) rfl rfl
theorem z_g673 : Cond.constant RX7 233 (Int32.ofInt 10000000) ∈ z_G := z_m3 (i := 149) rfl rfl
theorem z_g674 : Cond.constant RX8 138 (Int32.ofInt 100000) ∈ z_G := z_m4 (i := 137) rfl rfl
theorem z_g675 : Cond.constant RX8 145 (Int32.ofInt 10000000) ∈ z_G := z_m4 (i := 170) rfl rfl
def z_okc (e : (Nat × Nat) × Int) : Prop := Cond.constant (z_cn e.1.1) e.1.2 (Int32.ofInt e.2) ∈ z_G
set_option maxRecDepth 100000 in
theorem z_cs_ok : ∀ e ∈ z_cs, z_okc e := List.forall_mem_cons.mpr ⟨z_g671,
  List.forall_mem_cons.mpr ⟨z_g672,
  List.forall_mem_cons.mpr ⟨z_g673,
  List.forall_mem_cons.mpr ⟨z_g674,
  List.forall_mem_cons.mpr ⟨z_g675,
  fun _ h => absurd h List.not_mem_nil⟩⟩⟩⟩⟩
theorem z_g676 : Cond.lays RX0 "DeficitCircles$Classes" "held" "I" ∈ z_G := z_m1 (i := 89) rfl rfl
theorem z_g677 : Cond.laysFinal RX0 "DeficitCircles$Classes" "group" "[I" ∈ z_G := z_m1 (i := 91) rfl rfl
theorem z_g678 : Cond.laysFinal RX0 "DeficitCircles$Classes" "quantum" "[I" ∈ z_G := z_m1 (i := 93) rfl rfl
theorem z_g679 : Cond.laysFinal RX0 "DeficitCircles$Classes" "deficit" "[I" ∈ z_G := z_m1 (i := 95) rfl rfl
theorem z_g680 : Cond.laysFinal RX0 "DeficitCircles$Classes" "bucket" "[I" ∈ z_G := z_m1 (i := 97) rfl rfl
theorem z_g681 : Cond.laysFinal RX0 "DeficitCircles$Classes" "fill" "[I" ∈ z_G := z_m1 (i := 99) rfl rfl
theorem z_g682 : Cond.laysFinal RX0 "DeficitCircles$Classes" "tokens" "[I" ∈ z_G := z_m1 (i := 101) rfl rfl
theorem z_g683 : Cond.laysFinal RX0 "DeficitCircles$Classes" "age" "[I" ∈ z_G := z_m1 (i := 103) rfl rfl
theorem z_g684 : Cond.laysFinal RX0 "DeficitCircles$Classes" "longestWait" "[I" ∈ z_G := z_m1 (i := 105) rfl rfl
theorem z_g685 : Cond.laysFinal RX0 "DeficitCircles$Classes" "units" "[I" ∈ z_G := z_m1 (i := 107) rfl rfl
theorem z_lays_0 : ∀ w ∈ u_ws RX0 TX0 10, w ∈ z_G := List.forall_mem_cons.mpr ⟨z_g676,
  List.forall_mem_cons.mpr ⟨z_g677,
  List.forall_mem_cons.mpr ⟨z_g678,
  List.forall_mem_cons.mpr ⟨z_g679,
  List.forall_mem_cons.mpr ⟨z_g680,
  List.forall_mem_cons.mpr ⟨z_g681,
  List.forall_mem_cons.mpr ⟨z_g682,
  List.forall_mem_cons.mpr ⟨z_g683,
  List.forall_mem_cons.mpr ⟨z_g684,
  List.forall_mem_cons.mpr ⟨z_g685,
  fun _ h => absurd h List.not_mem_nil⟩⟩⟩⟩⟩⟩⟩⟩⟩⟩
theorem z_g686 : Cond.lays RX1 "DeficitCircles$Groups" "held" "I" ∈ z_G := z_m1 (i := 45) rfl rfl
theorem z_g687 : Cond.laysFinal RX1 "DeficitCircles$Groups" "quantum" "[I" ∈ z_G := z_m1 (i := 47) rfl rfl
theorem z_g688 : Cond.laysFinal RX1 "DeficitCircles$Groups" "deficit" "[I" ∈ z_G := z_m1 (i := 49) rfl rfl
theorem z_g689 : Cond.laysFinal RX1 "DeficitCircles$Groups" "present" "[I" ∈ z_G := z_m1 (i := 51) rfl rfl
theorem z_lays_1 : ∀ w ∈ u_ws RX1 TX1 4, w ∈ z_G := List.forall_mem_cons.mpr ⟨z_g686,
  List.forall_mem_cons.mpr ⟨z_g687,
  List.forall_mem_cons.mpr ⟨z_g688,
  List.forall_mem_cons.mpr ⟨z_g689,
  fun _ h => absurd h List.not_mem_nil⟩⟩⟩⟩
theorem z_g690 : Cond.lays RX2 "DeficitCircles$History" "length" "I" ∈ z_G := z_m1 (i := 206) rfl rfl
theorem z_g691 : Cond.laysFinal RX2 "DeficitCircles$History" "states" "[LDeficitCircles$State;" ∈ z_G := z_m1 (i := 208) rfl rfl
theorem z_lays_2 : ∀ w ∈ u_ws RX2 TX2 2, w ∈ z_G := List.forall_mem_cons.mpr ⟨z_g690,
  List.forall_mem_cons.mpr ⟨z_g691,
  fun _ h => absurd h List.not_mem_nil⟩⟩
theorem z_g692 : Cond.lays RX3 "DeficitCircles$Jobs" "held" "I" ∈ z_G := z_m1 (i := 138) rfl rfl
theorem z_g693 : Cond.laysFinal RX3 "DeficitCircles$Jobs" "ofClass" "[I" ∈ z_G := z_m1 (i := 140) rfl rfl
theorem z_g694 : Cond.laysFinal RX3 "DeficitCircles$Jobs" "size" "[I" ∈ z_G := z_m1 (i := 142) rfl rfl
theorem z_g695 : Cond.laysFinal RX3 "DeficitCircles$Jobs" "came" "[I" ∈ z_G := z_m1 (i := 144) rfl rfl
theorem z_g696 : Cond.laysFinal RX3 "DeficitCircles$Jobs" "began" "[I" ∈ z_G := z_m1 (i := 146) rfl rfl
theorem z_g697 : Cond.lays RX3 "DeficitCircles$Jobs" "waits" "I" ∈ z_G := z_m1 (i := 148) rfl rfl
theorem z_g698 : Cond.laysFinal RX3 "DeficitCircles$Jobs" "line" "[I" ∈ z_G := z_m1 (i := 150) rfl rfl
theorem z_lays_3 : ∀ w ∈ u_ws RX3 TX3 7, w ∈ z_G := List.forall_mem_cons.mpr ⟨z_g692,
  List.forall_mem_cons.mpr ⟨z_g693,
  List.forall_mem_cons.mpr ⟨z_g694,
  List.forall_mem_cons.mpr ⟨z_g695,
  List.forall_mem_cons.mpr ⟨z_g696,
  List.forall_mem_cons.mpr ⟨z_g697,
  List.forall_mem_cons.mpr ⟨z_g698,
  fun _ h => absurd h List.not_mem_nil⟩⟩⟩⟩⟩⟩⟩
theorem z_g699 : Cond.laysFinal RX4 "DeficitCircles$State" "groups" "LDeficitCircles$Groups;" ∈ z_G := z_m1 (i := 175) rfl rfl
theorem z_g700 : Cond.laysFinal RX4 "DeficitCircles$State" "classes" "LDeficitCircles$Classes;" ∈ z_G := z_m1 (i := 177) rfl rfl
theorem z_g701 : Cond.laysFinal RX4 "DeficitCircles$State" "jobs" "LDeficitCircles$Jobs;" ∈ z_G := z_m1 (i := 179) rfl rfl
theorem z_g702 : Cond.lays RX4 "DeficitCircles$State" "time" "I" ∈ z_G := z_m1 (i := 181) rfl rfl
theorem z_g703 : Cond.lays RX4 "DeficitCircles$State" "presentGroup" "I" ∈ z_G := z_m1 (i := 183) rfl rfl
theorem z_g704 : Cond.lays RX4 "DeficitCircles$State" "inService" "I" ∈ z_G := z_m1 (i := 185) rfl rfl
theorem z_g705 : Cond.lays RX4 "DeficitCircles$State" "left" "I" ∈ z_G := z_m1 (i := 187) rfl rfl
theorem z_g706 : Cond.lays RX4 "DeficitCircles$State" "idleTicks" "I" ∈ z_G := z_m1 (i := 189) rfl rfl
theorem z_g707 : Cond.lays RX4 "DeficitCircles$State" "servedWhenOld" "I" ∈ z_G := z_m1 (i := 191) rfl rfl
theorem z_lays_4 : ∀ w ∈ u_ws RX4 TX4 9, w ∈ z_G := List.forall_mem_cons.mpr ⟨z_g699,
  List.forall_mem_cons.mpr ⟨z_g700,
  List.forall_mem_cons.mpr ⟨z_g701,
  List.forall_mem_cons.mpr ⟨z_g702,
  List.forall_mem_cons.mpr ⟨z_g703,
  List.forall_mem_cons.mpr ⟨z_g704,
  List.forall_mem_cons.mpr ⟨z_g705,
  List.forall_mem_cons.mpr ⟨z_g706,
  List.forall_mem_cons.mpr ⟨z_g707,
  fun _ h => absurd h List.not_mem_nil⟩⟩⟩⟩⟩⟩⟩⟩⟩
theorem z_g708 : Cond.lays RX5 "DeficitCircles$Text" "length" "I" ∈ z_G := z_m1 (i := 220) rfl rfl
theorem z_g709 : Cond.laysFinal RX5 "DeficitCircles$Text" "signs" "[C" ∈ z_G := z_m1 (i := 222) rfl rfl
theorem z_lays_5 : ∀ w ∈ u_ws RX5 TX5 2, w ∈ z_G := List.forall_mem_cons.mpr ⟨z_g708,
  List.forall_mem_cons.mpr ⟨z_g709,
  fun _ h => absurd h List.not_mem_nil⟩⟩
theorem z_g710 : Cond.laysFinal RX6 "DeficitCircles$Turns" "classNeed" "[I" ∈ z_G := z_m1 (i := 235) rfl rfl
theorem z_g711 : Cond.laysFinal RX6 "DeficitCircles$Turns" "groupNeed" "[I" ∈ z_G := z_m1 (i := 237) rfl rfl
theorem z_g712 : Cond.laysFinal RX6 "DeficitCircles$Turns" "groupBusy" "[Z" ∈ z_G := z_m1 (i := 239) rfl rfl
theorem z_lays_6 : ∀ w ∈ u_ws RX6 TX6 3, w ∈ z_G := List.forall_mem_cons.mpr ⟨z_g710,
  List.forall_mem_cons.mpr ⟨z_g711,
  List.forall_mem_cons.mpr ⟨z_g712,
  fun _ h => absurd h List.not_mem_nil⟩⟩⟩
theorem z_g713 : Cond.laysFinal RX7 "DeficitCircles" "state" "LDeficitCircles$State;" ∈ z_G := z_m2 (i := 10) rfl rfl
theorem z_g714 : Cond.laysFinal RX7 "DeficitCircles" "snapshot" "LDeficitCircles$State;" ∈ z_G := z_m2 (i := 12) rfl rfl
theorem z_g715 : Cond.lays RX7 "DeficitCircles" "hasSnapshot" "Z" ∈ z_G := z_m2 (i := 14) rfl rfl
theorem z_g716 : Cond.laysFinal RX7 "DeficitCircles" "trial" "LDeficitCircles$State;" ∈ z_G := z_m2 (i := 16) rfl rfl
theorem z_g717 : Cond.laysFinal RX7 "DeficitCircles" "history" "LDeficitCircles$History;" ∈ z_G := z_m2 (i := 18) rfl rfl
theorem z_g718 : Cond.laysFinal RX7 "DeficitCircles" "text" "LDeficitCircles$Text;" ∈ z_G := z_m2 (i := 20) rfl rfl
theorem z_g719 : Cond.laysFinal RX7 "DeficitCircles" "turns" "LDeficitCircles$Turns;" ∈ z_G := z_m2 (i := 22) rfl rfl
theorem z_lays_7 : ∀ w ∈ u_ws RX7 TX7 7, w ∈ z_G := List.forall_mem_cons.mpr ⟨z_g713,
  List.forall_mem_cons.mpr ⟨z_g714,
  List.forall_mem_cons.mpr ⟨z_g715,
  List.forall_mem_cons.mpr ⟨z_g716,
  List.forall_mem_cons.mpr ⟨z_g717,
  List.forall_mem_cons.mpr ⟨z_g718,
  List.forall_mem_cons.mpr ⟨z_g719,
  fun _ h => absurd h List.not_mem_nil⟩⟩⟩⟩⟩⟩⟩
theorem z_g720 : Cond.laysFinal RX8 "DeficitCirclesModel" "row" "[I" ∈ z_G := z_m3 (i := 182) rfl rfl
theorem z_g721 : Cond.laysFinal RX8 "DeficitCirclesModel" "past" "[I" ∈ z_G := z_m3 (i := 184) rfl rfl
theorem z_g722 : Cond.laysFinal RX8 "DeficitCirclesModel" "aside" "[I" ∈ z_G := z_m3 (i := 186) rfl rfl
theorem z_g723 : Cond.laysFinal RX8 "DeficitCirclesModel" "before" "[I" ∈ z_G := z_m3 (i := 188) rfl rfl
theorem z_g724 : Cond.lays RX8 "DeficitCirclesModel" "states" "I" ∈ z_G := z_m3 (i := 190) rfl rfl
theorem z_g725 : Cond.lays RX8 "DeficitCirclesModel" "isAside" "Z" ∈ z_G := z_m3 (i := 192) rfl rfl
theorem z_g726 : Cond.laysFinal RX8 "DeficitCirclesModel" "text" "[C" ∈ z_G := z_m3 (i := 194) rfl rfl
theorem z_g727 : Cond.lays RX8 "DeficitCirclesModel" "length" "I" ∈ z_G := z_m3 (i := 196) rfl rfl
theorem z_g728 : Cond.lays RX8 "DeficitCirclesModel" "at" "I" ∈ z_G := z_m3 (i := 198) rfl rfl
theorem z_lays_8 : ∀ w ∈ u_ws RX8 TX8 9, w ∈ z_G := List.forall_mem_cons.mpr ⟨z_g720,
  List.forall_mem_cons.mpr ⟨z_g721,
  List.forall_mem_cons.mpr ⟨z_g722,
  List.forall_mem_cons.mpr ⟨z_g723,
  List.forall_mem_cons.mpr ⟨z_g724,
  List.forall_mem_cons.mpr ⟨z_g725,
  List.forall_mem_cons.mpr ⟨z_g726,
  List.forall_mem_cons.mpr ⟨z_g727,
  List.forall_mem_cons.mpr ⟨z_g728,
  fun _ h => absurd h List.not_mem_nil⟩⟩⟩⟩⟩⟩⟩⟩⟩
end
section
/-! tables, read -/
theorem z_G_good : ∀ w ∈ z_G, w ∈ z_G ∧ ((w.onTables && w.keeps) = true ∨ ∃ ty, w = .arrayClass ty) := fun w h => ⟨h, good_of_word (List.mem_filter.mp h).2⟩
def z_okk (x : (Nat × List z_S) ⊕ (Nat × Nat)) : Bool := match x with
  | .inl (ci, sl) => match z_cl[ci]? with
    | some (_, T, N) => decide (sl.length = N) && (List.range N).all fun k => match sl[k]? with
      | some (.inl 0) => decide ((T k).2.2.2 = false) && decide (parseFieldDescriptor (T k).2.2.1 = some .int)
      | some (.inl 1) => decide ((T k).2.2.2 = false) && decide (parseFieldDescriptor (T k).2.2.1 = some .boolean)
      | some (.inr _) => true
      | _ => false
    | none => false
  | .inr (t, n) => decide (t < 4) && decide (n ≤ 6000)
set_option maxRecDepth 100000 in
theorem z_kds_ok : z_kds.all z_okk = true := by decide +kernel
theorem z_cl_ok : ∀ (ci : Nat) (C : String) (T : u_T) (N : Nat), z_cl[ci]? = some (C, T, N) → (∀ w ∈ u_ws C T N, w ∈ z_G) ∧ ∃ ty0 : Nat → FieldType, (∀ k, k < N → parseFieldDescriptor (T k).2.2.1 = some (ty0 k)) ∧ ∀ a, a < N → ∀ b, b < N → a ≠ b → (T a).2.1 ≠ (T b).2.1 := by
  intro ci C T N h
  match ci, h with
  | 0, h => cases h; exact ⟨z_lays_0, tyX0, tyX0_ok, nmX0⟩
  | 1, h => cases h; exact ⟨z_lays_1, tyX1, tyX1_ok, nmX1⟩
  | 2, h => cases h; exact ⟨z_lays_2, tyX2, tyX2_ok, nmX2⟩
  | 3, h => cases h; exact ⟨z_lays_3, tyX3, tyX3_ok, nmX3⟩
  | 4, h => cases h; exact ⟨z_lays_4, tyX4, tyX4_ok, nmX4⟩
  | 5, h => cases h; exact ⟨z_lays_5, tyX5, tyX5_ok, nmX5⟩
  | 6, h => cases h; exact ⟨z_lays_6, tyX6, tyX6_ok, nmX6⟩
  | 7, h => cases h; exact ⟨z_lays_7, tyX7, tyX7_ok, nmX7⟩
  | 8, h => cases h; exact ⟨z_lays_8, tyX8, tyX8_ok, nmX8⟩
  | k + 9, h => simp [z_cl] at h
theorem z_look {α : Type} : ∀ (l : List ((Nat × Nat) × α)) (a : Nat × Nat) (b : α), l.lookup a = some b → (a, b) ∈ l := by
  intro l
  induction l with
  | nil => intro a b h; simp at h
  | cons x l ih =>
    intro a b h
    obtain ⟨u, v⟩ := x
    rw [List.lookup_cons] at h
    split at h
    · rename_i e
      cases h
      have e' : a = u := by simpa using e
      rw [e']; exact List.mem_cons_self
    · exact List.mem_cons_of_mem _ (ih a b h)
theorem z_fl_at {own ix ci k : Nat} (h : z_fl.lookup (own, ix) = some (ci, k)) : ∃ (C : String) (T : u_T) (N : Nat), z_cl[ci]? = some (C, T, N) ∧ k < N ∧ Cond.fieldLink (z_cn own) ix (T k).1 (T k).2.1 (T k).2.2.1 ∈ z_G := z_fl_ok _ (z_look _ _ _ h)
theorem z_kd_at {o ci : Nat} {sl : List z_S} (h : z_kds[o]? = some (.inl (ci, sl))) : ∃ (C : String) (T : u_T) (N : Nat), z_cl[ci]? = some (C, T, N) ∧ sl.length = N ∧
    (∀ k, sl[k]? = some (.inl 0) → (T k).2.2.2 = false ∧ parseFieldDescriptor (T k).2.2.1 = some .int) ∧ ∀ k, sl[k]? = some (.inl 1) → (T k).2.2.2 = false ∧ parseFieldDescriptor (T k).2.2.1 = some .boolean := by
  have h1 := List.all_eq_true.mp z_kds_ok _ (List.mem_of_getElem? h)
  unfold z_okk at h1
  dsimp only at h1
  split at h1
  · rename_i C T N hc
    simp only [Bool.and_eq_true, decide_eq_true_eq] at h1
    refine ⟨C, T, N, hc, h1.1, fun k hk => ?_, fun k hk => ?_⟩
    · have h2 := List.all_eq_true.mp h1.2 k (List.mem_range.mpr (by rw [← h1.1]; exact (List.getElem?_eq_some_iff.mp hk).1))
      rw [hk] at h2
      simpa using h2
    · have h2 := List.all_eq_true.mp h1.2 k (List.mem_range.mpr (by rw [← h1.1]; exact (List.getElem?_eq_some_iff.mp hk).1))
      rw [hk] at h2
      simpa using h2
  · cases h1
theorem z_ka_at {o t n : Nat} (h : z_kds[o]? = some (.inr (t, n))) : t < 4 ∧ n ≤ 6000 := by
  have h1 := List.all_eq_true.mp z_kds_ok _ (List.mem_of_getElem? h)
  unfold z_okk at h1
  simpa using h1
end
section
/-! a step that is no call and no return -/
theorem z_nx_i {a b pc : Nat} {ls : z_L} {M : z_M} {o : Option (List z_V)} {n : z_N} (h : z_nx a b pc ls M o = some n) : a = b ∧ ∃ t, o = some t ∧ n = (pc, ls, t, M) := by
  unfold z_nx at h
  split at h
  · rename_i e
    cases o with
    | none => cases h
    | some t => cases h; exact ⟨e, t, rfl, rfl⟩
  · cases h
theorem z_bin_i {f : Int → Int → Int} {st t : List z_V} (h : z_bin f st = some t) : ∃ x y r, st = .inl y :: .inl x :: r ∧ t = .inl (f x y) :: r := by
  unfold z_bin at h
  split at h
  · cases h; exact ⟨_, _, _, rfl, rfl⟩
  · cases h
theorem z_div_i {f : Int → Int → Int} {st t : List z_V} (h : z_div f st = some t) : ∃ x y r, st = .inl y :: .inl x :: r ∧ y ≠ 0 ∧ t = .inl (f x y) :: r := by
  unfold z_div at h
  split at h
  · split at h
    · cases h
    · rename_i e; cases h; exact ⟨_, _, _, rfl, e, rfl⟩
  · cases h
theorem z_ldi_i {ls : z_L} {i : Nat} {st t : List z_V} (h : z_ldi ls i st = some t) : ∃ x, ls[i]? = some (some (.inl x)) ∧ t = .inl x :: st := by
  unfold z_ldi at h
  split at h
  · rename_i e; cases h; exact ⟨_, e, rfl⟩
  · cases h
theorem z_lda_i {ls : z_L} {i : Nat} {st t : List z_V} (h : z_lda ls i st = some t) : ∃ x, ls[i]? = some (some (.inr x)) ∧ t = .inr x :: st := by
  unfold z_lda at h
  split at h
  · rename_i e; cases h; exact ⟨_, e, rfl⟩
  · cases h
theorem z_sti_i {a b pc i : Nat} {ls : z_L} {M : z_M} {st : List z_V} {n : z_N} (h : z_sti a b pc ls M i st = some n) : ∃ x r, st = .inl x :: r ∧ a = b ∧ i < ls.length ∧ n = (pc, ls.set i (some (.inl x)), r, M) := by
  unfold z_sti at h
  split at h
  · split at h
    · rename_i e; cases h; exact ⟨_, _, rfl, e.1, e.2, rfl⟩
    · cases h
  · cases h
theorem z_sta_i {a b pc i : Nat} {ls : z_L} {M : z_M} {st : List z_V} {n : z_N} (h : z_sta' a b pc ls M i st = some n) : ∃ x r, st = .inr x :: r ∧ a = b ∧ i < ls.length ∧ n = (pc, ls.set i (some (.inr x)), r, M) := by
  unfold z_sta' at h
  split at h
  · split at h
    · rename_i e; cases h; exact ⟨_, _, rfl, e.1, e.2, rfl⟩
    · cases h
  · cases h
theorem z_inc_i {a b pc i : Nat} {ls : z_L} {M : z_M} {c : Int} {st : List z_V} {n : z_N} (h : z_inc a b pc ls M i c st = some n) : ∃ x, ls[i]? = some (some (.inl x)) ∧ a = b ∧ n = (pc, ls.set i (some (.inl (z_w (x + c)))), st, M) := by
  unfold z_inc at h
  split at h
  · rename_i e
    split at h
    · rename_i e2; cases h; exact ⟨_, e, e2, rfl⟩
    · cases h
  · cases h
theorem z_ic_i {c : Jvm.ClassFile.Cond} {a b pc : Nat} {off : Int} {ls : z_L} {M : z_M} {st : List z_V} {n : z_N} (h : z_ic c a b pc off ls M st = some n) : ∃ x y r, st = .inl y :: .inl x :: r ∧ a = b ∧ 0 ≤ (pc : Int) + off ∧ n = (if z_cc c x y = true then (((pc : Int) + off).toNat, ls, r, M) else (pc + 3, ls, r, M)) := by
  unfold z_ic at h
  split at h
  · split at h
    · rename_i e
      refine ⟨_, _, _, rfl, e.1, e.2, ?_⟩
      split at h <;> (rename_i e3; cases h; first | rw [if_pos e3] | rw [if_neg e3])
    · cases h
  · cases h
theorem z_if_i {c : Jvm.ClassFile.Cond} {a b pc : Nat} {off : Int} {ls : z_L} {M : z_M} {st : List z_V} {n : z_N} (h : z_if c a b pc off ls M st = some n) : ∃ x r, st = .inl x :: r ∧ a = b ∧ 0 ≤ (pc : Int) + off ∧ n = (if z_cc c x 0 = true then (((pc : Int) + off).toNat, ls, r, M) else (pc + 3, ls, r, M)) := by
  unfold z_if at h
  split at h
  · split at h
    · rename_i e
      refine ⟨_, _, rfl, e.1, e.2, ?_⟩
      split at h <;> (rename_i e3; cases h; first | rw [if_pos e3] | rw [if_neg e3])
    · cases h
  · cases h
theorem z_gf_i {own ix : Nat} {M : z_M} {st t : List z_V} (h : z_gf own ix M st = some t) : ∃ ci k s o r sl x, z_fl.lookup (own, ix) = some (ci, k) ∧ st = .inr (some (s, o)) :: r ∧ z_kds[o]? = some (.inl (ci, sl)) ∧ z_lv s o = true ∧ sl[k]? = some x ∧
    ((∃ u, x = .inl u ∧ t = .inl (M s o k) :: r) ∨ ∃ q o', x = .inr (q, o') ∧ t = .inr (some (q.getD s, o')) :: r) := by
  unfold z_gf at h
  split at h
  · rename_i ci k s o r e
    split at h
    · rename_i cj sl e2
      split at h
      · rename_i e3
        obtain ⟨rfl, e4⟩ := e3
        split at h
        · rename_i u e5; cases h; exact ⟨_, _, _, _, _, _, _, e, rfl, e2, e4, e5, Or.inl ⟨u, rfl, rfl⟩⟩
        · rename_i q o' e5; cases h; exact ⟨_, _, _, _, _, _, _, e, rfl, e2, e4, e5, Or.inr ⟨q, o', rfl, rfl⟩⟩
        · cases h
      · cases h
    · cases h
  · cases h
theorem z_pf_i {own ix pc : Nat} {ls : z_L} {M : z_M} {st : List z_V} {n : z_N} (h : z_pf own ix pc ls M st = some n) : ∃ ci k s o r sl v x, z_fl.lookup (own, ix) = some (ci, k) ∧ st = .inl v :: .inr (some (s, o)) :: r ∧ z_kds[o]? = some (.inl (ci, sl)) ∧ z_lv s o = true ∧ sl[k]? = some (.inl x) ∧
    (x = 0 ∨ x = 1 ∧ (v = 0 ∨ v = 1)) ∧ n = (pc, ls, r, z_up M s o k v) := by
  unfold z_pf at h
  split at h
  · rename_i ci k v s o r e
    split at h
    · rename_i cj sl e2
      split at h
      · rename_i e3
        obtain ⟨rfl, e4⟩ := e3
        split at h
        · rename_i e5; cases h; exact ⟨_, _, _, _, _, _, _, _, e, rfl, e2, e4, e5, Or.inl rfl, rfl⟩
        · rename_i e5
          split at h
          · rename_i e6; cases h; exact ⟨_, _, _, _, _, _, _, _, e, rfl, e2, e4, e5, Or.inr ⟨rfl, e6⟩, rfl⟩
          · cases h
        · cases h
      · cases h
    · cases h
  · cases h
theorem z_al_i {t : Nat} {M : z_M} {st u : List z_V} (h : z_al t M st = some u) : ∃ i s o r n, st = .inl i :: .inr (some (s, o)) :: r ∧ z_kds[o]? = some (.inr (t, n)) ∧ z_lv s o = true ∧ 0 ≤ i ∧ i < (n : Int) ∧ u = (if t = 3 then .inr (some (z_rg (M s o i.toNat), 0)) else .inl (M s o i.toNat)) :: r := by
  unfold z_al at h
  split at h
  · split at h
    · rename_i e2
      split at h
      · rename_i e3
        obtain ⟨rfl, e4⟩ := e3
        split at h
        · rename_i e5; cases h; exact ⟨_, _, _, _, _, rfl, e2, e4, e5.1, e5.2, rfl⟩
        · cases h
      · cases h
    · cases h
  · cases h
theorem z_as_i {t pc : Nat} {ls : z_L} {M : z_M} {st : List z_V} {m : z_N} (h : z_as t pc ls M st = some m) : ∃ v i s o r n, st = .inl v :: .inl i :: .inr (some (s, o)) :: r ∧ z_kds[o]? = some (.inr (t, n)) ∧ z_lv s o = true ∧ 0 ≤ i ∧ i < (n : Int) ∧ z_fit t v = true ∧ m = (pc, ls, r, z_up M s o i.toNat v) := by
  unfold z_as at h
  split at h
  · split at h
    · rename_i e2
      split at h
      · rename_i e3
        obtain ⟨rfl, e4⟩ := e3
        split at h
        · rename_i e5
          split at h
          · rename_i e6; cases h; exact ⟨_, _, _, _, _, _, rfl, e2, e4, e5.1, e5.2, e6, rfl⟩
          · cases h
        · cases h
      · cases h
    · cases h
  · cases h
theorem z_aa_i {pc : Nat} {ls : z_L} {M : z_M} {st : List z_V} {m : z_N} (h : z_aa pc ls M st = some m) : ∃ q i s o r n, st = .inr (some (q, 0)) :: .inl i :: .inr (some (s, o)) :: r ∧ z_kds[o]? = some (.inr (3, n)) ∧ z_lv s o = true ∧ 0 ≤ i ∧ i < (n : Int) ∧ m = (pc, ls, r, z_up M s o i.toNat (q.val : Int)) := by
  unfold z_aa at h
  split at h
  · split at h
    · rename_i e2
      split at h
      · rename_i e3
        obtain ⟨rfl, e4⟩ := e3
        split at h
        · rename_i e5; cases h; exact ⟨_, _, _, _, _, _, rfl, e2, e4, e5.1, e5.2, rfl⟩
        · cases h
      · cases h
    · cases h
  · cases h
end
section
/-! the machine follows: steps that are no calls and no returns -/
def z_tys (cA : Nat → ClassId) : List (ClassId × FieldType) := [(cA 0, .int), (cA 1, .char), (cA 2, .boolean), (cA 3, .object RX4)]
def z_A (ad : Nat → Nat) : Nat → Prop := fun q => ∃ k, k < 162 ∧ q = ad k
def z_inj (ad : Nat → Nat) : Prop := ∀ i j, i < 162 → j < 162 → ad i = ad j → i = j
theorem z_Dok {ad : Nat → Nat} (h : z_inj ad) (cA : Nat → ClassId) (M : z_M) : va_D (z_A ad) (z_ws ad cA M) := by
  have hlen : (z_ws ad cA M).length = 162 := by simp [z_ws]
  refine ⟨fun i j p q hi hj hpq => ?_, fun k q hk => ?_⟩
  · have h1 : i < 162 := by rw [← hlen]; exact (List.getElem?_eq_some_iff.mp hi).1
    have h2 : j < 162 := by rw [← hlen]; exact (List.getElem?_eq_some_iff.mp hj).1
    rw [z_ws_at ad cA M h1] at hi
    rw [z_ws_at ad cA M h2] at hj
    cases hi; cases hj
    exact h i j h1 h2 hpq
  · have h1 : k < 162 := by rw [← hlen]; exact (List.getElem?_eq_some_iff.mp hk).1
    rw [z_ws_at ad cA M h1] at hk
    cases hk
    exact ⟨k, h1, rfl⟩
theorem z_ce_obj {ad : Nat → Nat} {cA : Nat → ClassId} {M : z_M} {s : Fin 7} {o ci : Nat} {sl : List z_S} (h : z_kds[o]? = some (.inl (ci, sl))) : z_ce ad cA M (s, o) = .inr (ci, sl.mapIdx fun j k => z_fv ad s k (M s o j)) := by
  unfold z_ce; dsimp only; rw [h]
theorem z_ce_arr {ad : Nat → Nat} {cA : Nat → ClassId} {M : z_M} {s : Fin 7} {o t n : Nat} (h : z_kds[o]? = some (.inr (t, n))) (ht : t ≠ 3) : z_ce ad cA M (s, o) = .inl (cA t, n, .inl fun j => Int32.ofInt (M s o j)) := by
  unfold z_ce; dsimp only; rw [h]; dsimp only; rw [if_neg ht]
theorem z_ce_arq {ad : Nat → Nat} {cA : Nat → ClassId} {M : z_M} {s : Fin 7} {o n : Nat} (h : z_kds[o]? = some (.inr (3, n))) : z_ce ad cA M (s, o) = .inl (cA 3, n, .inr (.inr (.inr (.inr fun j => some (ad (z_ix (z_rg (M s o j)) 0)))))) := by
  unfold z_ce; dsimp only; rw [h]; dsimp only; rw [if_pos rfl]
theorem z_up_far {M : z_M} {s : Fin 7} {o j : Nat} {v : Int} : ∀ s' o' i, ¬ (s' = s ∧ o' = o) → z_up M s o j v s' o' i = M s' o' i := by
  intro s' o' i h
  unfold z_up
  rw [if_neg (fun q => h ⟨q.1, q.2.1⟩)]
theorem z_cp_far {M : z_M} {s0 s1 : Fin 7} {o0 o1 b d n : Nat} : ∀ s' o' i, ¬ (s' = s1 ∧ o' = o1) → z_cp M s0 o0 s1 o1 b d n s' o' i = M s' o' i := by
  intro s' o' i h
  unfold z_cp
  rw [if_neg (fun q => h ⟨q.1, q.2.1⟩)]
theorem z_obj_set {ad : Nat → Nat} {cA : Nat → ClassId} {M : z_M} {s : Fin 7} {o ci k x : Nat} {sl : List z_S} {v : Int} (h : z_kds[o]? = some (.inl (ci, sl))) (hk : sl[k]? = some (.inl x)) : (Sum.inr (ci, (sl.mapIdx fun j y => z_fv ad s y (M s o j)).set k (.int (Int32.ofInt v))) : va_E) = z_ce ad cA (z_up M s o k v) (s, o) := by
  rw [z_ce_obj h]
  refine congrArg (fun z => Sum.inr (ci, z)) (List.ext_getElem? fun j => ?_)
  rw [List.getElem?_set, List.getElem?_mapIdx, List.getElem?_mapIdx]
  by_cases e : k = j
  · subst e
    rw [if_pos rfl, if_pos (by rw [List.length_mapIdx]; exact (List.getElem?_eq_some_iff.mp hk).1), hk]
    simp [z_fv, z_up]
  · rw [if_neg e]
    cases sl[j]? with
    | none => rfl
    | some y =>
      simp only [Option.map_some]
      unfold z_up
      rw [if_neg (fun q => e q.2.2.symm)]
theorem z_arr_set {ad : Nat → Nat} {cA : Nat → ClassId} {M : z_M} {s : Fin 7} {o t n : Nat} {i v : Int} {w : Int32} (h : z_kds[o]? = some (.inr (t, n))) (ht : t ≠ 3) (hi : z_w i = i) (hw : w = Int32.ofInt v) : (Sum.inl (cA t, n, Sum.inl (upd (fun j => Int32.ofInt (M s o j)) (Int32.ofInt i).toNatClampNeg w)) : va_E) = z_ce ad cA (z_up M s o i.toNat v) (s, o) := by
  rw [z_ce_arr h ht, z_inat hi, hw]
  refine congrArg (fun z => Sum.inl (cA t, n, Sum.inl z)) (funext fun j => ?_)
  unfold upd z_up
  by_cases e : j = i.toNat
  · rw [if_pos e, if_pos ⟨rfl, rfl, e⟩]
  · rw [if_neg e, if_neg (fun q => e q.2.2)]
theorem z_rg_val (q : Fin 7) : z_rg (q.val : Int) = q := by
  revert q; decide
theorem z_arq_set {ad : Nat → Nat} {cA : Nat → ClassId} {M : z_M} {s q : Fin 7} {o n : Nat} {i : Int} (h : z_kds[o]? = some (.inr (3, n))) (hi : z_w i = i) : (Sum.inl (cA 3, n, Sum.inr (Sum.inr (Sum.inr (Sum.inr (va_up (fun j => some (ad (z_ix (z_rg (M s o j)) 0))) (Int32.ofInt i).toNatClampNeg (some (ad (z_ix q 0)))))))) : va_E) = z_ce ad cA (z_up M s o i.toNat (q.val : Int)) (s, o) := by
  rw [z_ce_arq h, z_inat hi]
  refine congrArg (fun z => Sum.inl (cA 3, n, Sum.inr (Sum.inr (Sum.inr (Sum.inr z))))) (funext fun j => ?_)
  unfold va_up z_up
  by_cases e : j = i.toNat
  · rw [if_pos e, if_pos ⟨rfl, rfl, e⟩, z_rg_val]
  · rw [if_neg e, if_neg (fun q => e q.2.2)]
theorem z_arr_cpy {ad : Nat → Nat} {cA : Nat → ClassId} {M : z_M} {s0 s1 : Fin 7} {o0 o1 n1 : Nat} {b d n : Int} (h : z_kds[o1]? = some (.inr (0, n1))) (hb : z_w b = b) (hd : z_w d = d) (hn : z_w n = n) : (Sum.inl (cA 0, n1, Sum.inl (va_cpy (fun j => Int32.ofInt (M s0 o0 j)) (fun j => Int32.ofInt (M s1 o1 j)) (Int32.ofInt b).toNatClampNeg (Int32.ofInt d).toNatClampNeg (Int32.ofInt n).toNatClampNeg)) : va_E) = z_ce ad cA (z_cp M s0 o0 s1 o1 b.toNat d.toNat n.toNat) (s1, o1) := by
  rw [z_ce_arr h (by decide), z_inat hb, z_inat hd, z_inat hn]
  refine congrArg (fun z => Sum.inl (cA 0, n1, Sum.inl z)) (funext fun j => ?_)
  unfold va_cpy z_cp
  by_cases e : d.toNat ≤ j ∧ j < d.toNat + n.toNat
  · rw [if_pos e, if_pos ⟨rfl, rfl, e.1, e.2⟩]
  · rw [if_neg e, if_neg (fun q => e ⟨q.2.2.1, q.2.2.2⟩)]
theorem z_nar01 {v : Int} (h : v = 0 ∨ v = 1) : narrow .boolean (.int (Int32.ofInt v)) = .int (Int32.ofInt v) := by rcases h with rfl | rfl <;> rfl
theorem z_fit01 {v : Int} (h : v = 0 ∨ v = 1) : fits .boolean (.int (Int32.ofInt v)) = true := by rcases h with rfl | rfl <;> rfl
theorem z_char {v : Int} (h : 0 ≤ v ∧ v ≤ 65535) : vp_nar .char (Int32.ofInt v) = Int32.ofInt v := by
  show (Int32.ofInt v).toUInt32.toUInt16.toUInt32.toInt32 = Int32.ofInt v
  obtain ⟨n, rfl⟩ := Int.eq_ofNat_of_zero_le h.1
  have hn : n < 65536 := by omega
  refine Int32.toBitVec.inj ?_
  simp only [UInt32.toBitVec_toInt32, UInt16.toBitVec_toUInt32, UInt32.toBitVec_toUInt16, Int32.toBitVec_toUInt32, Int32.toBitVec_ofInt]
  refine BitVec.eq_of_toNat_eq ?_
  simp only [BitVec.toNat_setWidth, BitVec.ofInt_natCast, BitVec.toNat_ofNat]
  omega
section ZS
variable {p : Program} {l : Launch} {e : Env} {R : Room} {s : State} {mm : MethodId} {args : Array Value} {below : List Frame} {meth : Method} {c : Code} {H : Heap} {locs : List Loc} {Q : State → Prop}
variable {mi : z_I} {D : va_G} {cA : Nat → ClassId} {ad : Nat → Nat} {i : Instr} {len pc : Nat} {ls : z_L} {st : List z_V} {M : z_M} {Ls : Array Slot} {n : z_N}
set_option maxHeartbeats 4000000 in
theorem z_next (hx : p.tables.exec = Jvm.exec) (hb : c.code = z_cd mi) (hml : c.maxLocals = z_ml' mi) (hown : s.vm.findClass (z_cn (z_own mi)) = some mm.cls) (hts : ∀ w ∈ z_G, w.before args s = true) (hK : va_K D z_cl (z_tys cA) s) (had : z_inj ad)
    (hRf : R.frames = z_dp mi) (hRl : R.locals = 28 * z_dp mi) (hdg : decode (z_cd mi) pc = .ok (i, len)) (h : z_stI mi i len pc ls st M = some n)
    (hlo : z_okL ls) (hso : z_okS st) (hM : z_okM M) (hl : z_RL ad ls Ls (z_ml' mi)) (hP : va_P D z_cl (z_ws ad cA M) H) (hS : va_S (z_A ad) s.heap H locs)
    (K : ∀ (Ls' : Array Slot) (H' : Heap) (locs' : List Loc), z_okL n.2.1 → z_okS n.2.2.1 → z_okM n.2.2.2 → z_RL ad n.2.1 Ls' (z_ml' mi) → va_P D z_cl (z_ws ad cA n.2.2.2) H' → va_S (z_A ad) s.heap H' locs' → W p l e R s mm args below meth c H' locs' 0 0 Q (F0 mm n.1 Ls' (n.2.2.1.map (z_rv ad)))) :
    W p l e R s mm args below meth c H locs 0 0 Q (F0 mm pc Ls (st.map (z_rv ad))) := by
  have hD := z_Dok had cA M
  cases i with
  | iconst k =>
    obtain ⟨rfl, t, ht, rfl⟩ := z_nx_i h
    cases ht
    exact lv_iconst (v := Int32.ofInt (z_w k)) hx hb hdg (z_ofw k).symm (K Ls H locs hlo (z_okS_cons.mpr ⟨z_okI (z_ww k), hso⟩) hM hl hP hS)
  | bipush k =>
    obtain ⟨rfl, t, ht, rfl⟩ := z_nx_i h
    cases ht
    exact lv_bipush (v := Int32.ofInt (Int8.ofInt k).toInt32.toInt) hx hb hdg (Int32.ofInt_toInt _).symm (K Ls H locs hlo (z_okS_cons.mpr ⟨z_okI (z_wI _), hso⟩) hM hl hP hS)
  | sipush k =>
    obtain ⟨rfl, t, ht, rfl⟩ := z_nx_i h
    cases ht
    exact lv_sipush (v := Int32.ofInt (Int16.ofInt k).toInt32.toInt) hx hb hdg (Int32.ofInt_toInt _).symm (K Ls H locs hlo (z_okS_cons.mpr ⟨z_okI (z_wI _), hso⟩) hM hl hP hS)
  | ldc ix =>
    obtain ⟨rfl, t, ht, rfl⟩ := z_nx_i h
    rw [Option.map_eq_some_iff] at ht
    obtain ⟨v, hv, rfl⟩ := ht
    have hc := hts _ (z_cs_ok _ (z_look _ _ _ hv))
    refine lv_ldc (v := Int32.ofInt v) hx hb hown hc hdg ?_
    have K' := K Ls H locs hlo (z_okS_cons.mpr ⟨z_okI (z_ww v), hso⟩) hM hl hP hS
    rw [← z_ofw v]
    exact K'
  | aconst_null =>
    obtain ⟨rfl, t, ht, rfl⟩ := z_nx_i h
    cases ht
    exact lv_null hx hb hdg (K Ls H locs hlo (z_okS_cons.mpr ⟨z_okR none, hso⟩) hM hl hP hS)
  | iload_n k =>
    obtain ⟨rfl, t, ht, rfl⟩ := z_nx_i h
    obtain ⟨x, hx', rfl⟩ := z_ldi_i ht
    exact lv_iload_n hx hb hdg rfl (hl.2.2.2 _ _ hx') (K Ls H locs hlo (z_okS_cons.mpr ⟨hlo _ _ hx', hso⟩) hM hl hP hS)
  | iload k =>
    obtain ⟨rfl, t, ht, rfl⟩ := z_nx_i h
    obtain ⟨x, hx', rfl⟩ := z_ldi_i ht
    exact lv_iload hx hb hdg (hl.2.2.2 _ _ hx') (K Ls H locs hlo (z_okS_cons.mpr ⟨hlo _ _ hx', hso⟩) hM hl hP hS)
  | aload_n k =>
    obtain ⟨rfl, t, ht, rfl⟩ := z_nx_i h
    obtain ⟨x, hx', rfl⟩ := z_lda_i ht
    have K' := K Ls H locs hlo (z_okS_cons.mpr ⟨hlo _ _ hx', hso⟩) hM hl hP hS
    cases x with
    | none => exact lv_aload_nN hx hb hdg rfl (hl.2.2.2 _ _ hx') K'
    | some q => exact lv_aload_n hx hb hdg rfl (hl.2.2.2 _ _ hx') K'
  | aload k =>
    obtain ⟨rfl, t, ht, rfl⟩ := z_nx_i h
    obtain ⟨x, hx', rfl⟩ := z_lda_i ht
    have K' := K Ls H locs hlo (z_okS_cons.mpr ⟨hlo _ _ hx', hso⟩) hM hl hP hS
    cases x with
    | none => exact lv_aloadN hx hb hdg (hl.2.2.2 _ _ hx') K'
    | some q => exact lv_aload hx hb hdg (hl.2.2.2 _ _ hx') K'
  | istore_n k =>
    obtain ⟨x, r, rfl, rfl, hi, rfl⟩ := z_sti_i h
    rw [z_okS_cons] at hso
    exact lv_istore_n hx hb hdg rfl (z_RL_has hl) (by rw [← hl.2.2.1]; exact hi) rfl fun Ls' h' => K Ls' H locs (z_okL_set hlo hso.1) hso.2 hM (z_RL_set hl rfl h') hP hS
  | istore k =>
    obtain ⟨x, r, rfl, rfl, hi, rfl⟩ := z_sti_i h
    rw [z_okS_cons] at hso
    exact lv_istore hx hb hdg (z_RL_has hl) (by rw [← hl.2.2.1]; exact hi) rfl fun Ls' h' => K Ls' H locs (z_okL_set hlo hso.1) hso.2 hM (z_RL_set hl rfl h') hP hS
  | astore_n k =>
    obtain ⟨x, r, rfl, rfl, hi, rfl⟩ := z_sta_i h
    rw [z_okS_cons] at hso
    cases x with
    | none => exact lv_astore_nN hx hb hdg rfl (z_RL_has hl) (by rw [← hl.2.2.1]; exact hi) rfl fun Ls' h' => K Ls' H locs (z_okL_set hlo hso.1) hso.2 hM (z_RL_set hl rfl h') hP hS
    | some q => exact lv_astore_n hx hb hdg rfl (z_RL_has hl) (by rw [← hl.2.2.1]; exact hi) rfl fun Ls' h' => K Ls' H locs (z_okL_set hlo hso.1) hso.2 hM (z_RL_set hl rfl h') hP hS
  | astore k =>
    obtain ⟨x, r, rfl, rfl, hi, rfl⟩ := z_sta_i h
    rw [z_okS_cons] at hso
    cases x with
    | none => exact lv_astoreN hx hb hdg (z_RL_has hl) (by rw [← hl.2.2.1]; exact hi) rfl fun Ls' h' => K Ls' H locs (z_okL_set hlo hso.1) hso.2 hM (z_RL_set hl rfl h') hP hS
    | some q => exact lv_astore hx hb hdg (z_RL_has hl) (by rw [← hl.2.2.1]; exact hi) rfl fun Ls' h' => K Ls' H locs (z_okL_set hlo hso.1) hso.2 hM (z_RL_set hl rfl h') hP hS
  | iinc k d =>
    obtain ⟨x, hx', rfl, rfl⟩ := z_inc_i h
    obtain ⟨q, hq⟩ := List.mem_iff_getElem?.mp (z_asc_mem (ad := ad).mpr ⟨_, hx', rfl⟩)
    exact lv_iinc hx hb hdg (z_RL_has hl) hq (v := Int32.ofInt (z_w (x + d))) (by rw [z_ofw, Int32.ofInt_add]) (by rw [← hl.2.2.1]; exact (List.getElem?_eq_some_iff.mp hx').1) rfl fun Ls' h' => K Ls' H locs (z_okL_set hlo (z_okI (z_ww _))) hso hM (z_RL_set hl rfl h') hP hS
  | iadd =>
    obtain ⟨rfl, t, ht, rfl⟩ := z_nx_i h
    obtain ⟨x, y, r, rfl, rfl⟩ := z_bin_i ht
    rw [z_okS_cons, z_okS_cons] at hso
    refine lv_iadd hx hb hdg ?_
    rw [← Int32.ofInt_add, ← z_ofw]
    exact K Ls H locs hlo (z_okS_cons.mpr ⟨z_okI (z_ww _), hso.2.2⟩) hM hl hP hS
  | isub =>
    obtain ⟨rfl, t, ht, rfl⟩ := z_nx_i h
    obtain ⟨x, y, r, rfl, rfl⟩ := z_bin_i ht
    rw [z_okS_cons, z_okS_cons] at hso
    refine lv_isub hx hb hdg ?_
    rw [← Int32.ofInt_sub, ← z_ofw]
    exact K Ls H locs hlo (z_okS_cons.mpr ⟨z_okI (z_ww _), hso.2.2⟩) hM hl hP hS
  | imul =>
    obtain ⟨rfl, t, ht, rfl⟩ := z_nx_i h
    obtain ⟨x, y, r, rfl, rfl⟩ := z_bin_i ht
    rw [z_okS_cons, z_okS_cons] at hso
    refine lv_imul hx hb hdg ?_
    rw [← Int32.ofInt_mul, ← z_ofw]
    exact K Ls H locs hlo (z_okS_cons.mpr ⟨z_okI (z_ww _), hso.2.2⟩) hM hl hP hS
  | idiv =>
    obtain ⟨rfl, t, ht, rfl⟩ := z_nx_i h
    obtain ⟨x, y, r, rfl, hy, rfl⟩ := z_div_i ht
    rw [z_okS_cons, z_okS_cons] at hso
    have h1 := hso.1 _ rfl
    have h2 := hso.2.1 _ rfl
    refine lv_idiv hx hb hdg (by rw [z_i0, z_ieq h1 z_w0]; exact hy) ?_
    have e1 : Int32.ofInt x / Int32.ofInt y = Int32.ofInt (z_w (x.tdiv y)) := by
      refine Int32.toInt_inj.mp ?_
      rw [Int32.toInt_div, show (Int32.ofInt x).toInt = x from h2, show (Int32.ofInt y).toInt = y from h1]
      show _ = z_w (z_w _)
      rw [z_ww]
      unfold z_w
      rw [Int32.toInt_ofInt]
    rw [e1]
    exact K Ls H locs hlo (z_okS_cons.mpr ⟨z_okI (z_ww _), hso.2.2⟩) hM hl hP hS
  | irem =>
    obtain ⟨rfl, t, ht, rfl⟩ := z_nx_i h
    obtain ⟨x, y, r, rfl, hy, rfl⟩ := z_div_i ht
    rw [z_okS_cons, z_okS_cons] at hso
    have h1 := hso.1 _ rfl
    have h2 := hso.2.1 _ rfl
    refine lv_irem hx hb hdg (by rw [z_i0, z_ieq h1 z_w0]; exact hy) ?_
    have e0 : Int32.ofInt x / Int32.ofInt y = Int32.ofInt (x.tdiv y) := by
      refine Int32.toInt_inj.mp ?_
      rw [Int32.toInt_div, show (Int32.ofInt x).toInt = x from h2, show (Int32.ofInt y).toInt = y from h1, Int32.toInt_ofInt]
    have e1 : Int32.ofInt x - Int32.ofInt x / Int32.ofInt y * Int32.ofInt y = Int32.ofInt (z_w (x.tmod y)) := by
      rw [e0, z_ofw, Int.tmod_def, Int32.ofInt_sub, Int32.ofInt_mul, Int32.mul_comm]
    rw [e1]
    exact K Ls H locs hlo (z_okS_cons.mpr ⟨z_okI (z_ww _), hso.2.2⟩) hM hl hP hS
  | dup =>
    obtain ⟨rfl, t, ht, rfl⟩ := z_nx_i h
    unfold z_dup at ht
    split at ht
    · cases ht
      have hs2 := z_okS_cons.mp hso
      exact lv_dup hx hb hdg (z_rv_cat _ _) (K Ls H locs hlo (z_okS_cons.mpr ⟨hs2.1, hso⟩) hM hl hP hS)
    · cases ht
  | dup2 =>
    obtain ⟨rfl, t, ht, rfl⟩ := z_nx_i h
    unfold z_dup2 at ht
    split at ht
    · cases ht
      have hs2 := z_okS_cons.mp hso
      have hs3 := z_okS_cons.mp hs2.2
      exact lv_dup2_11 hx hb hdg (z_rv_cat _ _) (z_rv_cat _ _) (K Ls H locs hlo (z_okS_cons.mpr ⟨hs2.1, z_okS_cons.mpr ⟨hs3.1, hso⟩⟩) hM hl hP hS)
    · cases ht
  | pop =>
    obtain ⟨rfl, t, ht, rfl⟩ := z_nx_i h
    unfold z_pop at ht
    split at ht
    · cases ht
      exact lv_pop hx hb hdg (z_rv_cat _ _) (K Ls H locs hlo (z_okS_cons.mp hso).2 hM hl hP hS)
    · cases ht
  | goto off =>
    unfold z_stI at h
    dsimp only at h
    split at h
    · rename_i e1
      obtain ⟨rfl, e2⟩ := e1
      cases h
      exact lv_goto (tgt := ((pc : Int) + off).toNat) hx hb hdg (Int.toNat_of_nonneg e2).symm (K Ls H locs hlo hso hM hl hP hS)
    · cases h
  | if_icmp k off =>
    obtain ⟨x, y, r, rfl, rfl, e2, rfl⟩ := z_ic_i h
    rw [z_okS_cons, z_okS_cons] at hso
    have h1 := hso.1 _ rfl
    have h2 := hso.2.1 _ rfl
    have Kt : z_cc k x y = true → W p l e R s mm args below meth c H locs 0 0 Q (F0 mm ((pc : Int) + off).toNat Ls (r.map (z_rv ad))) := fun hc => by
      have K' := K Ls H locs
      rw [if_pos hc] at K'
      exact K' hlo hso.2.2 hM hl hP hS
    have Kf : ¬ z_cc k x y = true → W p l e R s mm args below meth c H locs 0 0 Q (F0 mm (pc + 3) Ls (r.map (z_rv ad))) := fun hc => by
      have K' := K Ls H locs
      rw [if_neg hc] at K'
      exact K' hlo hso.2.2 hM hl hP hS
    have ht := (Int.toNat_of_nonneg e2).symm
    cases k with
    | eq => exact lv_icmp_eq (tgt := ((pc : Int) + off).toNat) hx hb hdg ht (fun e => Kt (by rw [z_ieq h2 h1] at e; simp [z_cc, e])) (fun e => Kf (by rw [z_ieq h2 h1] at e; simp [z_cc, e]))
    | ne => exact lv_icmp_ne (tgt := ((pc : Int) + off).toNat) hx hb hdg ht (fun e => Kt (by rw [z_ieq h2 h1] at e; simp [z_cc, e])) (fun e => Kf (by rw [z_ieq h2 h1] at e; simp [z_cc, e]))
    | lt => exact lv_icmp_lt (tgt := ((pc : Int) + off).toNat) hx hb hdg ht (fun e => Kt (by rw [z_ilt h2 h1] at e; simp [z_cc, e])) (fun e => Kf (by rw [z_ilt h2 h1] at e; simpa [z_cc] using e))
    | ge => exact lv_icmp_ge (tgt := ((pc : Int) + off).toNat) hx hb hdg ht (fun e => Kt (by rw [z_ile h1 h2] at e; simp [z_cc, e])) (fun e => Kf (by rw [z_ile h1 h2] at e; simpa [z_cc] using e))
    | gt => exact lv_icmp_gt (tgt := ((pc : Int) + off).toNat) hx hb hdg ht (fun e => Kt (by rw [z_ilt h1 h2] at e; simp [z_cc, e])) (fun e => Kf (by rw [z_ilt h1 h2] at e; simpa [z_cc] using e))
    | le => exact lv_icmp_le (tgt := ((pc : Int) + off).toNat) hx hb hdg ht (fun e => Kt (by rw [z_ile h2 h1] at e; simp [z_cc, e])) (fun e => Kf (by rw [z_ile h2 h1] at e; simpa [z_cc] using e))
  | ifCond k off =>
    obtain ⟨x, r, rfl, rfl, e2, rfl⟩ := z_if_i h
    rw [z_okS_cons] at hso
    have h2 := hso.1 _ rfl
    have h1 := z_w0
    have Kt : z_cc k x 0 = true → W p l e R s mm args below meth c H locs 0 0 Q (F0 mm ((pc : Int) + off).toNat Ls (r.map (z_rv ad))) := fun hc => by
      have K' := K Ls H locs
      rw [if_pos hc] at K'
      exact K' hlo hso.2 hM hl hP hS
    have Kf : ¬ z_cc k x 0 = true → W p l e R s mm args below meth c H locs 0 0 Q (F0 mm (pc + 3) Ls (r.map (z_rv ad))) := fun hc => by
      have K' := K Ls H locs
      rw [if_neg hc] at K'
      exact K' hlo hso.2 hM hl hP hS
    have ht := (Int.toNat_of_nonneg e2).symm
    cases k with
    | eq => exact lv_if_eq (tgt := ((pc : Int) + off).toNat) hx hb hdg ht (fun e => Kt (by rw [z_i0, z_ieq h2 h1] at e; simp [z_cc, e])) (fun e => Kf (by rw [z_i0, z_ieq h2 h1] at e; simp [z_cc, e]))
    | ne => exact lv_if_ne (tgt := ((pc : Int) + off).toNat) hx hb hdg ht (fun e => Kt (by rw [z_i0, z_ieq h2 h1] at e; simp [z_cc, e])) (fun e => Kf (by rw [z_i0, z_ieq h2 h1] at e; simp [z_cc, e]))
    | lt => exact lv_if_lt (tgt := ((pc : Int) + off).toNat) hx hb hdg ht (fun e => Kt (by rw [z_i0, z_ilt h2 h1] at e; simp [z_cc, e])) (fun e => Kf (by rw [z_i0, z_ilt h2 h1] at e; simpa [z_cc] using e))
    | ge => exact lv_if_ge (tgt := ((pc : Int) + off).toNat) hx hb hdg ht (fun e => Kt (by rw [z_i0, z_ile h1 h2] at e; simp [z_cc, e])) (fun e => Kf (by rw [z_i0, z_ile h1 h2] at e; simpa [z_cc] using e))
    | gt => exact lv_if_gt (tgt := ((pc : Int) + off).toNat) hx hb hdg ht (fun e => Kt (by rw [z_i0, z_ilt h1 h2] at e; simp [z_cc, e])) (fun e => Kf (by rw [z_i0, z_ilt h1 h2] at e; simpa [z_cc] using e))
    | le => exact lv_if_le (tgt := ((pc : Int) + off).toNat) hx hb hdg ht (fun e => Kt (by rw [z_i0, z_ile h2 h1] at e; simp [z_cc, e])) (fun e => Kf (by rw [z_i0, z_ile h2 h1] at e; simpa [z_cc] using e))
  | ifnull off =>
    unfold z_stI at h
    dsimp only at h
    unfold z_nul at h
    split at h
    · split at h
      · rename_i e1
        obtain ⟨rfl, e2⟩ := e1
        cases h
        exact lv_ifnullN (tgt := ((pc : Int) + off).toNat) hx hb hdg (Int.toNat_of_nonneg e2).symm (K Ls H locs hlo (z_okS_cons.mp hso).2 hM hl hP hS)
      · cases h
    · split at h
      · rename_i e1
        subst e1
        cases h
        exact lv_ifnull hx hb hdg (K Ls H locs hlo (z_okS_cons.mp hso).2 hM hl hP hS)
      · cases h
    · cases h
  | tableswitch d lo hi offs =>
    unfold z_stI at h
    dsimp only at h
    unfold z_sw at h
    split at h
    · rename_i x r
      rw [z_okS_cons] at hso
      have h2 : (Int32.ofInt x).toInt = x := hso.1 _ rfl
      split at h
      · rename_i e1
        split at h
        · rename_i e2
          cases h
          exact lv_tableOut (tgt := ((pc : Int) + d).toNat) hx hb hdg (by rw [h2]; exact e1) (Int.toNat_of_nonneg e2).symm (K Ls H locs hlo hso.2 hM hl hP hS)
        · cases h
      · rename_i e1
        split at h
        · rename_i off e3
          split at h
          · rename_i e2
            cases h
            exact lv_tableIn (tgt := ((pc : Int) + off).toNat) hx hb hdg (by rw [h2]; exact fun q => e1 (Or.inl q)) (by rw [h2]; exact fun q => e1 (Or.inr q)) (by rw [h2]; exact e3) (Int.toNat_of_nonneg e2).symm (K Ls H locs hlo hso.2 hM hl hP hS)
          · cases h
        · cases h
    · cases h
  | getfield ix =>
    obtain ⟨rfl, t, ht, rfl⟩ := z_nx_i h
    obtain ⟨ci, k, s', o, r, sl, x, hf, rfl, hk, hv, hsl, hx2⟩ := z_gf_i ht
    obtain ⟨C, T, N, hc, hkN, hw⟩ := z_fl_at hf
    obtain ⟨hin, -⟩ := z_cl_ok ci C T N hc
    have he := z_ws_get ad cA M hv
    rw [z_ce_obj hk] at he
    rw [z_okS_cons] at hso
    rcases hx2 with ⟨u, rfl, rfl⟩ | ⟨q, o', rfl, rfl⟩
    · exact va_get hx hb hts hin hown hK hP _ he hc k hkN (hts _ hw) (fun _ h9 => h9) (v := .int (Int32.ofInt (M s' o k))) (by rw [List.getElem?_mapIdx, hsl]; rfl) hdg (K Ls H locs hlo (z_okS_cons.mpr ⟨z_okI (hM _ _ _), hso.2⟩) hM hl hP hS)
    · exact va_get hx hb hts hin hown hK hP _ he hc k hkN (hts _ hw) (fun _ h9 => h9) (v := .ref (ad (z_ix (q.getD s') o'))) (by rw [List.getElem?_mapIdx, hsl]; rfl) hdg (K Ls H locs hlo (z_okS_cons.mpr ⟨z_okR _, hso.2⟩) hM hl hP hS)
  | putfield ix =>
    unfold z_stI at h
    dsimp only at h
    split at h
    · rename_i e1
      subst e1
      obtain ⟨ci, k, s', o, r, sl, v, x, hf, rfl, hk, hv, hsl, hx2, rfl⟩ := z_pf_i h
      obtain ⟨C, T, N, hc, hkN, hw⟩ := z_fl_at hf
      obtain ⟨hin, ty0, hty, hnm⟩ := z_cl_ok ci C T N hc
      obtain ⟨C', T', N', hc', hlen, hi0, hi1⟩ := z_kd_at hk
      cases hc.symm.trans hc'
      have he := z_ws_get ad cA M hv
      rw [z_ce_obj hk] at he
      rw [z_okS_cons, z_okS_cons] at hso
      have K' := fun (H1 : Heap) (locs1 : List Loc) (hP1 : va_P D z_cl ((z_ws ad cA M).set (z_ix s' o) (ad (z_ix s' o), .inr (ci, (sl.mapIdx fun j y => z_fv ad s' y (M s' o j)).set k (.int (Int32.ofInt v))))) H1) (hS1 : va_S (z_A ad) s.heap H1 locs1) => K Ls H1 locs1 hlo hso.2.2 (z_okM_up hM (hso.1 _ rfl)) hl (by rw [z_ws_set hv z_up_far (z_obj_set hk hsl)] at hP1; exact hP1) hS1
      rcases hx2 with rfl | ⟨rfl, h01⟩
      · exact va_put hx hb hts hin ty0 hty hnm hown hK hP hD hS _ he hc k hkN (hts _ hw) (fun _ h9 => h9) (hi0 k hsl).1 (hi0 k hsl).2 rfl rfl (by rw [List.length_mapIdx]; rw [hlen]; exact hkN) hdg fun H1 locs1 hP1 _ hS1 => K' H1 locs1 hP1 hS1
      · exact va_put hx hb hts hin ty0 hty hnm hown hK hP hD hS _ he hc k hkN (hts _ hw) (fun _ h9 => h9) (hi1 k hsl).1 (hi1 k hsl).2 (z_nar01 h01) (z_fit01 h01) (by rw [List.length_mapIdx]; rw [hlen]; exact hkN) hdg fun H1 locs1 hP1 _ hS1 => K' H1 locs1 hP1 hS1
    · cases h
  | iaload =>
    obtain ⟨rfl, t, ht, rfl⟩ := z_nx_i h
    obtain ⟨j, s', o, r, N, rfl, hk, hv, h0, h1, rfl⟩ := z_al_i ht
    rw [z_okS_cons, z_okS_cons] at hso
    have hj := hso.1 _ rfl
    have he := z_ws_get ad cA M hv
    rw [z_ce_arr hk (by decide)] at he
    refine va_iald hx hb hK hP _ 0 he rfl (z_in hj h0 h1) hdg ?_
    rw [z_inat hj]
    exact K Ls H locs hlo (z_okS_cons.mpr ⟨z_okI (hM _ _ _), hso.2.2⟩) hM hl hP hS
  | caload =>
    obtain ⟨rfl, t, ht, rfl⟩ := z_nx_i h
    obtain ⟨j, s', o, r, N, rfl, hk, hv, h0, h1, rfl⟩ := z_al_i ht
    rw [z_okS_cons, z_okS_cons] at hso
    have hj := hso.1 _ rfl
    have he := z_ws_get ad cA M hv
    rw [z_ce_arr hk (by decide)] at he
    refine va_cald hx hb hK hP _ 1 he rfl (z_in hj h0 h1) hdg ?_
    rw [z_inat hj]
    exact K Ls H locs hlo (z_okS_cons.mpr ⟨z_okI (hM _ _ _), hso.2.2⟩) hM hl hP hS
  | baload =>
    obtain ⟨rfl, t, ht, rfl⟩ := z_nx_i h
    obtain ⟨j, s', o, r, N, rfl, hk, hv, h0, h1, rfl⟩ := z_al_i ht
    rw [z_okS_cons, z_okS_cons] at hso
    have hj := hso.1 _ rfl
    have he := z_ws_get ad cA M hv
    rw [z_ce_arr hk (by decide)] at he
    refine va_zald hx hb hK hP _ 2 he rfl (z_in hj h0 h1) hdg ?_
    rw [z_inat hj]
    exact K Ls H locs hlo (z_okS_cons.mpr ⟨z_okI (hM _ _ _), hso.2.2⟩) hM hl hP hS
  | aaload =>
    obtain ⟨rfl, t, ht, rfl⟩ := z_nx_i h
    obtain ⟨j, s', o, r, N, rfl, hk, hv, h0, h1, rfl⟩ := z_al_i ht
    rw [z_okS_cons, z_okS_cons] at hso
    have hj := hso.1 _ rfl
    have he := z_ws_get ad cA M hv
    rw [z_ce_arq hk] at he
    refine va_aldq hx hb hK hP _ 3 he rfl (z_in hj h0 h1) hdg ?_
    rw [z_inat hj]
    exact K Ls H locs hlo (z_okS_cons.mpr ⟨z_okR _, hso.2.2⟩) hM hl hP hS
  | iastore =>
    unfold z_stI at h
    dsimp only at h
    split at h
    · rename_i e1
      subst e1
      obtain ⟨v, j, s', o, r, N, rfl, hk, hv, h0, h1, hfit, rfl⟩ := z_as_i h
      rw [z_okS_cons, z_okS_cons, z_okS_cons] at hso
      have hj := hso.2.1 _ rfl
      have hvv := hso.1 _ rfl
      have he := z_ws_get ad cA M hv
      rw [z_ce_arr hk (by decide)] at he
      refine va_iast hx hb hK hP hD hS _ 0 he rfl (z_in hj h0 h1) hdg fun H1 locs1 hP1 _ hS1 => ?_
      rw [z_ws_set hv z_up_far (z_arr_set hk (by decide) hj rfl)] at hP1
      exact K Ls H1 locs1 hlo hso.2.2.2 (z_okM_up hM hvv) hl hP1 hS1
    · cases h
  | castore =>
    unfold z_stI at h
    dsimp only at h
    split at h
    · rename_i e1
      subst e1
      obtain ⟨v, j, s', o, r, N, rfl, hk, hv, h0, h1, hfit, rfl⟩ := z_as_i h
      rw [z_okS_cons, z_okS_cons, z_okS_cons] at hso
      have hj := hso.2.1 _ rfl
      have hvv := hso.1 _ rfl
      have he := z_ws_get ad cA M hv
      rw [z_ce_arr hk (by decide)] at he
      have hn : vp_nar .char (Int32.ofInt v) = Int32.ofInt v := by
        have h2 : (0 : Int) ≤ v ∧ v ≤ 65535 := by simpa [z_fit] using hfit
        exact z_char h2
      refine va_cast hx hb hK hP hD hS _ 1 he rfl (z_in hj h0 h1) hdg fun H1 locs1 hP1 _ hS1 => ?_
      rw [z_ws_set hv z_up_far (z_arr_set hk (by decide) hj hn)] at hP1
      exact K Ls H1 locs1 hlo hso.2.2.2 (z_okM_up hM hvv) hl hP1 hS1
    · cases h
  | bastore =>
    unfold z_stI at h
    dsimp only at h
    split at h
    · rename_i e1
      subst e1
      obtain ⟨v, j, s', o, r, N, rfl, hk, hv, h0, h1, hfit, rfl⟩ := z_as_i h
      rw [z_okS_cons, z_okS_cons, z_okS_cons] at hso
      have hj := hso.2.1 _ rfl
      have hvv := hso.1 _ rfl
      have he := z_ws_get ad cA M hv
      rw [z_ce_arr hk (by decide)] at he
      have hn : vp_nar .boolean (Int32.ofInt v) = Int32.ofInt v := by
        have h2 : v = 0 ∨ v = 1 := by simpa [z_fit] using hfit
        rcases h2 with rfl | rfl <;> decide
      refine va_zast hx hb hK hP hD hS _ 2 he rfl (z_in hj h0 h1) hdg fun H1 locs1 hP1 _ hS1 => ?_
      rw [z_ws_set hv z_up_far (z_arr_set hk (by decide) hj hn)] at hP1
      exact K Ls H1 locs1 hlo hso.2.2.2 (z_okM_up hM hvv) hl hP1 hS1
    · cases h
  | aastore =>
    unfold z_stI at h
    dsimp only at h
    split at h
    · rename_i e1
      subst e1
      obtain ⟨q, j, s', o, r, N, rfl, hk, hv, h0, h1, rfl⟩ := z_aa_i h
      rw [z_okS_cons, z_okS_cons, z_okS_cons] at hso
      have hj := hso.2.1 _ rfl
      have he := z_ws_get ad cA M hv
      rw [z_ce_arq hk] at he
      have hq := z_ws_get ad cA M (s := q) (o := 0) rfl
      rw [z_ce_obj (ci := 4) (sl := [.inr (none, 1), .inr (none, 2), .inr (none, 3), .inl 0, .inl 0, .inl 0, .inl 0, .inl 0, .inl 0]) rfl] at hq
      refine va_astq (r := (RX4, TX4, 9)) hx hb hK hP hD hS _ 3 _ 4 he rfl hq rfl (z_in hj h0 h1) hdg fun H1 locs1 hP1 _ hS1 => ?_
      rw [z_ws_set hv z_up_far (z_arq_set hk hj)] at hP1
      refine K Ls H1 locs1 hlo hso.2.2.2 (z_okM_up hM ?_) hl hP1 hS1
      exact z_w_id (by omega) (by have := q.isLt; omega)
    · cases h
  | invokestatic ix =>
    unfold z_stI at h
    dsimp only at h
    split at h
    · rename_i e1
      subst e1
      unfold z_jdk at h
      split at h
      · rename_i y x r hm
        split at h
        · rename_i e2
          cases h
          rw [z_okS_cons, z_okS_cons] at hso
          have h1 := hso.1 _ rfl
          have h2 := hso.2.1 _ rfl
          have hw := (z_mm_ok _ (z_look _ _ _ hm)).1 rfl
          refine va_mmax hx hb (by rw [hml, hl.1]) hown (hts _ hw) (hts _ z_max_ok.1) (hts _ z_max_ok.2.1) (hts _ z_max_ok.2.2) (by rw [hRf]; exact e2.2) (by rw [z_rv_cats, hRl]; omega) (Nat.zero_le _) (Nat.zero_le _) hdg ?_
          have e3 : (Value.int (if Int32.ofInt x < Int32.ofInt y then Int32.ofInt y else Int32.ofInt x)) = z_rv ad (.inl (if x < y then y else x)) := by
            by_cases e4 : x < y
            · rw [if_pos e4, if_pos ((z_ilt h2 h1).mpr e4)]; rfl
            · rw [if_neg e4, if_neg (fun q => e4 ((z_ilt h2 h1).mp q))]; rfl
          rw [e3]
          exact K Ls H locs hlo (z_okS_cons.mpr ⟨z_okI (by split <;> assumption), hso.2.2⟩) hM hl hP hS
        · cases h
      · rename_i y x r hm
        split at h
        · rename_i e2
          cases h
          rw [z_okS_cons, z_okS_cons] at hso
          have h1 := hso.1 _ rfl
          have h2 := hso.2.1 _ rfl
          have hw := (z_mm_ok _ (z_look _ _ _ hm)).2.1 rfl
          refine va_mmin hx hb (by rw [hml, hl.1]) hown (hts _ hw) (hts _ z_min_ok.1) (hts _ z_min_ok.2.1) (hts _ z_min_ok.2.2) (by rw [hRf]; exact e2.2) (by rw [z_rv_cats, hRl]; omega) (Nat.zero_le _) (Nat.zero_le _) hdg ?_
          have e3 : (Value.int (if Int32.ofInt y < Int32.ofInt x then Int32.ofInt y else Int32.ofInt x)) = z_rv ad (.inl (if y < x then y else x)) := by
            by_cases e4 : y < x
            · rw [if_pos e4, if_pos ((z_ilt h1 h2).mpr e4)]; rfl
            · rw [if_neg e4, if_neg (fun q => e4 ((z_ilt h1 h2).mp q))]; rfl
          rw [e3]
          exact K Ls H locs hlo (z_okS_cons.mpr ⟨z_okI (by split <;> assumption), hso.2.2⟩) hM hl hP hS
        · cases h
      · rename_i k d s1 o1 b s0 o0 r hm
        split at h
        · rename_i t0 n0 t1 n1 hk0 hk1
          split at h
          · rename_i e2
            obtain ⟨rfl, rfl, hv0, hv1, hr8, hdp⟩ := e2
            split at h
            · rename_i e3
              obtain ⟨g1, g2, g3, g4, g5⟩ := e3
              cases h
              rw [z_okS_cons, z_okS_cons, z_okS_cons, z_okS_cons, z_okS_cons] at hso
              have h1 := hso.1 _ rfl
              have h2 := hso.2.1 _ rfl
              have h3 := hso.2.2.2.1 _ rfl
              have hw := (z_mm_ok _ (z_look _ _ _ hm)).2.2 rfl
              have he0 := z_ws_get ad cA M hv0
              rw [z_ce_arr hk0 (by decide)] at he0
              have he1 := z_ws_get ad cA M hv1
              rw [z_ce_arr hk1 (by decide)] at he1
              refine va_copyi hx hb (by rw [hml, hl.1]) hown (hts _ hw) (hts _ z_cpy_ok.1) (hts _ z_cpy_ok.2.1) (hts _ z_cpy_ok.2.2) hK hP hD hS _ _ 0 0 he0 he1 rfl rfl rfl (by rw [z_i0, z_ilt h3 z_w0]; omega) (by rw [z_i0, z_ilt h2 z_w0]; omega) (by rw [z_i0, z_ilt h1 z_w0]; omega) (by rw [z_inat h3, z_inat h1]; omega) (by rw [z_inat h2, z_inat h1]; omega) (fun _ _ => rfl) (by rw [hRf]; exact hdp) ?_ hdg fun H1 locs1 hP1 _ hS1 => ?_
              · rw [z_rv_cats, hRl, show nativeFrameWords "java/lang/System" "arraycopy" 5 = 7 by decide]; omega
              · rw [z_ws_set hv1 z_cp_far (z_arr_cpy hk1 h3 h2 h1)] at hP1
                exact K Ls H1 locs1 hlo hso.2.2.2.2.2 (z_okM_cp hM) hl hP1 hS1
            · cases h
          · cases h
        · cases h
      · cases h
    · cases h
  | _ => cases h
end ZS
end
section
/-! returns, calls, whole methods -/
def z_wd (mi : z_I) : List Cond := Cond.code (z_y mi) (z_cd mi) (z_ml' mi) (z_rt mi) :: z_G
def z_rm (d : Nat) : Room := { frames := d, cells := 0, slots := 0, locals := 28 * d }
def z_yk (k : Nat) : MethodName := match z_mts[k]? with
  | some mj => z_y mj
  | none => ⟨"", "", ""⟩
def z_nw (e : (Nat × Nat) × (Nat × String)) : Cond := .methodLinkNest (z_cn e.1.1) e.1.2 (z_yk e.2.1) e.2.2
def z_Nok (U : State) : Prop := ∀ e ∈ z_nl, va_Nw (z_nw e) U
def z_U (D : va_G) (cA : Nat → ClassId) (ad : Nat → Nat) (M : z_M) (U : State) : Prop := va_P D z_cl (z_ws ad cA M) U.heap ∧ va_K D z_cl (z_tys cA) U ∧ z_Nok U
def z_Q (D : va_G) (cA : Nat → ClassId) (ad : Nat → Nat) (r : Option z_V) (M' : z_M) : Array Value → State → Outcome → State → Prop := fun _ st oc t =>
  (oc = .returned (r.map (z_rv ad)) ∧ z_U D cA ad M' t ∧ z_okM M' ∧ z_okS r.toList) ∧ va_F (z_A ad) st t
theorem z_Nok.warm {s U : State} (hW : s.WarmedH U.vm) (h : z_Nok s) : z_Nok U := fun e he => va_Nw.warmM hW (h e he)
theorem z_Nok.same {s U : State} (hv : s.vm = U.vm) (h : z_Nok s) : z_Nok U := fun e he => va_Nw.same rfl hv (h e he)
theorem z_U.warm {D : va_G} {cA : Nat → ClassId} {ad : Nat → Nat} {M : z_M} {s t : State} {H : Heap} (ht : t.heap = H) (hW : s.WarmedH t.vm) (hP : va_P D z_cl (z_ws ad cA M) H) (hK : va_K D z_cl (z_tys cA) s) (hN : z_Nok s) : z_U D cA ad M t :=
  ⟨by rw [ht]; exact hP, va_K.moved hW.alike hK, hN.warm hW⟩
theorem z_blind {D : va_G} {cA : Nat → ClassId} {ad : Nat → Nat} {M : z_M} {av : List Value} : FrameBlind (va_Pc av (z_U D cA ad M)) := fun a U g mk h =>
  ⟨h.1, h.2.1, va_K.moved (u := U) (U := U.calling g mk a) (Vm.Alike.refl U.vm) h.2.2.1, h.2.2.2.same rfl⟩
theorem z_cn_cl : ∀ (ci : Nat) (C : String) (T : u_T) (N : Nat), z_cl[ci]? = some (C, T, N) → C = z_cn ci := by
  intro ci C T N h
  match ci, h with
  | 0, h => cases h; rfl
  | 1, h => cases h; rfl
  | 2, h => cases h; rfl
  | 3, h => cases h; rfl
  | 4, h => cases h; rfl
  | 5, h => cases h; rfl
  | 6, h => cases h; rfl
  | 7, h => cases h; rfl
  | 8, h => cases h; rfl
  | k + 9, h => simp [z_cl] at h
section ZC
variable {p : Program} {l : Launch} {e : Env} {R : Room} {s : State} {mm : MethodId} {args : Array Value} {below : List Frame} {meth : Method} {c : Code} {H : Heap} {locs : List Loc} {Q : State → Prop}
variable {mi : z_I} {D : va_G} {cA : Nat → ClassId} {ad : Nat → Nat} {i : Instr} {len pc : Nat} {ls : z_L} {st : List z_V} {M : z_M} {Ls : Array Slot}
theorem z_ret {r : Option z_V} (hx : p.tables.exec = Jvm.exec) (hb : c.code = z_cd mi) (hr : meth.sig.returnType = z_rt mi) (hlocks : meth.locks = false) (hK : va_K D z_cl (z_tys cA) s) (hN : z_Nok s)
    (hdg : decode (z_cd mi) pc = .ok (i, len)) (h : z_stR mi i len st = some r) (hso : z_okS st) (hM : z_okM M) (hP : va_P D z_cl (z_ws ad cA M) H) (hS : va_S (z_A ad) s.heap H locs) :
    W p l e R s mm args below meth c H locs 0 0 (MQ below (z_Q D cA ad r M) args s 0 0 (z_A ad)) (F0 mm pc Ls (st.map (z_rv ad))) := by
  have hq : ∀ r' : Option z_V, z_okS r'.toList → ∀ t : State, t.heap = H → s.WarmedH t.vm → z_Q D cA ad r' M args s (.returned (r'.map (z_rv ad))) t := fun r' hr' t ht hW => ⟨⟨rfl, z_U.warm ht hW hP hK hN, hM, hr'⟩, hS.F ht⟩
  unfold z_stR at h
  split at h
  · rename_i v
    split at h
    · rename_i e1
      subst e1
      split at h
      · rename_i e2
        cases h
        exact W.iret hx hb (hr.trans e2) (hq (some (.inl v)) hso) hS.2.2 hdg hlocks
      · rename_i e2
        split at h
        · rename_i e3
          cases h
          exact W.zret hx hb (hr.trans e2) (z_nar01 e3) (hq (some (.inl v)) hso) hS.2.2 hdg hlocks
        · cases h
      · cases h
    · cases h
  · rename_i v
    split at h
    · rename_i e1
      subst e1
      split at h
      · rename_i e2
        cases h
        refine W.aret hx hb (hr.trans e2) (Or.inl ⟨_, rfl⟩) ?_ (hq (some (.inr v)) hso) hS.2.2 hdg hlocks
        cases v with
        | none => exact Or.inl rfl
        | some q => exact Or.inr ⟨_, rfl⟩
      · cases h
    · cases h
  · split at h
    · rename_i e1
      subst e1
      split at h
      · rename_i e2
        cases h
        exact W.vret hx hb (hr.trans e2) (hq none (fun _ h => by cases h)) hS.2.2 hdg hlocks
      · cases h
    · cases h
  · cases h
theorem z_back {H0 : Heap} {rest : List Value} {st0 : List Value} {r1 : Option z_V} {M1 : z_M} {a : Array Value} (hr : va_Run p l e R s mm args below meth c H locs 0 0 0 0 (F0 mm pc Ls st0) rest (z_Q D cA ad r1 M1 a) (z_A ad)) (hS : va_S (z_A ad) H0 H locs)
    (kk : ∀ (H1 : Heap) (locs1 : List Loc), va_P D z_cl (z_ws ad cA M1) H1 → z_okM M1 → z_okS r1.toList → va_S (z_A ad) H0 H1 locs1 → W p l e R s mm args below meth c H1 locs1 0 0 Q (F0 mm (pc + 3) Ls ((r1.map (z_rv ad)).toList ++ rest))) : W p l e R s mm args below meth c H locs 0 0 Q (F0 mm pc Ls st0) := by
  intro T hT X
  obtain ⟨v, st₀, t, T', L, h0, X', hL, e1, e2, ⟨⟨hv, hu, hM1, hr1⟩, hz, hk⟩, st⟩ := hr T hT X
  cases hv
  rw [h0] at hz hk
  obtain ⟨t2, a1, b1⟩ := kk T'.heap (locs ++ L) (by rw [e1]; exact hu.1) hM1 hr1
    ⟨Nat.le_trans hS.1 (by rw [e1]; exact hz), fun q h1 h2 => by rw [e1, hk q (Nat.lt_of_lt_of_le h1 hS.1) h2]; exact hS.2.1 q h1 h2, fun q hq => by
      rcases List.mem_append.mp hq with h | h
      · exact hS.2.2 q h
      · exact hL q h⟩ T' rfl X'
  exact ⟨t2, st t2 a1, b1⟩
theorem z_callW {k : Nat} {as rest : List z_V} {mj : z_I} {r1 : Option z_V} {M1 : z_M} (hx : p.tables.exec = Jvm.exec) (hb : c.code = z_cd mi) (hml : c.maxLocals = z_ml' mi) (hown : s.vm.findClass (z_cn (z_own mi)) = some mm.cls) (hts : ∀ w ∈ z_G, w.before args s = true) (hK : va_K D z_cl (z_tys cA) s) (hN : z_Nok s)
    (hRf : R.frames = z_dp mi) (hRl : R.locals = 28 * z_dp mi) (hdg : decode (z_cd mi) pc = .ok (i, len)) (h : z_stC mi i len st = some (k, as, rest)) (hmj : z_mts[k]? = some mj)
    (hMet : Met l (z_y mj) (z_wd mj) (z_rm (z_dp mj)) (va_Pc (as.map (z_rv ad)) (z_U D cA ad M)) (z_Q D cA ad r1 M1) 0 0 (z_A ad))
    (hl : z_RL ad ls Ls (z_ml' mi)) (hP : va_P D z_cl (z_ws ad cA M) H) (hS : va_S (z_A ad) s.heap H locs)
    (kk : ∀ (H1 : Heap) (locs1 : List Loc), va_P D z_cl (z_ws ad cA M1) H1 → z_okM M1 → z_okS r1.toList → va_S (z_A ad) s.heap H1 locs1 → W p l e R s mm args below meth c H1 locs1 0 0 Q (F0 mm (pc + 3) Ls ((r1.toList ++ rest).map (z_rv ad)))) :
    W p l e R s mm args below meth c H locs 0 0 Q (F0 mm pc Ls (st.map (z_rv ad))) := by
  have kk' : ∀ (H1 : Heap) (locs1 : List Loc), va_P D z_cl (z_ws ad cA M1) H1 → z_okM M1 → z_okS r1.toList → va_S (z_A ad) s.heap H1 locs1 → W p l e R s mm args below meth c H1 locs1 0 0 Q (F0 mm (pc + 3) Ls ((r1.map (z_rv ad)).toList ++ rest.map (z_rv ad))) := fun H1 locs1 a1 a2 a3 a4 => by
    have := kk H1 locs1 a1 a2 a3 a4
    cases r1 <;> exact this
  obtain ⟨q1, q2, q3, q4, q5, q6, q7⟩ := z_mts_ok mj (List.mem_of_getElem? hmj)
  have hS' : CallFix p mm c (z_cd mi) (z_ml' mi) s args z_G (z_cn (z_own mi)) := ⟨hx, hb, hml, hown, hts⟩
  have hpre : ∀ U : State, U.heap = H → s.WarmedH U.vm → va_Pc (as.map (z_rv ad)) (z_U D cA ad M) (as.map (z_rv ad)).toArray U := fun U hU hW => ⟨rfl, z_U.warm hU hW hP hK hN⟩
  unfold z_stC at h
  split at h
  · rename_i ix
    split at h
    · rename_i k' hlk
      split at h
      · rename_i mj' hmj'
        split at h
        · rename_i e1
          obtain ⟨rfl, e2, e3, e4, e5⟩ := e1
          split at h
          · rename_i s' o r hdrop
            split at h
            · rename_i ci sl hkd
              split at h
              · rename_i e6
                obtain ⟨rfl, hlv, hr8⟩ := e6
                cases h
                cases hmj.symm.trans hmj'
                obtain ⟨mj2, hmj2, hlw⟩ := z_ml_ok _ (z_look _ _ _ hlk)
                cases hmj.symm.trans hmj2
                obtain ⟨C', T', N', hc', -⟩ := z_kd_at hkd
                have hC' := z_cn_cl _ _ _ _ hc'
                have he := z_ws_get ad cA M hlv
                rw [z_ce_obj hkd] at he
                have hin := (q7.2 e2).1
                have hse := (q7.2 e2).2
                have hG : GoodIn z_G (wsV (z_cn (z_own mi)) ix (z_y mj).cls (z_y mj) (z_wd mj)) := by
                  intro w hw
                  refine z_G_good w ?_
                  unfold wsV z_wd at hw
                  rcases List.mem_append.mp hw with hw | hw
                  · simp only [List.mem_cons, List.not_mem_nil, or_false] at hw
                    rcases hw with rfl | rfl | rfl | rfl
                    · exact hlw
                    · exact hin
                    · exact hse
                    · exact q4
                  · rcases List.mem_cons.mp hw with rfl | hw
                    · exact q3
                    · exact hw
                have hlen : (st.take (z_na mj)).length = z_na mj := by
                  rw [List.length_take]
                  have : (st.drop (z_na mj)).length = st.length - z_na mj := List.length_drop
                  rw [hdrop] at this
                  simp only [List.length_cons] at this
                  omega
                have hst : st = st.take (z_na mj) ++ .inr (some (s', o)) :: rest := by rw [← hdrop, List.take_append_drop]
                refine z_back (va_runV (As := (st.take (z_na mj)).reverse.map (z_rv ad)) (rest := rest.map (z_rv ad)) (b := ad (z_ix s' o)) hS' hMet
                  (cwV (z_na mj) hts hG rfl rfl rfl ⟨rfl, q5.1, q5.2, q6⟩ ⟨by rw [hRf]; show z_dp mj + 1 ≤ _; omega, by rw [hRl]; show 8 + (z_ml' mj + 11) + 28 * z_dp mj ≤ _; omega⟩)
                  ⟨z_blind, ?_, hpre⟩ rfl (by rw [List.length_map, List.length_reverse, hlen]) hl.1 ?_ (lv_room (by rw [z_rv_cats]; exact hr8)) hdg ⟨Nat.zero_le _, Nat.zero_le _⟩) hS kk'
                · have := va_recv hK hP hc' he
                  rw [q1, ← hC']
                  exact this
                · show st.map (z_rv ad) = _
                  rw [← List.map_reverse, List.reverse_reverse]
                  conv => lhs; rw [hst]
                  rw [List.map_append]
                  rfl
              · cases h
            · cases h
          · cases h
        · cases h
      · cases h
    · cases h
  · rename_i ix
    split at h
    · rename_i k' hlk
      split at h
      · rename_i mj' hmj'
        split at h
        · rename_i e1
          obtain ⟨rfl, e2, e3, e4, e5, e6, e7, e8⟩ := e1
          cases h
          cases hmj.symm.trans hmj'
          obtain ⟨mj2, hmj2, hlw⟩ := z_ml_ok _ (z_look _ _ _ hlk)
          cases hmj.symm.trans hmj2
          have hG : GoodIn z_G (wsS (z_cn (z_own mi)) ix (z_y mj) (z_wd mj)) := by
            intro w hw
            refine z_G_good w ?_
            unfold wsS z_wd at hw
            rcases List.mem_append.mp hw with hw | hw
            · simp only [List.mem_cons, List.not_mem_nil, or_false] at hw
              rcases hw with rfl | rfl | rfl
              · exact hlw
              · exact q7.1 e2
              · rw [← e3, ← q1]; exact q4
            · rcases List.mem_cons.mp hw with rfl | hw
              · exact q3
              · exact hw
          refine z_back (va_runS (As := (st.take (z_na mj)).reverse.map (z_rv ad)) (rest := (st.drop (z_na mj)).map (z_rv ad)) hS' hMet
            (cwS (z_na mj) hts hG rfl rfl rfl ⟨by rw [← e3]; exact q1, q5.1, q5.2, q6⟩ ⟨by rw [hRf]; show z_dp mj + 1 ≤ _; omega, by rw [hRl]; show 8 + (z_ml' mj + 11) + 28 * z_dp mj ≤ _; omega⟩)
            ⟨z_blind, hpre⟩ rfl (by rw [List.length_map, List.length_reverse, List.length_take]; omega) hl.1 ?_ (lv_room (by rw [z_rv_cats]; exact e8)) hdg ⟨Nat.zero_le _, Nat.zero_le _⟩) hS kk'
          show st.map (z_rv ad) = _
          rw [← List.map_reverse, List.reverse_reverse, ← List.map_append, List.take_append_drop]
        · cases h
      · cases h
    · split at h
      · rename_i k' host hlk
        split at h
        · rename_i mj' hmj'
          split at h
          · rename_i e1
            obtain ⟨rfl, e2, e4, e5, e6, e7, e8⟩ := e1
            cases h
            cases hmj.symm.trans hmj'
            have hnn := hN _ (z_look _ _ _ hlk)
            have hyk : z_yk k = z_y mj := by unfold z_yk; rw [hmj]
            unfold z_nw at hnn
            dsimp only at hnn
            rw [hyk] at hnn
            have hG : GoodIn z_G (z_wd mj) := by
              intro w hw
              refine z_G_good w ?_
              unfold z_wd at hw
              rcases List.mem_cons.mp hw with rfl | hw
              · exact q3
              · exact hw
            refine z_back (va_runSN (As := (st.take (z_na mj)).reverse.map (z_rv ad)) (rest := (st.drop (z_na mj)).map (z_rv ad)) hS' hMet
              ⟨va_cnB (z_na mj) hts hG rfl rfl rfl hnn (hts _ q4) ⟨q5.1, q5.2, q6⟩ ⟨by rw [hRf]; show z_dp mj + 1 ≤ _; omega, by rw [hRl]; show 8 + (z_ml' mj + 11) + 28 * z_dp mj ≤ _; omega⟩, hts _ (q7.1 e2), trivial⟩
              ⟨z_blind, hpre⟩ rfl (by rw [List.length_map, List.length_reverse, List.length_take]; omega) hl.1 ?_ (lv_room (by rw [z_rv_cats]; exact e8)) hdg ⟨Nat.zero_le _, Nat.zero_le _⟩) hS kk'
            show st.map (z_rv ad) = _
            rw [← List.map_reverse, List.reverse_reverse, ← List.map_append, List.take_append_drop]
          · cases h
        · cases h
      · cases h
  · cases h
/-- what a call asks of its arguments' number, and of the depth -/
theorem z_stC_len {k : Nat} {as rest : List z_V} (h : z_stC mi i len st = some (k, as, rest)) : ∃ mj, z_mts[k]? = some mj ∧ as.length ≤ z_ml' mj ∧ z_dp mj < z_dp mi ∧ ∀ v ∈ as ++ rest, v ∈ st := by
  unfold z_stC at h
  split at h
  · split at h
    · split at h
      · rename_i mj hmj
        split at h
        · rename_i e1
          split at h
          · rename_i s' o r hdrop
            split at h
            · split at h
              · cases h
                refine ⟨mj, hmj, ?_, e1.2.2.1, ?_⟩
                · simp only [List.length_cons, List.length_reverse, List.length_take]
                  omega
                · intro v hv
                  have hst : st = st.take (z_na mj) ++ .inr (some (s', o)) :: rest := by rw [← hdrop, List.take_append_drop]
                  rw [hst]
                  simp only [List.cons_append, List.mem_cons, List.mem_append, List.mem_reverse] at hv ⊢
                  rcases hv with h | h | h
                  · exact Or.inr (Or.inl h)
                  · exact Or.inl h
                  · exact Or.inr (Or.inr h)
              · cases h
            · cases h
          · cases h
        · cases h
      · cases h
    · cases h
  · split at h
    · split at h
      · rename_i mj hmj
        split at h
        · rename_i e1
          cases h
          refine ⟨mj, hmj, ?_, e1.2.2.2.1, ?_⟩
          · simp only [List.length_reverse, List.length_take]
            omega
          · intro v hv
            rw [← List.take_append_drop (z_na mj) st]
            simp only [List.mem_append, List.mem_reverse] at hv ⊢
            exact hv
        · cases h
      · cases h
    · split at h
      · split at h
        · rename_i mj hmj
          split at h
          · rename_i e1
            cases h
            refine ⟨mj, hmj, ?_, e1.2.2.1, ?_⟩
            · simp only [List.length_reverse, List.length_take]
              omega
            · intro v hv
              rw [← List.take_append_drop (z_na mj) st]
              simp only [List.mem_append, List.mem_reverse] at hv ⊢
              exact hv
          · cases h
        · cases h
      · cases h
  · cases h
end ZC
set_option maxHeartbeats 4000000 in
/-- what the machine over positions comes to, the JVM comes to -/
theorem z_sound (l : Launch) (D : va_G) (cA : Nat → ClassId) (ad : Nat → Nat) (had : z_inj ad) : ∀ (d k : Nat) (mi : z_I) (as : List z_V) (M : z_M) (n0 : Nat) (r : Option z_V) (M' : z_M), z_dp mi < d → z_mts[k]? = some mi → as.length ≤ z_ml' mi → z_okM M → z_okS as →
    z_run n0 k 0 (z_en k as) [] M = some (r, M') → Met l (z_y mi) (z_wd mi) (z_rm (z_dp mi)) (va_Pc (as.map (z_rv ad)) (z_U D cA ad M)) (z_Q D cA ad r M') 0 0 (z_A ad) := by
  intro d
  induction d with
  | zero => intro k mi as M n0 r M' hd; exact absurd hd (Nat.not_lt_zero _)
  | succ d ihd =>
    intro k mi as M n0 r M' hd hmi hlen hM has hrun
    obtain ⟨q1, q2, q3, q4, q5, q6, q7⟩ := z_mts_ok mi (List.mem_of_getElem? hmi)
    refine Met.ofW (cc := z_cd mi) (maxL := z_ml' mi) (ret := z_rt mi) q2 rfl ?_
    intro p e s mm args below meth c s₁ B hml hv
    obtain ⟨rfl, hP, hK, hN⟩ := hv
    have hx := B.exec
    have hb := B.bytes
    have hr := B.returns
    have hts0 := atoms_spec (ws := z_wd mi) B.pre
    have hts : ∀ w ∈ z_G, w.before (as.map (z_rv ad)).toArray s = true := fun w hw => hts0 w (List.mem_cons_of_mem _ hw)
    have hown : s.vm.findClass (z_cn (z_own mi)) = some mm.cls := by rw [← q1]; exact findClass_of_methodNamed B.named
    have hlocks := B.notSynchronized
    rw [lg_entry_eq]
    have hen : z_en k as = as.map some ++ List.replicate (z_ml' mi - as.length) none := by unfold z_en; rw [hmi]
    rw [hen] at hrun
    have hl := z_RL_entry (ad := ad) hlen
    have hlo : z_okL (as.map some ++ List.replicate (z_ml' mi - as.length) none) := by
      intro j v hj
      have hmem := List.mem_of_getElem? hj
      rcases List.mem_append.mp hmem with h | h
      · obtain ⟨u, hu, e⟩ := List.mem_map.mp h
        cases e
        exact has _ hu
      · have := List.eq_of_mem_replicate h
        cases this
    have hS : va_S (z_A ad) s.heap s.heap [] := va_S.rf
    have main : ∀ (n pc : Nat) (ls : z_L) (st : List z_V) (M : z_M) (Ls : Array Slot) (H : Heap) (locs : List Loc), z_okL ls → z_okS st → z_okM M → z_RL ad ls Ls (z_ml' mi) → va_P D z_cl (z_ws ad cA M) H → va_S (z_A ad) s.heap H locs → z_run n k pc ls st M = some (r, M') →
        W p l e (headSpec (z_wd mi) (z_rm (z_dp mi))).room s mm (as.map (z_rv ad)).toArray below meth c H locs 0 0 (MQ below (z_Q D cA ad r M') (as.map (z_rv ad)).toArray s 0 0 (z_A ad)) (F0 mm pc Ls (st.map (z_rv ad))) := by
      intro n
      induction n with
      | zero => intro pc ls st M Ls H locs _ _ _ _ _ _ h; cases h
      | succ n ih =>
        intro pc ls st M Ls H locs hlo hso hM hl hP hS hrun
        unfold z_run at hrun
        split at hrun
        · cases hrun
        · rename_i pc' ls' st' M2 hstp
          unfold z_stp at hstp
          rw [hmi] at hstp
          dsimp only at hstp
          split at hstp
          · rename_i q hdg
            split at hstp
            · rename_i n' hI
              cases hstp
              exact z_next hx hb hml hown hts hK had rfl rfl hdg hI hlo hso hM hl hP hS fun Ls' H' locs' a1 a2 a3 a4 a5 a6 => ih _ _ _ _ Ls' H' locs' a1 a2 a3 a4 a5 a6 hrun
            · split at hstp
              · cases hstp
              · rw [Option.map_eq_some_iff] at hstp
                obtain ⟨x, -, hx2⟩ := hstp
                cases hx2
          · cases hstp
        · rename_i q hstp
          cases hrun
          unfold z_stp at hstp
          rw [hmi] at hstp
          dsimp only at hstp
          split at hstp
          · rename_i q hdg
            split at hstp
            · cases hstp
            · split at hstp
              · rename_i r' hR
                cases hstp
                exact z_ret hx hb hr hlocks hK hN hdg hR hso hM hP hS
              · rw [Option.map_eq_some_iff] at hstp
                obtain ⟨x, -, hx2⟩ := hstp
                cases hx2
          · cases hstp
        · rename_i k2 as2 rest hstp
          unfold z_stp at hstp
          rw [hmi] at hstp
          dsimp only at hstp
          split at hstp
          · rename_i q hdg
            split at hstp
            · cases hstp
            · split at hstp
              · cases hstp
              · rw [Option.map_eq_some_iff] at hstp
                obtain ⟨x, hC, hx2⟩ := hstp
                cases hx2
                obtain ⟨mj, hmj, hlen2, hdp2, hsub⟩ := z_stC_len hC
                have has2 : z_okS as2 := fun v hv => hso v (hsub v (List.mem_append_left _ hv))
                have hrest : z_okS rest := fun v hv => hso v (hsub v (List.mem_append_right _ hv))
                split at hrun
                · cases hrun
                · rename_i q2 hr2
                  obtain ⟨r1, M1⟩ := q2
                  have hMet := ihd k2 mj as2 M n r1 M1 (by omega) hmj hlen2 hM has2 hr2
                  refine z_callW hx hb hml hown hts hK hN rfl rfl hdg hC hmj hMet hl hP hS fun H1 locs1 a1 a2 a3 a4 => ?_
                  refine ih _ _ _ _ Ls H1 locs1 hlo ?_ a2 hl a1 a4 hrun
                  intro v hv
                  rcases List.mem_append.mp hv with h | h
                  · exact a3 v h
                  · exact hrest v h
          · cases hstp
    exact main n0 0 _ [] M _ s.heap [] hlo (fun _ h => by cases h) hM hl hP hS hrun
end
