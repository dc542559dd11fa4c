-- ===== PART A: goes FIRST, ahead of the names: the tables' words, and 'selects' of the private methods out of them =====
/-- a private method of a class that the tables say can be made, by its rows of tables_1 -/
def lw_okq (q : MethodName × Nat) : Prop := (q.1.cls ≠ "java/lang/invoke/MethodHandle" ∧ q.1.cls ≠ "java/lang/invoke/VarHandle") ∧ Cond.instantiable q.1.cls q.2 ∈ tables_1 ∧ Cond.privateMethod q.1 ∈ tables_1 ∧ Cond.instanceMethod q.1 ∈ tables_1
theorem lw_p0 : lw_okq (⟨"BalloonsMoor$Tower", "readLines", "(LBalloonsMoor$Told;)I"⟩, 7) := ⟨⟨by decide +kernel, by decide +kernel⟩, List.mem_of_getElem? (i := 56) (by decide +kernel), List.mem_of_getElem? (i := 480) (by decide +kernel), List.mem_of_getElem? (i := 481) (by decide +kernel)⟩
theorem lw_p1 : lw_okq (⟨"BalloonsMoor$Tower", "compare", "()V"⟩, 7) := ⟨⟨by decide +kernel, by decide +kernel⟩, List.mem_of_getElem? (i := 56) (by decide +kernel), List.mem_of_getElem? (i := 492) (by decide +kernel), List.mem_of_getElem? (i := 493) (by decide +kernel)⟩
theorem lw_p2 : lw_okq (⟨"BalloonsMoor$Flock", "readLines", "(LBalloonsMoor$Told;)I"⟩, 19) := ⟨⟨by decide +kernel, by decide +kernel⟩, List.mem_of_getElem? (i := 142) (by decide +kernel), List.mem_of_getElem? (i := 525) (by decide +kernel), List.mem_of_getElem? (i := 526) (by decide +kernel)⟩
theorem lw_p3 : lw_okq (⟨"BalloonsMoor$Flock", "readLine", "(LBalloonsMoor$Told;I)Z"⟩, 19) := ⟨⟨by decide +kernel, by decide +kernel⟩, List.mem_of_getElem? (i := 142) (by decide +kernel), List.mem_of_getElem? (i := 529) (by decide +kernel), List.mem_of_getElem? (i := 530) (by decide +kernel)⟩
theorem lw_p4 : lw_okq (⟨"BalloonsMoor$Winds", "readOne", "(LBalloonsMoor$Told;I)Z"⟩, 5) := ⟨⟨by decide +kernel, by decide +kernel⟩, List.mem_of_getElem? (i := 89) (by decide +kernel), List.mem_of_getElem? (i := 553) (by decide +kernel), List.mem_of_getElem? (i := 554) (by decide +kernel)⟩
theorem lw_p5 : lw_okq (⟨"BalloonsMoor$Winds", "put", "(III)V"⟩, 5) := ⟨⟨by decide +kernel, by decide +kernel⟩, List.mem_of_getElem? (i := 89) (by decide +kernel), List.mem_of_getElem? (i := 559) (by decide +kernel), List.mem_of_getElem? (i := 560) (by decide +kernel)⟩
theorem lw_p6 : lw_okq (⟨"BalloonsMoor$Rule", "readCompared", "(LBalloonsMoor$Told;I)Z"⟩, 5) := ⟨⟨by decide +kernel, by decide +kernel⟩, List.mem_of_getElem? (i := 120) (by decide +kernel), List.mem_of_getElem? (i := 580) (by decide +kernel), List.mem_of_getElem? (i := 581) (by decide +kernel)⟩
theorem lw_p7 : lw_okq (⟨"BalloonsMoor$Rule", "readSum", "(LBalloonsMoor$Told;I)Z"⟩, 5) := ⟨⟨by decide +kernel, by decide +kernel⟩, List.mem_of_getElem? (i := 120) (by decide +kernel), List.mem_of_getElem? (i := 584) (by decide +kernel), List.mem_of_getElem? (i := 585) (by decide +kernel)⟩
theorem lw_p8 : lw_okq (⟨"BalloonsMoor$Rule", "readProduct", "(LBalloonsMoor$Told;I)Z"⟩, 5) := ⟨⟨by decide +kernel, by decide +kernel⟩, List.mem_of_getElem? (i := 120) (by decide +kernel), List.mem_of_getElem? (i := 588) (by decide +kernel), List.mem_of_getElem? (i := 589) (by decide +kernel)⟩
theorem lw_p9 : lw_okq (⟨"BalloonsMoor$Rule", "readSigned", "(LBalloonsMoor$Told;I)Z"⟩, 5) := ⟨⟨by decide +kernel, by decide +kernel⟩, List.mem_of_getElem? (i := 120) (by decide +kernel), List.mem_of_getElem? (i := 592) (by decide +kernel), List.mem_of_getElem? (i := 593) (by decide +kernel)⟩
theorem lw_p10 : lw_okq (⟨"BalloonsMoor$Rule", "readThing", "(LBalloonsMoor$Told;I)Z"⟩, 5) := ⟨⟨by decide +kernel, by decide +kernel⟩, List.mem_of_getElem? (i := 120) (by decide +kernel), List.mem_of_getElem? (i := 597) (by decide +kernel), List.mem_of_getElem? (i := 598) (by decide +kernel)⟩
theorem lw_p11 : lw_okq (⟨"BalloonsMoor$Rule", "write", "(I)V"⟩, 5) := ⟨⟨by decide +kernel, by decide +kernel⟩, List.mem_of_getElem? (i := 120) (by decide +kernel), List.mem_of_getElem? (i := 603) (by decide +kernel), List.mem_of_getElem? (i := 604) (by decide +kernel)⟩
theorem lw_p12 : lw_okq (⟨"BalloonsMoor", "remembered", "(I)I"⟩, 12) := ⟨⟨by decide +kernel, by decide +kernel⟩, List.mem_of_getElem? (i := 27) (by decide +kernel), List.mem_of_getElem? (i := 677) (by decide +kernel), List.mem_of_getElem? (i := 678) (by decide +kernel)⟩
theorem lw_p13 : lw_okq (⟨"BalloonsMoor", "tie", "(II)I"⟩, 12) := ⟨⟨by decide +kernel, by decide +kernel⟩, List.mem_of_getElem? (i := 27) (by decide +kernel), List.mem_of_getElem? (i := 690) (by decide +kernel), List.mem_of_getElem? (i := 691) (by decide +kernel)⟩
theorem lw_p14 : lw_okq (⟨"BalloonsMoor", "load", "(II)I"⟩, 12) := ⟨⟨by decide +kernel, by decide +kernel⟩, List.mem_of_getElem? (i := 27) (by decide +kernel), List.mem_of_getElem? (i := 721) (by decide +kernel), List.mem_of_getElem? (i := 722) (by decide +kernel)⟩
theorem lw_p15 : lw_okq (⟨"BalloonsMoor$Flock", "driftAll", "()V"⟩, 19) := ⟨⟨by decide +kernel, by decide +kernel⟩, List.mem_of_getElem? (i := 142) (by decide +kernel), List.mem_of_getElem? (i := 745) (by decide +kernel), List.mem_of_getElem? (i := 746) (by decide +kernel)⟩
def lw_privs_1 : List (MethodName × Nat) := [(⟨"BalloonsMoor$Tower", "readLines", "(LBalloonsMoor$Told;)I"⟩, 7), (⟨"BalloonsMoor$Tower", "compare", "()V"⟩, 7), (⟨"BalloonsMoor$Flock", "readLines", "(LBalloonsMoor$Told;)I"⟩, 19), (⟨"BalloonsMoor$Flock", "readLine", "(LBalloonsMoor$Told;I)Z"⟩, 19), (⟨"BalloonsMoor$Winds", "readOne", "(LBalloonsMoor$Told;I)Z"⟩, 5), (⟨"BalloonsMoor$Winds", "put", "(III)V"⟩, 5), (⟨"BalloonsMoor$Rule", "readCompared", "(LBalloonsMoor$Told;I)Z"⟩, 5), (⟨"BalloonsMoor$Rule", "readSum", "(LBalloonsMoor$Told;I)Z"⟩, 5), (⟨"BalloonsMoor$Rule", "readProduct", "(LBalloonsMoor$Told;I)Z"⟩, 5), (⟨"BalloonsMoor$Rule", "readSigned", "(LBalloonsMoor$Told;I)Z"⟩, 5), (⟨"BalloonsMoor$Rule", "readThing", "(LBalloonsMoor$Told;I)Z"⟩, 5), (⟨"BalloonsMoor$Rule", "write", "(I)V"⟩, 5), (⟨"BalloonsMoor", "remembered", "(I)I"⟩, 12), (⟨"BalloonsMoor", "tie", "(II)I"⟩, 12), (⟨"BalloonsMoor", "load", "(II)I"⟩, 12), (⟨"BalloonsMoor$Flock", "driftAll", "()V"⟩, 19)]
theorem lw_r1 : ∀ q ∈ lw_privs_1, lw_okq q := List.forall_mem_cons.mpr ⟨lw_p0, List.forall_mem_cons.mpr ⟨lw_p1, List.forall_mem_cons.mpr ⟨lw_p2, List.forall_mem_cons.mpr ⟨lw_p3, List.forall_mem_cons.mpr ⟨lw_p4, List.forall_mem_cons.mpr ⟨lw_p5, List.forall_mem_cons.mpr ⟨lw_p6, List.forall_mem_cons.mpr ⟨lw_p7, List.forall_mem_cons.mpr ⟨lw_p8, List.forall_mem_cons.mpr ⟨lw_p9, List.forall_mem_cons.mpr ⟨lw_p10, List.forall_mem_cons.mpr ⟨lw_p11, List.forall_mem_cons.mpr ⟨lw_p12, List.forall_mem_cons.mpr ⟨lw_p13, List.forall_mem_cons.mpr ⟨lw_p14, List.forall_mem_cons.mpr ⟨lw_p15, fun _ h => absurd h List.not_mem_nil⟩⟩⟩⟩⟩⟩⟩⟩⟩⟩⟩⟩⟩⟩⟩⟩
theorem lw_p16 : lw_okq (⟨"BalloonsMoor$Flock", "lose", "(I)V"⟩, 19) := ⟨⟨by decide +kernel, by decide +kernel⟩, List.mem_of_getElem? (i := 142) (by decide +kernel), List.mem_of_getElem? (i := 754) (by decide +kernel), List.mem_of_getElem? (i := 755) (by decide +kernel)⟩
theorem lw_p17 : lw_okq (⟨"BalloonsMoor$Flock", "leakAll", "()V"⟩, 19) := ⟨⟨by decide +kernel, by decide +kernel⟩, List.mem_of_getElem? (i := 142) (by decide +kernel), List.mem_of_getElem? (i := 758) (by decide +kernel), List.mem_of_getElem? (i := 759) (by decide +kernel)⟩
theorem lw_p18 : lw_okq (⟨"BalloonsMoor$Flock", "tearAll", "()V"⟩, 19) := ⟨⟨by decide +kernel, by decide +kernel⟩, List.mem_of_getElem? (i := 142) (by decide +kernel), List.mem_of_getElem? (i := 767) (by decide +kernel), List.mem_of_getElem? (i := 768) (by decide +kernel)⟩
theorem lw_p19 : lw_okq (⟨"BalloonsMoor$Flock", "areMoored", "(II)Z"⟩, 19) := ⟨⟨by decide +kernel, by decide +kernel⟩, List.mem_of_getElem? (i := 142) (by decide +kernel), List.mem_of_getElem? (i := 775) (by decide +kernel), List.mem_of_getElem? (i := 776) (by decide +kernel)⟩
theorem lw_p20 : lw_okq (⟨"BalloonsMoor$Flock", "sinkAll", "()V"⟩, 19) := ⟨⟨by decide +kernel, by decide +kernel⟩, List.mem_of_getElem? (i := 142) (by decide +kernel), List.mem_of_getElem? (i := 784) (by decide +kernel), List.mem_of_getElem? (i := 785) (by decide +kernel)⟩
theorem lw_p21 : lw_okq (⟨"BalloonsMoor", "tell", "(JJ)V"⟩, 12) := ⟨⟨by decide +kernel, by decide +kernel⟩, List.mem_of_getElem? (i := 27) (by decide +kernel), List.mem_of_getElem? (i := 789) (by decide +kernel), List.mem_of_getElem? (i := 790) (by decide +kernel)⟩
theorem lw_p22 : lw_okq (⟨"BalloonsMoor$Acts", "readOne", "(LBalloonsMoor$Told;I)Z"⟩, 4) := ⟨⟨by decide +kernel, by decide +kernel⟩, List.mem_of_getElem? (i := 313) (by decide +kernel), List.mem_of_getElem? (i := 806) (by decide +kernel), List.mem_of_getElem? (i := 807) (by decide +kernel)⟩
theorem lw_p23 : lw_okq (⟨"BalloonsMoor$Acts", "readFirst", "(LBalloonsMoor$Told;I)Z"⟩, 4) := ⟨⟨by decide +kernel, by decide +kernel⟩, List.mem_of_getElem? (i := 313) (by decide +kernel), List.mem_of_getElem? (i := 812) (by decide +kernel), List.mem_of_getElem? (i := 813) (by decide +kernel)⟩
theorem lw_p24 : lw_okq (⟨"BalloonsMoor$Acts", "readSecond", "(LBalloonsMoor$Told;I)Z"⟩, 4) := ⟨⟨by decide +kernel, by decide +kernel⟩, List.mem_of_getElem? (i := 313) (by decide +kernel), List.mem_of_getElem? (i := 817) (by decide +kernel), List.mem_of_getElem? (i := 818) (by decide +kernel)⟩
theorem lw_p25 : lw_okq (⟨"BalloonsMoor$Acts", "readChange", "(LBalloonsMoor$Told;I)Z"⟩, 4) := ⟨⟨by decide +kernel, by decide +kernel⟩, List.mem_of_getElem? (i := 313) (by decide +kernel), List.mem_of_getElem? (i := 821) (by decide +kernel), List.mem_of_getElem? (i := 822) (by decide +kernel)⟩
theorem lw_p26 : lw_okq (⟨"BalloonsMoor", "carryOut", "(I)I"⟩, 12) := ⟨⟨by decide +kernel, by decide +kernel⟩, List.mem_of_getElem? (i := 27) (by decide +kernel), List.mem_of_getElem? (i := 837) (by decide +kernel), List.mem_of_getElem? (i := 838) (by decide +kernel)⟩
theorem lw_p27 : lw_okq (⟨"BalloonsMoor", "tellFirst", "(III)V"⟩, 12) := ⟨⟨by decide +kernel, by decide +kernel⟩, List.mem_of_getElem? (i := 27) (by decide +kernel), List.mem_of_getElem? (i := 858) (by decide +kernel), List.mem_of_getElem? (i := 859) (by decide +kernel)⟩
theorem lw_p28 : lw_okq (⟨"BalloonsMoor$Berths", "waysFrom", "(IZ)I"⟩, 7) := ⟨⟨by decide +kernel, by decide +kernel⟩, List.mem_of_getElem? (i := 336) (by decide +kernel), List.mem_of_getElem? (i := 921) (by decide +kernel), List.mem_of_getElem? (i := 922) (by decide +kernel)⟩
theorem lw_p29 : lw_okq (⟨"BalloonsMoor$Berths", "openTo", "(I)I"⟩, 7) := ⟨⟨by decide +kernel, by decide +kernel⟩, List.mem_of_getElem? (i := 336) (by decide +kernel), List.mem_of_getElem? (i := 926) (by decide +kernel), List.mem_of_getElem? (i := 927) (by decide +kernel)⟩
theorem lw_p30 : lw_okq (⟨"BalloonsMoor$Berths", "waysWith", "(IIZ)I"⟩, 7) := ⟨⟨by decide +kernel, by decide +kernel⟩, List.mem_of_getElem? (i := 336) (by decide +kernel), List.mem_of_getElem? (i := 935) (by decide +kernel), List.mem_of_getElem? (i := 936) (by decide +kernel)⟩
theorem lw_p31 : lw_okq (⟨"BalloonsMoor$Landing", "explore", "(IIII)V"⟩, 12) := ⟨⟨by decide +kernel, by decide +kernel⟩, List.mem_of_getElem? (i := 366) (by decide +kernel), List.mem_of_getElem? (i := 967) (by decide +kernel), List.mem_of_getElem? (i := 968) (by decide +kernel)⟩
def lw_privs_2 : List (MethodName × Nat) := [(⟨"BalloonsMoor$Flock", "lose", "(I)V"⟩, 19), (⟨"BalloonsMoor$Flock", "leakAll", "()V"⟩, 19), (⟨"BalloonsMoor$Flock", "tearAll", "()V"⟩, 19), (⟨"BalloonsMoor$Flock", "areMoored", "(II)Z"⟩, 19), (⟨"BalloonsMoor$Flock", "sinkAll", "()V"⟩, 19), (⟨"BalloonsMoor", "tell", "(JJ)V"⟩, 12), (⟨"BalloonsMoor$Acts", "readOne", "(LBalloonsMoor$Told;I)Z"⟩, 4), (⟨"BalloonsMoor$Acts", "readFirst", "(LBalloonsMoor$Told;I)Z"⟩, 4), (⟨"BalloonsMoor$Acts", "readSecond", "(LBalloonsMoor$Told;I)Z"⟩, 4), (⟨"BalloonsMoor$Acts", "readChange", "(LBalloonsMoor$Told;I)Z"⟩, 4), (⟨"BalloonsMoor", "carryOut", "(I)I"⟩, 12), (⟨"BalloonsMoor", "tellFirst", "(III)V"⟩, 12), (⟨"BalloonsMoor$Berths", "waysFrom", "(IZ)I"⟩, 7), (⟨"BalloonsMoor$Berths", "openTo", "(I)I"⟩, 7), (⟨"BalloonsMoor$Berths", "waysWith", "(IIZ)I"⟩, 7), (⟨"BalloonsMoor$Landing", "explore", "(IIII)V"⟩, 12)]
theorem lw_r2 : ∀ q ∈ lw_privs_2, lw_okq q := List.forall_mem_cons.mpr ⟨lw_p16, List.forall_mem_cons.mpr ⟨lw_p17, List.forall_mem_cons.mpr ⟨lw_p18, List.forall_mem_cons.mpr ⟨lw_p19, List.forall_mem_cons.mpr ⟨lw_p20, List.forall_mem_cons.mpr ⟨lw_p21, List.forall_mem_cons.mpr ⟨lw_p22, List.forall_mem_cons.mpr ⟨lw_p23, List.forall_mem_cons.mpr ⟨lw_p24, List.forall_mem_cons.mpr ⟨lw_p25, List.forall_mem_cons.mpr ⟨lw_p26, List.forall_mem_cons.mpr ⟨lw_p27, List.forall_mem_cons.mpr ⟨lw_p28, List.forall_mem_cons.mpr ⟨lw_p29, List.forall_mem_cons.mpr ⟨lw_p30, List.forall_mem_cons.mpr ⟨lw_p31, fun _ h => absurd h List.not_mem_nil⟩⟩⟩⟩⟩⟩⟩⟩⟩⟩⟩⟩⟩⟩⟩⟩
theorem lw_p32 : lw_okq (⟨"BalloonsMoor$Landing", "wasSeen", "(IIII)Z"⟩, 12) := ⟨⟨by decide +kernel, by decide +kernel⟩, List.mem_of_getElem? (i := 366) (by decide +kernel), List.mem_of_getElem? (i := 972) (by decide +kernel), List.mem_of_getElem? (i := 973) (by decide +kernel)⟩
theorem lw_p33 : lw_okq (⟨"BalloonsMoor$Landing", "exploreHour", "(IIII)V"⟩, 12) := ⟨⟨by decide +kernel, by decide +kernel⟩, List.mem_of_getElem? (i := 366) (by decide +kernel), List.mem_of_getElem? (i := 977) (by decide +kernel), List.mem_of_getElem? (i := 978) (by decide +kernel)⟩
theorem lw_p34 : lw_okq (⟨"BalloonsMoor$Landing", "canBeNear", "(II)Z"⟩, 12) := ⟨⟨by decide +kernel, by decide +kernel⟩, List.mem_of_getElem? (i := 366) (by decide +kernel), List.mem_of_getElem? (i := 986) (by decide +kernel), List.mem_of_getElem? (i := 987) (by decide +kernel)⟩
theorem lw_p35 : lw_okq (⟨"BalloonsMoor$Landing", "retraceFrom", "(IIII)Z"⟩, 12) := ⟨⟨by decide +kernel, by decide +kernel⟩, List.mem_of_getElem? (i := 366) (by decide +kernel), List.mem_of_getElem? (i := 994) (by decide +kernel), List.mem_of_getElem? (i := 995) (by decide +kernel)⟩
theorem lw_p36 : lw_okq (⟨"BalloonsMoor$Landing", "retraceHour", "(IIII)Z"⟩, 12) := ⟨⟨by decide +kernel, by decide +kernel⟩, List.mem_of_getElem? (i := 366) (by decide +kernel), List.mem_of_getElem? (i := 998) (by decide +kernel), List.mem_of_getElem? (i := 999) (by decide +kernel)⟩
theorem lw_p37 : lw_okq (⟨"BalloonsMoor", "savable", "(II)I"⟩, 12) := ⟨⟨by decide +kernel, by decide +kernel⟩, List.mem_of_getElem? (i := 27) (by decide +kernel), List.mem_of_getElem? (i := 1014) (by decide +kernel), List.mem_of_getElem? (i := 1015) (by decide +kernel)⟩
theorem lw_p38 : lw_okq (⟨"BalloonsMoor", "withRope", "(II)I"⟩, 12) := ⟨⟨by decide +kernel, by decide +kernel⟩, List.mem_of_getElem? (i := 27) (by decide +kernel), List.mem_of_getElem? (i := 1018) (by decide +kernel), List.mem_of_getElem? (i := 1019) (by decide +kernel)⟩
theorem lw_p39 : lw_okq (⟨"BalloonsMoor", "firstDown", "(III)I"⟩, 12) := ⟨⟨by decide +kernel, by decide +kernel⟩, List.mem_of_getElem? (i := 27) (by decide +kernel), List.mem_of_getElem? (i := 1022) (by decide +kernel), List.mem_of_getElem? (i := 1023) (by decide +kernel)⟩
theorem lw_p40 : lw_okq (⟨"BalloonsMoor$Marks", "allows", "(ILBalloonsMoor$Flock;I)Z"⟩, 11) := ⟨⟨by decide +kernel, by decide +kernel⟩, List.mem_of_getElem? (i := 268) (by decide +kernel), List.mem_of_getElem? (i := 1056) (by decide +kernel), List.mem_of_getElem? (i := 1057) (by decide +kernel)⟩
theorem lw_p41 : lw_okq (⟨"BalloonsMoor$Marks", "isSeen", "(I)Z"⟩, 11) := ⟨⟨by decide +kernel, by decide +kernel⟩, List.mem_of_getElem? (i := 268) (by decide +kernel), List.mem_of_getElem? (i := 1069) (by decide +kernel), List.mem_of_getElem? (i := 1070) (by decide +kernel)⟩
theorem lw_p42 : lw_okq (⟨"BalloonsMoor$Marks", "goFrom", "(II)V"⟩, 11) := ⟨⟨by decide +kernel, by decide +kernel⟩, List.mem_of_getElem? (i := 268) (by decide +kernel), List.mem_of_getElem? (i := 1074) (by decide +kernel), List.mem_of_getElem? (i := 1075) (by decide +kernel)⟩
theorem lw_p43 : lw_okq (⟨"BalloonsMoor$Marks", "noteWay", "()V"⟩, 11) := ⟨⟨by decide +kernel, by decide +kernel⟩, List.mem_of_getElem? (i := 268) (by decide +kernel), List.mem_of_getElem? (i := 1078) (by decide +kernel), List.mem_of_getElem? (i := 1079) (by decide +kernel)⟩
theorem lw_p44 : lw_okq (⟨"BalloonsMoor$Marks", "goWith", "(III)V"⟩, 11) := ⟨⟨by decide +kernel, by decide +kernel⟩, List.mem_of_getElem? (i := 268) (by decide +kernel), List.mem_of_getElem? (i := 1082) (by decide +kernel), List.mem_of_getElem? (i := 1083) (by decide +kernel)⟩
theorem lw_p45 : lw_okq (⟨"BalloonsMoor", "likely", "(IIII)J"⟩, 12) := ⟨⟨by decide +kernel, by decide +kernel⟩, List.mem_of_getElem? (i := 27) (by decide +kernel), List.mem_of_getElem? (i := 1098) (by decide +kernel), List.mem_of_getElem? (i := 1099) (by decide +kernel)⟩
theorem lw_p46 : lw_okq (⟨"BalloonsMoor", "tellFraction", "(JJ)V"⟩, 12) := ⟨⟨by decide +kernel, by decide +kernel⟩, List.mem_of_getElem? (i := 27) (by decide +kernel), List.mem_of_getElem? (i := 1109) (by decide +kernel), List.mem_of_getElem? (i := 1110) (by decide +kernel)⟩
theorem lw_p47 : lw_okq (⟨"java/lang/Throwable", "fillInStackTrace", "(I)Ljava/lang/Throwable;"⟩, 6) := ⟨⟨by decide +kernel, by decide +kernel⟩, List.mem_of_getElem? (i := 1193) (by decide +kernel), List.mem_of_getElem? (i := 1191) (by decide +kernel), List.mem_of_getElem? (i := 1192) (by decide +kernel)⟩
def lw_privs_3 : List (MethodName × Nat) := [(⟨"BalloonsMoor$Landing", "wasSeen", "(IIII)Z"⟩, 12), (⟨"BalloonsMoor$Landing", "exploreHour", "(IIII)V"⟩, 12), (⟨"BalloonsMoor$Landing", "canBeNear", "(II)Z"⟩, 12), (⟨"BalloonsMoor$Landing", "retraceFrom", "(IIII)Z"⟩, 12), (⟨"BalloonsMoor$Landing", "retraceHour", "(IIII)Z"⟩, 12), (⟨"BalloonsMoor", "savable", "(II)I"⟩, 12), (⟨"BalloonsMoor", "withRope", "(II)I"⟩, 12), (⟨"BalloonsMoor", "firstDown", "(III)I"⟩, 12), (⟨"BalloonsMoor$Marks", "allows", "(ILBalloonsMoor$Flock;I)Z"⟩, 11), (⟨"BalloonsMoor$Marks", "isSeen", "(I)Z"⟩, 11), (⟨"BalloonsMoor$Marks", "goFrom", "(II)V"⟩, 11), (⟨"BalloonsMoor$Marks", "noteWay", "()V"⟩, 11), (⟨"BalloonsMoor$Marks", "goWith", "(III)V"⟩, 11), (⟨"BalloonsMoor", "likely", "(IIII)J"⟩, 12), (⟨"BalloonsMoor", "tellFraction", "(JJ)V"⟩, 12), (⟨"java/lang/Throwable", "fillInStackTrace", "(I)Ljava/lang/Throwable;"⟩, 6)]
theorem lw_r3 : ∀ q ∈ lw_privs_3, lw_okq q := List.forall_mem_cons.mpr ⟨lw_p32, List.forall_mem_cons.mpr ⟨lw_p33, List.forall_mem_cons.mpr ⟨lw_p34, List.forall_mem_cons.mpr ⟨lw_p35, List.forall_mem_cons.mpr ⟨lw_p36, List.forall_mem_cons.mpr ⟨lw_p37, List.forall_mem_cons.mpr ⟨lw_p38, List.forall_mem_cons.mpr ⟨lw_p39, List.forall_mem_cons.mpr ⟨lw_p40, List.forall_mem_cons.mpr ⟨lw_p41, List.forall_mem_cons.mpr ⟨lw_p42, List.forall_mem_cons.mpr ⟨lw_p43, List.forall_mem_cons.mpr ⟨lw_p44, List.forall_mem_cons.mpr ⟨lw_p45, List.forall_mem_cons.mpr ⟨lw_p46, List.forall_mem_cons.mpr ⟨lw_p47, fun _ h => absurd h List.not_mem_nil⟩⟩⟩⟩⟩⟩⟩⟩⟩⟩⟩⟩⟩⟩⟩⟩
theorem lw_p48 : lw_okq (⟨"BalloonsMoorModel", "begins", "(I)I"⟩, 63) := ⟨⟨by decide +kernel, by decide +kernel⟩, List.mem_of_getElem? (i := 1239) (by decide +kernel), List.mem_of_getElem? (i := 1454) (by decide +kernel), List.mem_of_getElem? (i := 1455) (by decide +kernel)⟩
theorem lw_p49 : lw_okq (⟨"BalloonsMoorModel", "readsRing", "()Z"⟩, 63) := ⟨⟨by decide +kernel, by decide +kernel⟩, List.mem_of_getElem? (i := 1239) (by decide +kernel), List.mem_of_getElem? (i := 1459) (by decide +kernel), List.mem_of_getElem? (i := 1460) (by decide +kernel)⟩
theorem lw_p50 : lw_okq (⟨"BalloonsMoorModel", "number", "(I)I"⟩, 63) := ⟨⟨by decide +kernel, by decide +kernel⟩, List.mem_of_getElem? (i := 1239) (by decide +kernel), List.mem_of_getElem? (i := 1463) (by decide +kernel), List.mem_of_getElem? (i := 1464) (by decide +kernel)⟩
theorem lw_p51 : lw_okq (⟨"BalloonsMoorModel", "isDigit", "()Z"⟩, 63) := ⟨⟨by decide +kernel, by decide +kernel⟩, List.mem_of_getElem? (i := 1239) (by decide +kernel), List.mem_of_getElem? (i := 1467) (by decide +kernel), List.mem_of_getElem? (i := 1468) (by decide +kernel)⟩
theorem lw_p52 : lw_okq (⟨"BalloonsMoorModel", "takesOf", "(Ljava/lang/String;)I"⟩, 63) := ⟨⟨by decide +kernel, by decide +kernel⟩, List.mem_of_getElem? (i := 1239) (by decide +kernel), List.mem_of_getElem? (i := 1474) (by decide +kernel), List.mem_of_getElem? (i := 1475) (by decide +kernel)⟩
theorem lw_p53 : lw_okq (⟨"BalloonsMoorModel", "among", "(Ljava/lang/String;)I"⟩, 63) := ⟨⟨by decide +kernel, by decide +kernel⟩, List.mem_of_getElem? (i := 1239) (by decide +kernel), List.mem_of_getElem? (i := 1478) (by decide +kernel), List.mem_of_getElem? (i := 1479) (by decide +kernel)⟩
theorem lw_p54 : lw_okq (⟨"BalloonsMoorModel", "takes", "(I)Z"⟩, 63) := ⟨⟨by decide +kernel, by decide +kernel⟩, List.mem_of_getElem? (i := 1239) (by decide +kernel), List.mem_of_getElem? (i := 1533) (by decide +kernel), List.mem_of_getElem? (i := 1534) (by decide +kernel)⟩
theorem lw_p55 : lw_okq (⟨"BalloonsMoorModel", "faultOf", "(IIZ)I"⟩, 63) := ⟨⟨by decide +kernel, by decide +kernel⟩, List.mem_of_getElem? (i := 1239) (by decide +kernel), List.mem_of_getElem? (i := 1537) (by decide +kernel), List.mem_of_getElem? (i := 1538) (by decide +kernel)⟩
theorem lw_p56 : lw_okq (⟨"BalloonsMoorModel", "readsBalloon", "()Z"⟩, 63) := ⟨⟨by decide +kernel, by decide +kernel⟩, List.mem_of_getElem? (i := 1239) (by decide +kernel), List.mem_of_getElem? (i := 1546) (by decide +kernel), List.mem_of_getElem? (i := 1547) (by decide +kernel)⟩
theorem lw_p57 : lw_okq (⟨"BalloonsMoorModel", "readsWind", "(I)Z"⟩, 63) := ⟨⟨by decide +kernel, by decide +kernel⟩, List.mem_of_getElem? (i := 1239) (by decide +kernel), List.mem_of_getElem? (i := 1555) (by decide +kernel), List.mem_of_getElem? (i := 1556) (by decide +kernel)⟩
theorem lw_p58 : lw_okq (⟨"BalloonsMoorModel", "readsRank", "(I)Z"⟩, 63) := ⟨⟨by decide +kernel, by decide +kernel⟩, List.mem_of_getElem? (i := 1239) (by decide +kernel), List.mem_of_getElem? (i := 1564) (by decide +kernel), List.mem_of_getElem? (i := 1565) (by decide +kernel)⟩
theorem lw_p59 : lw_okq (⟨"BalloonsMoorModel", "readsThing", "()Z"⟩, 63) := ⟨⟨by decide +kernel, by decide +kernel⟩, List.mem_of_getElem? (i := 1239) (by decide +kernel), List.mem_of_getElem? (i := 1568) (by decide +kernel), List.mem_of_getElem? (i := 1569) (by decide +kernel)⟩
theorem lw_p60 : lw_okq (⟨"BalloonsMoorModel", "codes", "(I)V"⟩, 63) := ⟨⟨by decide +kernel, by decide +kernel⟩, List.mem_of_getElem? (i := 1239) (by decide +kernel), List.mem_of_getElem? (i := 1572) (by decide +kernel), List.mem_of_getElem? (i := 1573) (by decide +kernel)⟩
theorem lw_p61 : lw_okq (⟨"BalloonsMoorModel", "isRing", "(I)Z"⟩, 63) := ⟨⟨by decide +kernel, by decide +kernel⟩, List.mem_of_getElem? (i := 1239) (by decide +kernel), List.mem_of_getElem? (i := 1584) (by decide +kernel), List.mem_of_getElem? (i := 1585) (by decide +kernel)⟩
theorem lw_p62 : lw_okq (⟨"BalloonsMoorModel", "refuse", "()I"⟩, 63) := ⟨⟨by decide +kernel, by decide +kernel⟩, List.mem_of_getElem? (i := 1239) (by decide +kernel), List.mem_of_getElem? (i := 1589) (by decide +kernel), List.mem_of_getElem? (i := 1590) (by decide +kernel)⟩
theorem lw_p63 : lw_okq (⟨"BalloonsMoorModel", "mooredAt", "(I)I"⟩, 63) := ⟨⟨by decide +kernel, by decide +kernel⟩, List.mem_of_getElem? (i := 1239) (by decide +kernel), List.mem_of_getElem? (i := 1593) (by decide +kernel), List.mem_of_getElem? (i := 1594) (by decide +kernel)⟩
def lw_privs_4 : List (MethodName × Nat) := [(⟨"BalloonsMoorModel", "begins", "(I)I"⟩, 63), (⟨"BalloonsMoorModel", "readsRing", "()Z"⟩, 63), (⟨"BalloonsMoorModel", "number", "(I)I"⟩, 63), (⟨"BalloonsMoorModel", "isDigit", "()Z"⟩, 63), (⟨"BalloonsMoorModel", "takesOf", "(Ljava/lang/String;)I"⟩, 63), (⟨"BalloonsMoorModel", "among", "(Ljava/lang/String;)I"⟩, 63), (⟨"BalloonsMoorModel", "takes", "(I)Z"⟩, 63), (⟨"BalloonsMoorModel", "faultOf", "(IIZ)I"⟩, 63), (⟨"BalloonsMoorModel", "readsBalloon", "()Z"⟩, 63), (⟨"BalloonsMoorModel", "readsWind", "(I)Z"⟩, 63), (⟨"BalloonsMoorModel", "readsRank", "(I)Z"⟩, 63), (⟨"BalloonsMoorModel", "readsThing", "()Z"⟩, 63), (⟨"BalloonsMoorModel", "codes", "(I)V"⟩, 63), (⟨"BalloonsMoorModel", "isRing", "(I)Z"⟩, 63), (⟨"BalloonsMoorModel", "refuse", "()I"⟩, 63), (⟨"BalloonsMoorModel", "mooredAt", "(I)I"⟩, 63)]
theorem lw_r4 : ∀ q ∈ lw_privs_4, lw_okq q := List.forall_mem_cons.mpr ⟨lw_p48, List.forall_mem_cons.mpr ⟨lw_p49, List.forall_mem_cons.mpr ⟨lw_p50, List.forall_mem_cons.mpr ⟨lw_p51, List.forall_mem_cons.mpr ⟨lw_p52, List.forall_mem_cons.mpr ⟨lw_p53, List.forall_mem_cons.mpr ⟨lw_p54, List.forall_mem_cons.mpr ⟨lw_p55, List.forall_mem_cons.mpr ⟨lw_p56, List.forall_mem_cons.mpr ⟨lw_p57, List.forall_mem_cons.mpr ⟨lw_p58, List.forall_mem_cons.mpr ⟨lw_p59, List.forall_mem_cons.mpr ⟨lw_p60, List.forall_mem_cons.mpr ⟨lw_p61, List.forall_mem_cons.mpr ⟨lw_p62, List.forall_mem_cons.mpr ⟨lw_p63, fun _ h => absurd h List.not_mem_nil⟩⟩⟩⟩⟩⟩⟩⟩⟩⟩⟩⟩⟩⟩⟩⟩
theorem lw_p64 : lw_okq (⟨"BalloonsMoorModel", "how", "(I)I"⟩, 63) := ⟨⟨by decide +kernel, by decide +kernel⟩, List.mem_of_getElem? (i := 1239) (by decide +kernel), List.mem_of_getElem? (i := 1597) (by decide +kernel), List.mem_of_getElem? (i := 1598) (by decide +kernel)⟩
theorem lw_p65 : lw_okq (⟨"BalloonsMoorModel", "isBalloon", "(I)Z"⟩, 63) := ⟨⟨by decide +kernel, by decide +kernel⟩, List.mem_of_getElem? (i := 1239) (by decide +kernel), List.mem_of_getElem? (i := 1605) (by decide +kernel), List.mem_of_getElem? (i := 1606) (by decide +kernel)⟩
theorem lw_p66 : lw_okq (⟨"BalloonsMoorModel", "heavy", "(I)I"⟩, 63) := ⟨⟨by decide +kernel, by decide +kernel⟩, List.mem_of_getElem? (i := 1239) (by decide +kernel), List.mem_of_getElem? (i := 1610) (by decide +kernel), List.mem_of_getElem? (i := 1611) (by decide +kernel)⟩
theorem lw_p67 : lw_okq (⟨"BalloonsMoorModel", "highOf", "([II)I"⟩, 63) := ⟨⟨by decide +kernel, by decide +kernel⟩, List.mem_of_getElem? (i := 1239) (by decide +kernel), List.mem_of_getElem? (i := 1614) (by decide +kernel), List.mem_of_getElem? (i := 1615) (by decide +kernel)⟩
theorem lw_p68 : lw_okq (⟨"BalloonsMoorModel", "liftOf", "([II)I"⟩, 63) := ⟨⟨by decide +kernel, by decide +kernel⟩, List.mem_of_getElem? (i := 1239) (by decide +kernel), List.mem_of_getElem? (i := 1618) (by decide +kernel), List.mem_of_getElem? (i := 1619) (by decide +kernel)⟩
theorem lw_p69 : lw_okq (⟨"BalloonsMoorModel", "ruled", "()I"⟩, 63) := ⟨⟨by decide +kernel, by decide +kernel⟩, List.mem_of_getElem? (i := 1239) (by decide +kernel), List.mem_of_getElem? (i := 1622) (by decide +kernel), List.mem_of_getElem? (i := 1623) (by decide +kernel)⟩
theorem lw_p70 : lw_okq (⟨"BalloonsMoorModel", "putsBy", "()V"⟩, 63) := ⟨⟨by decide +kernel, by decide +kernel⟩, List.mem_of_getElem? (i := 1239) (by decide +kernel), List.mem_of_getElem? (i := 1657) (by decide +kernel), List.mem_of_getElem? (i := 1658) (by decide +kernel)⟩
theorem lw_p71 : lw_okq (⟨"BalloonsMoorModel", "launches", "([II)I"⟩, 63) := ⟨⟨by decide +kernel, by decide +kernel⟩, List.mem_of_getElem? (i := 1239) (by decide +kernel), List.mem_of_getElem? (i := 1661) (by decide +kernel), List.mem_of_getElem? (i := 1662) (by decide +kernel)⟩
theorem lw_p72 : lw_okq (⟨"BalloonsMoorModel", "counts", "(I)I"⟩, 63) := ⟨⟨by decide +kernel, by decide +kernel⟩, List.mem_of_getElem? (i := 1239) (by decide +kernel), List.mem_of_getElem? (i := 1668) (by decide +kernel), List.mem_of_getElem? (i := 1669) (by decide +kernel)⟩
theorem lw_p73 : lw_okq (⟨"BalloonsMoorModel", "adds", "(I)I"⟩, 63) := ⟨⟨by decide +kernel, by decide +kernel⟩, List.mem_of_getElem? (i := 1239) (by decide +kernel), List.mem_of_getElem? (i := 1672) (by decide +kernel), List.mem_of_getElem? (i := 1673) (by decide +kernel)⟩
theorem lw_p74 : lw_okq (⟨"BalloonsMoorModel", "moors", "(II)I"⟩, 63) := ⟨⟨by decide +kernel, by decide +kernel⟩, List.mem_of_getElem? (i := 1239) (by decide +kernel), List.mem_of_getElem? (i := 1680) (by decide +kernel), List.mem_of_getElem? (i := 1681) (by decide +kernel)⟩
theorem lw_p75 : lw_okq (⟨"BalloonsMoorModel", "canTie", "([III)Z"⟩, 63) := ⟨⟨by decide +kernel, by decide +kernel⟩, List.mem_of_getElem? (i := 1239) (by decide +kernel), List.mem_of_getElem? (i := 1688) (by decide +kernel), List.mem_of_getElem? (i := 1689) (by decide +kernel)⟩
theorem lw_p76 : lw_okq (⟨"BalloonsMoorModel", "casts", "([II)I"⟩, 63) := ⟨⟨by decide +kernel, by decide +kernel⟩, List.mem_of_getElem? (i := 1239) (by decide +kernel), List.mem_of_getElem? (i := 1696) (by decide +kernel), List.mem_of_getElem? (i := 1697) (by decide +kernel)⟩
theorem lw_p77 : lw_okq (⟨"BalloonsMoorModel", "sacksBy", "(II)I"⟩, 63) := ⟨⟨by decide +kernel, by decide +kernel⟩, List.mem_of_getElem? (i := 1239) (by decide +kernel), List.mem_of_getElem? (i := 1704) (by decide +kernel), List.mem_of_getElem? (i := 1705) (by decide +kernel)⟩
theorem lw_p78 : lw_okq (⟨"BalloonsMoorModel", "loads", "(II)I"⟩, 63) := ⟨⟨by decide +kernel, by decide +kernel⟩, List.mem_of_getElem? (i := 1239) (by decide +kernel), List.mem_of_getElem? (i := 1712) (by decide +kernel), List.mem_of_getElem? (i := 1713) (by decide +kernel)⟩
theorem lw_p79 : lw_okq (⟨"BalloonsMoorModel", "fills", "(II)I"⟩, 63) := ⟨⟨by decide +kernel, by decide +kernel⟩, List.mem_of_getElem? (i := 1239) (by decide +kernel), List.mem_of_getElem? (i := 1720) (by decide +kernel), List.mem_of_getElem? (i := 1721) (by decide +kernel)⟩
def lw_privs_5 : List (MethodName × Nat) := [(⟨"BalloonsMoorModel", "how", "(I)I"⟩, 63), (⟨"BalloonsMoorModel", "isBalloon", "(I)Z"⟩, 63), (⟨"BalloonsMoorModel", "heavy", "(I)I"⟩, 63), (⟨"BalloonsMoorModel", "highOf", "([II)I"⟩, 63), (⟨"BalloonsMoorModel", "liftOf", "([II)I"⟩, 63), (⟨"BalloonsMoorModel", "ruled", "()I"⟩, 63), (⟨"BalloonsMoorModel", "putsBy", "()V"⟩, 63), (⟨"BalloonsMoorModel", "launches", "([II)I"⟩, 63), (⟨"BalloonsMoorModel", "counts", "(I)I"⟩, 63), (⟨"BalloonsMoorModel", "adds", "(I)I"⟩, 63), (⟨"BalloonsMoorModel", "moors", "(II)I"⟩, 63), (⟨"BalloonsMoorModel", "canTie", "([III)Z"⟩, 63), (⟨"BalloonsMoorModel", "casts", "([II)I"⟩, 63), (⟨"BalloonsMoorModel", "sacksBy", "(II)I"⟩, 63), (⟨"BalloonsMoorModel", "loads", "(II)I"⟩, 63), (⟨"BalloonsMoorModel", "fills", "(II)I"⟩, 63)]
theorem lw_r5 : ∀ q ∈ lw_privs_5, lw_okq q := List.forall_mem_cons.mpr ⟨lw_p64, List.forall_mem_cons.mpr ⟨lw_p65, List.forall_mem_cons.mpr ⟨lw_p66, List.forall_mem_cons.mpr ⟨lw_p67, List.forall_mem_cons.mpr ⟨lw_p68, List.forall_mem_cons.mpr ⟨lw_p69, List.forall_mem_cons.mpr ⟨lw_p70, List.forall_mem_cons.mpr ⟨lw_p71, List.forall_mem_cons.mpr ⟨lw_p72, List.forall_mem_cons.mpr ⟨lw_p73, List.forall_mem_cons.mpr ⟨lw_p74, List.forall_mem_cons.mpr ⟨lw_p75, List.forall_mem_cons.mpr ⟨lw_p76, List.forall_mem_cons.mpr ⟨lw_p77, List.forall_mem_cons.mpr ⟨lw_p78, List.forall_mem_cons.mpr ⟨lw_p79, fun _ h => absurd h List.not_mem_nil⟩⟩⟩⟩⟩⟩⟩⟩⟩⟩⟩⟩⟩⟩⟩⟩
theorem lw_p80 : lw_okq (⟨"BalloonsMoorModel", "startsCounting", "()V"⟩, 63) := ⟨⟨by decide +kernel, by decide +kernel⟩, List.mem_of_getElem? (i := 1239) (by decide +kernel), List.mem_of_getElem? (i := 1729) (by decide +kernel), List.mem_of_getElem? (i := 1730) (by decide +kernel)⟩
theorem lw_p81 : lw_okq (⟨"BalloonsMoorModel", "hourGoes", "([I)V"⟩, 63) := ⟨⟨by decide +kernel, by decide +kernel⟩, List.mem_of_getElem? (i := 1239) (by decide +kernel), List.mem_of_getElem? (i := 1733) (by decide +kernel), List.mem_of_getElem? (i := 1734) (by decide +kernel)⟩
theorem lw_p82 : lw_okq (⟨"BalloonsMoorModel", "blows", "([III)Z"⟩, 63) := ⟨⟨by decide +kernel, by decide +kernel⟩, List.mem_of_getElem? (i := 1239) (by decide +kernel), List.mem_of_getElem? (i := 1737) (by decide +kernel), List.mem_of_getElem? (i := 1738) (by decide +kernel)⟩
theorem lw_p83 : lw_okq (⟨"BalloonsMoorModel", "isLost", "([II)V"⟩, 63) := ⟨⟨by decide +kernel, by decide +kernel⟩, List.mem_of_getElem? (i := 1239) (by decide +kernel), List.mem_of_getElem? (i := 1748) (by decide +kernel), List.mem_of_getElem? (i := 1749) (by decide +kernel)⟩
theorem lw_p84 : lw_okq (⟨"BalloonsMoorModel", "touch", "(II)Z"⟩, 63) := ⟨⟨by decide +kernel, by decide +kernel⟩, List.mem_of_getElem? (i := 1239) (by decide +kernel), List.mem_of_getElem? (i := 1752) (by decide +kernel), List.mem_of_getElem? (i := 1753) (by decide +kernel)⟩
theorem lw_p85 : lw_okq (⟨"BalloonsMoorModel", "comesDown", "([II)V"⟩, 63) := ⟨⟨by decide +kernel, by decide +kernel⟩, List.mem_of_getElem? (i := 1239) (by decide +kernel), List.mem_of_getElem? (i := 1756) (by decide +kernel), List.mem_of_getElem? (i := 1757) (by decide +kernel)⟩
theorem lw_p86 : lw_okq (⟨"BalloonsMoorModel", "enters", "(J)V"⟩, 63) := ⟨⟨by decide +kernel, by decide +kernel⟩, List.mem_of_getElem? (i := 1239) (by decide +kernel), List.mem_of_getElem? (i := 1760) (by decide +kernel), List.mem_of_getElem? (i := 1761) (by decide +kernel)⟩
theorem lw_p87 : lw_okq (⟨"BalloonsMoorModel", "readsAct", "()Z"⟩, 63) := ⟨⟨by decide +kernel, by decide +kernel⟩, List.mem_of_getElem? (i := 1239) (by decide +kernel), List.mem_of_getElem? (i := 1768) (by decide +kernel), List.mem_of_getElem? (i := 1769) (by decide +kernel)⟩
theorem lw_p88 : lw_okq (⟨"BalloonsMoorModel", "does", "(I)Z"⟩, 63) := ⟨⟨by decide +kernel, by decide +kernel⟩, List.mem_of_getElem? (i := 1239) (by decide +kernel), List.mem_of_getElem? (i := 1773) (by decide +kernel), List.mem_of_getElem? (i := 1774) (by decide +kernel)⟩
theorem lw_p89 : lw_okq (⟨"BalloonsMoorModel", "isBreach", "(IIII)Z"⟩, 63) := ⟨⟨by decide +kernel, by decide +kernel⟩, List.mem_of_getElem? (i := 1239) (by decide +kernel), List.mem_of_getElem? (i := 1785) (by decide +kernel), List.mem_of_getElem? (i := 1786) (by decide +kernel)⟩
theorem lw_p90 : lw_okq (⟨"BalloonsMoorModel", "puts", "()V"⟩, 63) := ⟨⟨by decide +kernel, by decide +kernel⟩, List.mem_of_getElem? (i := 1239) (by decide +kernel), List.mem_of_getElem? (i := 1794) (by decide +kernel), List.mem_of_getElem? (i := 1795) (by decide +kernel)⟩
theorem lw_p91 : lw_okq (⟨"BalloonsMoorModel", "isUp", "([II)Z"⟩, 63) := ⟨⟨by decide +kernel, by decide +kernel⟩, List.mem_of_getElem? (i := 1239) (by decide +kernel), List.mem_of_getElem? (i := 1802) (by decide +kernel), List.mem_of_getElem? (i := 1803) (by decide +kernel)⟩
theorem lw_p92 : lw_okq (⟨"BalloonsMoorModel", "berthsFrom", "(IIIZ)V"⟩, 63) := ⟨⟨by decide +kernel, by decide +kernel⟩, List.mem_of_getElem? (i := 1239) (by decide +kernel), List.mem_of_getElem? (i := 1814) (by decide +kernel), List.mem_of_getElem? (i := 1815) (by decide +kernel)⟩
theorem lw_p93 : lw_okq (⟨"BalloonsMoorModel", "canBeside", "(IIII)Z"⟩, 63) := ⟨⟨by decide +kernel, by decide +kernel⟩, List.mem_of_getElem? (i := 1239) (by decide +kernel), List.mem_of_getElem? (i := 1821) (by decide +kernel), List.mem_of_getElem? (i := 1822) (by decide +kernel)⟩
theorem lw_p94 : lw_okq (⟨"BalloonsMoorModel", "canLand", "(III)Z"⟩, 63) := ⟨⟨by decide +kernel, by decide +kernel⟩, List.mem_of_getElem? (i := 1239) (by decide +kernel), List.mem_of_getElem? (i := 1839) (by decide +kernel), List.mem_of_getElem? (i := 1840) (by decide +kernel)⟩
theorem lw_p95 : lw_okq (⟨"BalloonsMoorModel", "takesNow", "(I)V"⟩, 63) := ⟨⟨by decide +kernel, by decide +kernel⟩, List.mem_of_getElem? (i := 1239) (by decide +kernel), List.mem_of_getElem? (i := 1843) (by decide +kernel), List.mem_of_getElem? (i := 1844) (by decide +kernel)⟩
def lw_privs_6 : List (MethodName × Nat) := [(⟨"BalloonsMoorModel", "startsCounting", "()V"⟩, 63), (⟨"BalloonsMoorModel", "hourGoes", "([I)V"⟩, 63), (⟨"BalloonsMoorModel", "blows", "([III)Z"⟩, 63), (⟨"BalloonsMoorModel", "isLost", "([II)V"⟩, 63), (⟨"BalloonsMoorModel", "touch", "(II)Z"⟩, 63), (⟨"BalloonsMoorModel", "comesDown", "([II)V"⟩, 63), (⟨"BalloonsMoorModel", "enters", "(J)V"⟩, 63), (⟨"BalloonsMoorModel", "readsAct", "()Z"⟩, 63), (⟨"BalloonsMoorModel", "does", "(I)Z"⟩, 63), (⟨"BalloonsMoorModel", "isBreach", "(IIII)Z"⟩, 63), (⟨"BalloonsMoorModel", "puts", "()V"⟩, 63), (⟨"BalloonsMoorModel", "isUp", "([II)Z"⟩, 63), (⟨"BalloonsMoorModel", "berthsFrom", "(IIIZ)V"⟩, 63), (⟨"BalloonsMoorModel", "canBeside", "(IIII)Z"⟩, 63), (⟨"BalloonsMoorModel", "canLand", "(III)Z"⟩, 63), (⟨"BalloonsMoorModel", "takesNow", "(I)V"⟩, 63)]
theorem lw_r6 : ∀ q ∈ lw_privs_6, lw_okq q := List.forall_mem_cons.mpr ⟨lw_p80, List.forall_mem_cons.mpr ⟨lw_p81, List.forall_mem_cons.mpr ⟨lw_p82, List.forall_mem_cons.mpr ⟨lw_p83, List.forall_mem_cons.mpr ⟨lw_p84, List.forall_mem_cons.mpr ⟨lw_p85, List.forall_mem_cons.mpr ⟨lw_p86, List.forall_mem_cons.mpr ⟨lw_p87, List.forall_mem_cons.mpr ⟨lw_p88, List.forall_mem_cons.mpr ⟨lw_p89, List.forall_mem_cons.mpr ⟨lw_p90, List.forall_mem_cons.mpr ⟨lw_p91, List.forall_mem_cons.mpr ⟨lw_p92, List.forall_mem_cons.mpr ⟨lw_p93, List.forall_mem_cons.mpr ⟨lw_p94, List.forall_mem_cons.mpr ⟨lw_p95, fun _ h => absurd h List.not_mem_nil⟩⟩⟩⟩⟩⟩⟩⟩⟩⟩⟩⟩⟩⟩⟩⟩
theorem lw_p96 : lw_okq (⟨"BalloonsMoorModel", "setsStage", "(II)V"⟩, 63) := ⟨⟨by decide +kernel, by decide +kernel⟩, List.mem_of_getElem? (i := 1239) (by decide +kernel), List.mem_of_getElem? (i := 1847) (by decide +kernel), List.mem_of_getElem? (i := 1848) (by decide +kernel)⟩
theorem lw_p97 : lw_okq (⟨"BalloonsMoorModel", "landsBy", "(IIIII)Z"⟩, 63) := ⟨⟨by decide +kernel, by decide +kernel⟩, List.mem_of_getElem? (i := 1239) (by decide +kernel), List.mem_of_getElem? (i := 1851) (by decide +kernel), List.mem_of_getElem? (i := 1852) (by decide +kernel)⟩
theorem lw_p98 : lw_okq (⟨"BalloonsMoorModel", "takesStage", "(II)V"⟩, 63) := ⟨⟨by decide +kernel, by decide +kernel⟩, List.mem_of_getElem? (i := 1239) (by decide +kernel), List.mem_of_getElem? (i := 1855) (by decide +kernel), List.mem_of_getElem? (i := 1856) (by decide +kernel)⟩
theorem lw_p99 : lw_okq (⟨"BalloonsMoorModel", "goesAlone", "(I)Z"⟩, 63) := ⟨⟨by decide +kernel, by decide +kernel⟩, List.mem_of_getElem? (i := 1239) (by decide +kernel), List.mem_of_getElem? (i := 1859) (by decide +kernel), List.mem_of_getElem? (i := 1860) (by decide +kernel)⟩
theorem lw_p100 : lw_okq (⟨"BalloonsMoorModel", "letsDown", "(II)V"⟩, 63) := ⟨⟨by decide +kernel, by decide +kernel⟩, List.mem_of_getElem? (i := 1239) (by decide +kernel), List.mem_of_getElem? (i := 1871) (by decide +kernel), List.mem_of_getElem? (i := 1872) (by decide +kernel)⟩
theorem lw_p101 : lw_okq (⟨"BalloonsMoorModel", "fits", "(II)Z"⟩, 63) := ⟨⟨by decide +kernel, by decide +kernel⟩, List.mem_of_getElem? (i := 1239) (by decide +kernel), List.mem_of_getElem? (i := 1898) (by decide +kernel), List.mem_of_getElem? (i := 1899) (by decide +kernel)⟩
theorem lw_p102 : lw_okq (⟨"BalloonsMoorModel", "laysWays", "()V"⟩, 63) := ⟨⟨by decide +kernel, by decide +kernel⟩, List.mem_of_getElem? (i := 1239) (by decide +kernel), List.mem_of_getElem? (i := 1906) (by decide +kernel), List.mem_of_getElem? (i := 1907) (by decide +kernel)⟩
theorem lw_p103 : lw_okq (⟨"BalloonsMoorModel", "markedRings", "()I"⟩, 63) := ⟨⟨by decide +kernel, by decide +kernel⟩, List.mem_of_getElem? (i := 1239) (by decide +kernel), List.mem_of_getElem? (i := 1910) (by decide +kernel), List.mem_of_getElem? (i := 1911) (by decide +kernel)⟩
theorem lw_p104 : lw_okq (⟨"BalloonsMoorModel", "laysFrom", "(III)V"⟩, 63) := ⟨⟨by decide +kernel, by decide +kernel⟩, List.mem_of_getElem? (i := 1239) (by decide +kernel), List.mem_of_getElem? (i := 1914) (by decide +kernel), List.mem_of_getElem? (i := 1915) (by decide +kernel)⟩
theorem lw_p105 : lw_okq (⟨"BalloonsMoorModel", "tellsLain", "(I)V"⟩, 63) := ⟨⟨by decide +kernel, by decide +kernel⟩, List.mem_of_getElem? (i := 1239) (by decide +kernel), List.mem_of_getElem? (i := 1918) (by decide +kernel), List.mem_of_getElem? (i := 1919) (by decide +kernel)⟩
theorem lw_p106 : lw_okq (⟨"BalloonsMoorModel", "bets", "(IIII)V"⟩, 63) := ⟨⟨by decide +kernel, by decide +kernel⟩, List.mem_of_getElem? (i := 1239) (by decide +kernel), List.mem_of_getElem? (i := 1933) (by decide +kernel), List.mem_of_getElem? (i := 1934) (by decide +kernel)⟩
theorem lw_p107 : lw_okq (⟨"BalloonsMoorModel", "tellsChance", "()V"⟩, 63) := ⟨⟨by decide +kernel, by decide +kernel⟩, List.mem_of_getElem? (i := 1239) (by decide +kernel), List.mem_of_getElem? (i := 1937) (by decide +kernel), List.mem_of_getElem? (i := 1938) (by decide +kernel)⟩
theorem lw_p108 : lw_okq (⟨"BalloonsMoorModel", "allBy", "(I)I"⟩, 63) := ⟨⟨by decide +kernel, by decide +kernel⟩, List.mem_of_getElem? (i := 1239) (by decide +kernel), List.mem_of_getElem? (i := 1965) (by decide +kernel), List.mem_of_getElem? (i := 1966) (by decide +kernel)⟩
def lw_privs_7 : List (MethodName × Nat) := [(⟨"BalloonsMoorModel", "setsStage", "(II)V"⟩, 63), (⟨"BalloonsMoorModel", "landsBy", "(IIIII)Z"⟩, 63), (⟨"BalloonsMoorModel", "takesStage", "(II)V"⟩, 63), (⟨"BalloonsMoorModel", "goesAlone", "(I)Z"⟩, 63), (⟨"BalloonsMoorModel", "letsDown", "(II)V"⟩, 63), (⟨"BalloonsMoorModel", "fits", "(II)Z"⟩, 63), (⟨"BalloonsMoorModel", "laysWays", "()V"⟩, 63), (⟨"BalloonsMoorModel", "markedRings", "()I"⟩, 63), (⟨"BalloonsMoorModel", "laysFrom", "(III)V"⟩, 63), (⟨"BalloonsMoorModel", "tellsLain", "(I)V"⟩, 63), (⟨"BalloonsMoorModel", "bets", "(IIII)V"⟩, 63), (⟨"BalloonsMoorModel", "tellsChance", "()V"⟩, 63), (⟨"BalloonsMoorModel", "allBy", "(I)I"⟩, 63)]
theorem lw_r7 : ∀ q ∈ lw_privs_7, lw_okq q := List.forall_mem_cons.mpr ⟨lw_p96, List.forall_mem_cons.mpr ⟨lw_p97, List.forall_mem_cons.mpr ⟨lw_p98, List.forall_mem_cons.mpr ⟨lw_p99, List.forall_mem_cons.mpr ⟨lw_p100, List.forall_mem_cons.mpr ⟨lw_p101, List.forall_mem_cons.mpr ⟨lw_p102, List.forall_mem_cons.mpr ⟨lw_p103, List.forall_mem_cons.mpr ⟨lw_p104, List.forall_mem_cons.mpr ⟨lw_p105, List.forall_mem_cons.mpr ⟨lw_p106, List.forall_mem_cons.mpr ⟨lw_p107, List.forall_mem_cons.mpr ⟨lw_p108, fun _ h => absurd h List.not_mem_nil⟩⟩⟩⟩⟩⟩⟩⟩⟩⟩⟩⟩⟩
def lw_privs : List (MethodName × Nat) := lw_privs_1 ++ (lw_privs_2 ++ (lw_privs_3 ++ (lw_privs_4 ++ (lw_privs_5 ++ (lw_privs_6 ++ (lw_privs_7))))))
def lw_tbl : List Cond := k2_sels lw_privs ++ tables_1
theorem lw_privs_ok : ∀ q ∈ lw_privs, lw_okq q := by
  show ∀ q ∈ lw_privs_1 ++ (lw_privs_2 ++ (lw_privs_3 ++ (lw_privs_4 ++ (lw_privs_5 ++ (lw_privs_6 ++ (lw_privs_7)))))), lw_okq q
  exact List.forall_mem_append.mpr ⟨lw_r1, List.forall_mem_append.mpr ⟨lw_r2, List.forall_mem_append.mpr ⟨lw_r3, List.forall_mem_append.mpr ⟨lw_r4, List.forall_mem_append.mpr ⟨lw_r5, List.forall_mem_append.mpr ⟨lw_r6, lw_r7⟩⟩⟩⟩⟩⟩
-- ===== end of PART A; then your names; then what follows =====
def RX0 : String := "BalloonsMoor$Acts"
def TX0 : u_T := fun k => match k with
  | 0 => ("BalloonsMoor$Acts", "kind", "[I", true)
  | 1 => ("BalloonsMoor$Acts", "first", "[I", true)
  | 2 => ("BalloonsMoor$Acts", "second", "[I", true)
  | _ => ("BalloonsMoor$Acts", "size", "I", false)
def tyX0 : Nat → FieldType := fun k => match k with
  | 0 => .array .int
  | 1 => .array .int
  | 2 => .array .int
  | _ => .int
abbrev wsX00 : List Cond := u_ws RX0 TX0 4
theorem nmX0 : ∀ a, a < 4 → ∀ b, b < 4 → a ≠ b → (TX0 a).2.1 ≠ (TX0 b).2.1 := by decide +kernel
theorem tyX0_ok : ∀ k, k < 4 → parseFieldDescriptor (TX0 k).2.2.1 = some (tyX0 k) := by decide +kernel
abbrev cX0_init : ByteArray := prog_2_method_1_code
def yX0_init : MethodName := ⟨RX0, "<init>", "()V"⟩
abbrev cX0_read : ByteArray := prog_2_method_2_code
def yX0_read : MethodName := ⟨RX0, "read", "(LBalloonsMoor$Told;)Z"⟩
abbrev cX0_readOne : ByteArray := prog_2_method_3_code
def yX0_readOne : MethodName := ⟨RX0, "readOne", "(LBalloonsMoor$Told;I)Z"⟩
abbrev cX0_readFirst : ByteArray := prog_2_method_4_code
def yX0_readFirst : MethodName := ⟨RX0, "readFirst", "(LBalloonsMoor$Told;I)Z"⟩
abbrev cX0_readSecond : ByteArray := prog_2_method_5_code
def yX0_readSecond : MethodName := ⟨RX0, "readSecond", "(LBalloonsMoor$Told;I)Z"⟩
abbrev cX0_readChange : ByteArray := prog_2_method_6_code
def yX0_readChange : MethodName := ⟨RX0, "readChange", "(LBalloonsMoor$Told;I)Z"⟩
def RX1 : String := "BalloonsMoor$Answers"
def TX1 : u_T := fun k => match k with
  | 0 => ("BalloonsMoor$Answers", "numbers", "[J", true)
  | _ => ("BalloonsMoor$Answers", "size", "I", false)
def tyX1 : Nat → FieldType := fun k => match k with
  | 0 => .array .long
  | _ => .int
abbrev wsX10 : List Cond := u_ws RX1 TX1 2
theorem nmX1 : ∀ a, a < 2 → ∀ b, b < 2 → a ≠ b → (TX1 a).2.1 ≠ (TX1 b).2.1 := by decide +kernel
theorem tyX1_ok : ∀ k, k < 2 → parseFieldDescriptor (TX1 k).2.2.1 = some (tyX1 k) := by decide +kernel
abbrev cX1_init : ByteArray := prog_3_method_1_code
def yX1_init : MethodName := ⟨RX1, "<init>", "()V"⟩
abbrev cX1_add : ByteArray := prog_3_method_2_code
def yX1_add : MethodName := ⟨RX1, "add", "(J)V"⟩
def RX2 : String := "BalloonsMoor$Berths"
def TX2 : u_T := fun k => match k with
  | 0 => ("BalloonsMoor$Berths", "rings", "LBalloonsMoor$Tower;", true)
  | 1 => ("BalloonsMoor$Berths", "flock", "LBalloonsMoor$Flock;", true)
  | 2 => ("BalloonsMoor$Berths", "weight", "[I", true)
  | 3 => ("BalloonsMoor$Berths", "place", "[I", true)
  | 4 => ("BalloonsMoor$Berths", "least", "[I", true)
  | 5 => ("BalloonsMoor$Berths", "found", "Z", false)
  | _ => ("BalloonsMoor$Berths", "size", "I", false)
def tyX2 : Nat → FieldType := fun k => match k with
  | 0 => .object "BalloonsMoor$Tower"
  | 1 => .object "BalloonsMoor$Flock"
  | 2 => .array .int
  | 3 => .array .int
  | 4 => .array .int
  | 5 => .boolean
  | _ => .int
abbrev wsX20 : List Cond := u_ws RX2 TX2 7
theorem nmX2 : ∀ a, a < 7 → ∀ b, b < 7 → a ≠ b → (TX2 a).2.1 ≠ (TX2 b).2.1 := by decide +kernel
theorem tyX2_ok : ∀ k, k < 7 → parseFieldDescriptor (TX2 k).2.2.1 = some (tyX2 k) := by decide +kernel
abbrev cX2_init : ByteArray := prog_4_method_1_code
def yX2_init : MethodName := ⟨RX2, "<init>", "(LBalloonsMoor$Tower;LBalloonsMoor$Flock;)V"⟩
abbrev cX2_choose : ByteArray := prog_4_method_2_code
def yX2_choose : MethodName := ⟨RX2, "choose", "(I)V"⟩
abbrev cX2_waysAll : ByteArray := prog_4_method_3_code
def yX2_waysAll : MethodName := ⟨RX2, "waysAll", "()I"⟩
abbrev cX2_canAll : ByteArray := prog_4_method_4_code
def yX2_canAll : MethodName := ⟨RX2, "canAll", "()Z"⟩
abbrev cX2_waysFrom : ByteArray := prog_4_method_5_code
def yX2_waysFrom : MethodName := ⟨RX2, "waysFrom", "(IZ)I"⟩
abbrev cX2_waysWith : ByteArray := prog_4_method_6_code
def yX2_waysWith : MethodName := ⟨RX2, "waysWith", "(IIZ)I"⟩
abbrev cX2_openTo : ByteArray := prog_4_method_7_code
def yX2_openTo : MethodName := ⟨RX2, "openTo", "(I)I"⟩
def RX3 : String := "BalloonsMoor$Flock"
def TX3 : u_T := fun k => match k with
  | 0 => ("BalloonsMoor$Flock", "rings", "LBalloonsMoor$Tower;", true)
  | 1 => ("BalloonsMoor$Flock", "air", "LBalloonsMoor$Winds;", true)
  | 2 => ("BalloonsMoor$Flock", "lifting", "LBalloonsMoor$Rule;", true)
  | 3 => ("BalloonsMoor$Flock", "facts", "[I", true)
  | 4 => ("BalloonsMoor$Flock", "foreseen", "[I", true)
  | 5 => ("BalloonsMoor$Flock", "gas", "[I", true)
  | 6 => ("BalloonsMoor$Flock", "sacks", "[I", true)
  | 7 => ("BalloonsMoor$Flock", "cargo", "[I", true)
  | 8 => ("BalloonsMoor$Flock", "rope", "[I", true)
  | 9 => ("BalloonsMoor$Flock", "leak", "[I", true)
  | 10 => ("BalloonsMoor$Flock", "where", "[I", true)
  | 11 => ("BalloonsMoor$Flock", "ring", "[I", true)
  | 12 => ("BalloonsMoor$Flock", "x", "[I", true)
  | 13 => ("BalloonsMoor$Flock", "y", "[I", true)
  | 14 => ("BalloonsMoor$Flock", "size", "I", false)
  | 15 => ("BalloonsMoor$Flock", "now", "I", false)
  | 16 => ("BalloonsMoor$Flock", "rain", "I", false)
  | 17 => ("BalloonsMoor$Flock", "cameDown", "I", false)
  | _ => ("BalloonsMoor$Flock", "wentLost", "I", false)
def tyX3 : Nat → FieldType := fun k => match k with
  | 0 => .object "BalloonsMoor$Tower"
  | 1 => .object "BalloonsMoor$Winds"
  | 2 => .object "BalloonsMoor$Rule"
  | 3 => .array .int
  | 4 => .array .int
  | 5 => .array .int
  | 6 => .array .int
  | 7 => .array .int
  | 8 => .array .int
  | 9 => .array .int
  | 10 => .array .int
  | 11 => .array .int
  | 12 => .array .int
  | 13 => .array .int
  | 14 => .int
  | 15 => .int
  | 16 => .int
  | 17 => .int
  | _ => .int
abbrev wsX30 : List Cond := u_ws RX3 TX3 19
theorem nmX3 : ∀ a, a < 19 → ∀ b, b < 19 → a ≠ b → (TX3 a).2.1 ≠ (TX3 b).2.1 := by decide +kernel
theorem tyX3_ok : ∀ k, k < 19 → parseFieldDescriptor (TX3 k).2.2.1 = some (tyX3 k) := by decide +kernel
abbrev cX3_init : ByteArray := prog_5_method_1_code
def yX3_init : MethodName := ⟨RX3, "<init>", "(LBalloonsMoor$Tower;LBalloonsMoor$Winds;LBalloonsMoor$Rule;)V"⟩
abbrev cX3_leave : ByteArray := prog_5_method_2_code
def yX3_leave : MethodName := ⟨RX3, "leave", "()V"⟩
abbrev cX3_has : ByteArray := prog_5_method_3_code
def yX3_has : MethodName := ⟨RX3, "has", "(I)Z"⟩
abbrev cX3_areAll : ByteArray := prog_5_method_4_code
def yX3_areAll : MethodName := ⟨RX3, "areAll", "(I)Z"⟩
abbrev cX3_read : ByteArray := prog_5_method_5_code
def yX3_read : MethodName := ⟨RX3, "read", "(LBalloonsMoor$Told;)I"⟩
abbrev cX3_readLines : ByteArray := prog_5_method_6_code
def yX3_readLines : MethodName := ⟨RX3, "readLines", "(LBalloonsMoor$Told;)I"⟩
abbrev cX3_readLine : ByteArray := prog_5_method_7_code
def yX3_readLine : MethodName := ⟨RX3, "readLine", "(LBalloonsMoor$Told;I)Z"⟩
abbrev cX3_weightOf : ByteArray := prog_5_method_8_code
def yX3_weightOf : MethodName := ⟨RX3, "weightOf", "(I)I"⟩
abbrev cX3_liftOf : ByteArray := prog_5_method_9_code
def yX3_liftOf : MethodName := ⟨RX3, "liftOf", "(I)I"⟩
abbrev cX3_liftAs : ByteArray := prog_5_method_10_code
def yX3_liftAs : MethodName := ⟨RX3, "liftAs", "(IIII)I"⟩
abbrev cX3_ringOf : ByteArray := prog_5_method_11_code
def yX3_ringOf : MethodName := ⟨RX3, "ringOf", "(I)I"⟩
abbrev cX3_cellOf : ByteArray := prog_5_method_12_code
def yX3_cellOf : MethodName := ⟨RX3, "cellOf", "(I)I"⟩
abbrev cX3_farness : ByteArray := prog_5_method_13_code
def yX3_farness : MethodName := ⟨RX3, "farness", "(I)I"⟩
abbrev cX3_isUp : ByteArray := prog_5_method_14_code
def yX3_isUp : MethodName := ⟨RX3, "isUp", "(I)Z"⟩
abbrev cX3_isAtHand : ByteArray := prog_5_method_15_code
def yX3_isAtHand : MethodName := ⟨RX3, "isAtHand", "(I)Z"⟩
abbrev cX3_guestAt : ByteArray := prog_5_method_16_code
def yX3_guestAt : MethodName := ⟨RX3, "guestAt", "(I)I"⟩
abbrev cX3_those : ByteArray := prog_5_method_17_code
def yX3_those : MethodName := ⟨RX3, "those", "(I)I"⟩
abbrev cX3_doTouch : ByteArray := prog_5_method_18_code
def yX3_doTouch : MethodName := ⟨RX3, "doTouch", "(II)Z"⟩
abbrev cX3_doesBreach : ByteArray := prog_5_method_19_code
def yX3_doesBreach : MethodName := ⟨RX3, "doesBreach", "(II)Z"⟩
abbrev cX3_areMoored : ByteArray := prog_5_method_20_code
def yX3_areMoored : MethodName := ⟨RX3, "areMoored", "(II)Z"⟩
abbrev cX3_setLoose : ByteArray := prog_5_method_21_code
def yX3_setLoose : MethodName := ⟨RX3, "setLoose", "(I)V"⟩
abbrev cX3_passHours : ByteArray := prog_5_method_22_code
def yX3_passHours : MethodName := ⟨RX3, "passHours", "(I)I"⟩
abbrev cX3_driftAll : ByteArray := prog_5_method_23_code
def yX3_driftAll : MethodName := ⟨RX3, "driftAll", "()V"⟩
abbrev cX3_lose : ByteArray := prog_5_method_24_code
def yX3_lose : MethodName := ⟨RX3, "lose", "(I)V"⟩
abbrev cX3_leakAll : ByteArray := prog_5_method_25_code
def yX3_leakAll : MethodName := ⟨RX3, "leakAll", "()V"⟩
abbrev cX3_tearAll : ByteArray := prog_5_method_26_code
def yX3_tearAll : MethodName := ⟨RX3, "tearAll", "()V"⟩
abbrev cX3_sinkAll : ByteArray := prog_5_method_27_code
def yX3_sinkAll : MethodName := ⟨RX3, "sinkAll", "()V"⟩
abbrev cX3_foresee : ByteArray := prog_5_method_28_code
def yX3_foresee : MethodName := ⟨RX3, "foresee", "(I)V"⟩
abbrev cX3_staysNear : ByteArray := prog_5_method_29_code
def yX3_staysNear : MethodName := ⟨RX3, "staysNear", "(IIII)Z"⟩
abbrev cX3_become : ByteArray := prog_5_method_30_code
def yX3_become : MethodName := ⟨RX3, "become", "(LBalloonsMoor$Flock;)V"⟩
abbrev cX3_pack : ByteArray := prog_5_method_31_code
def yX3_pack : MethodName := ⟨RX3, "pack", "([II)V"⟩
abbrev cX3_unpack : ByteArray := prog_5_method_32_code
def yX3_unpack : MethodName := ⟨RX3, "unpack", "([II)V"⟩
def RX4 : String := "BalloonsMoor$Landing"
def TX4 : u_T := fun k => match k with
  | 0 => ("BalloonsMoor$Landing", "flock", "LBalloonsMoor$Flock;", true)
  | 1 => ("BalloonsMoor$Landing", "air", "LBalloonsMoor$Winds;", true)
  | 2 => ("BalloonsMoor$Landing", "lift", "[I", true)
  | 3 => ("BalloonsMoor$Landing", "isNear", "[Z", true)
  | 4 => ("BalloonsMoor$Landing", "seen", "[J", true)
  | 5 => ("BalloonsMoor$Landing", "drops", "[I", true)
  | 6 => ("BalloonsMoor$Landing", "balloon", "I", false)
  | 7 => ("BalloonsMoor$Landing", "within", "I", false)
  | 8 => ("BalloonsMoor$Landing", "most", "I", false)
  | 9 => ("BalloonsMoor$Landing", "rope", "I", false)
  | 10 => ("BalloonsMoor$Landing", "sacks", "I", false)
  | _ => ("BalloonsMoor$Landing", "hours", "I", false)
def tyX4 : Nat → FieldType := fun k => match k with
  | 0 => .object "BalloonsMoor$Flock"
  | 1 => .object "BalloonsMoor$Winds"
  | 2 => .array .int
  | 3 => .array .boolean
  | 4 => .array .long
  | 5 => .array .int
  | 6 => .int
  | 7 => .int
  | 8 => .int
  | 9 => .int
  | 10 => .int
  | _ => .int
abbrev wsX40 : List Cond := u_ws RX4 TX4 12
theorem nmX4 : ∀ a, a < 12 → ∀ b, b < 12 → a ≠ b → (TX4 a).2.1 ≠ (TX4 b).2.1 := by decide +kernel
theorem tyX4_ok : ∀ k, k < 12 → parseFieldDescriptor (TX4 k).2.2.1 = some (tyX4 k) := by decide +kernel
abbrev cX4_init : ByteArray := prog_6_method_1_code
def yX4_init : MethodName := ⟨RX4, "<init>", "(LBalloonsMoor$Flock;LBalloonsMoor$Winds;)V"⟩
abbrev cX4_survey : ByteArray := prog_6_method_2_code
def yX4_survey : MethodName := ⟨RX4, "survey", "(II)V"⟩
abbrev cX4_explore : ByteArray := prog_6_method_3_code
def yX4_explore : MethodName := ⟨RX4, "explore", "(IIII)V"⟩
abbrev cX4_exploreHour : ByteArray := prog_6_method_4_code
def yX4_exploreHour : MethodName := ⟨RX4, "exploreHour", "(IIII)V"⟩
abbrev cX4_wasSeen : ByteArray := prog_6_method_5_code
def yX4_wasSeen : MethodName := ⟨RX4, "wasSeen", "(IIII)Z"⟩
abbrev cX4_plan : ByteArray := prog_6_method_6_code
def yX4_plan : MethodName := ⟨RX4, "plan", "(I)Z"⟩
abbrev cX4_canBeNear : ByteArray := prog_6_method_7_code
def yX4_canBeNear : MethodName := ⟨RX4, "canBeNear", "(II)Z"⟩
abbrev cX4_beats : ByteArray := prog_6_method_8_code
def yX4_beats : MethodName := ⟨RX4, "beats", "(II)Z"⟩
abbrev cX4_retrace : ByteArray := prog_6_method_9_code
def yX4_retrace : MethodName := ⟨RX4, "retrace", "()Z"⟩
abbrev cX4_retraceFrom : ByteArray := prog_6_method_10_code
def yX4_retraceFrom : MethodName := ⟨RX4, "retraceFrom", "(IIII)Z"⟩
abbrev cX4_retraceHour : ByteArray := prog_6_method_11_code
def yX4_retraceHour : MethodName := ⟨RX4, "retraceHour", "(IIII)Z"⟩
def RX5 : String := "BalloonsMoor$Marks"
def TX5 : u_T := fun k => match k with
  | 0 => ("BalloonsMoor$Marks", "ring", "[I", true)
  | 1 => ("BalloonsMoor$Marks", "what", "[I", true)
  | 2 => ("BalloonsMoor$Marks", "value", "[I", true)
  | 3 => ("BalloonsMoor$Marks", "seenRing", "[I", true)
  | 4 => ("BalloonsMoor$Marks", "fits", "[I", true)
  | 5 => ("BalloonsMoor$Marks", "who", "[I", true)
  | 6 => ("BalloonsMoor$Marks", "least", "[I", true)
  | 7 => ("BalloonsMoor$Marks", "size", "I", false)
  | 8 => ("BalloonsMoor$Marks", "seen", "I", false)
  | 9 => ("BalloonsMoor$Marks", "same", "I", false)
  | _ => ("BalloonsMoor$Marks", "found", "I", false)
def tyX5 : Nat → FieldType := fun k => match k with
  | 0 => .array .int
  | 1 => .array .int
  | 2 => .array .int
  | 3 => .array .int
  | 4 => .array .int
  | 5 => .array .int
  | 6 => .array .int
  | 7 => .int
  | 8 => .int
  | 9 => .int
  | _ => .int
abbrev wsX50 : List Cond := u_ws RX5 TX5 11
theorem nmX5 : ∀ a, a < 11 → ∀ b, b < 11 → a ≠ b → (TX5 a).2.1 ≠ (TX5 b).2.1 := by decide +kernel
theorem tyX5_ok : ∀ k, k < 11 → parseFieldDescriptor (TX5 k).2.2.1 = some (tyX5 k) := by decide +kernel
abbrev cX5_init : ByteArray := prog_7_method_1_code
def yX5_init : MethodName := ⟨RX5, "<init>", "()V"⟩
abbrev cX5_add : ByteArray := prog_7_method_2_code
def yX5_add : MethodName := ⟨RX5, "add", "(III)V"⟩
abbrev cX5_fitting : ByteArray := prog_7_method_3_code
def yX5_fitting : MethodName := ⟨RX5, "fitting", "(LBalloonsMoor$Flock;I)I"⟩
abbrev cX5_allows : ByteArray := prog_7_method_4_code
def yX5_allows : MethodName := ⟨RX5, "allows", "(ILBalloonsMoor$Flock;I)Z"⟩
abbrev cX5_isSeen : ByteArray := prog_7_method_5_code
def yX5_isSeen : MethodName := ⟨RX5, "isSeen", "(I)Z"⟩
abbrev cX5_goThrough : ByteArray := prog_7_method_6_code
def yX5_goThrough : MethodName := ⟨RX5, "goThrough", "(LBalloonsMoor$Flock;)I"⟩
abbrev cX5_goFrom : ByteArray := prog_7_method_7_code
def yX5_goFrom : MethodName := ⟨RX5, "goFrom", "(II)V"⟩
abbrev cX5_goWith : ByteArray := prog_7_method_8_code
def yX5_goWith : MethodName := ⟨RX5, "goWith", "(III)V"⟩
abbrev cX5_noteWay : ByteArray := prog_7_method_9_code
def yX5_noteWay : MethodName := ⟨RX5, "noteWay", "()V"⟩
def RX6 : String := "BalloonsMoor$Past"
def TX6 : u_T := fun k => match k with
  | 0 => ("BalloonsMoor$Past", "ahead", "[I", true)
  | 1 => ("BalloonsMoor$Past", "stored", "[I", true)
  | 2 => ("BalloonsMoor$Past", "isStored", "[Z", true)
  | 3 => ("BalloonsMoor$Past", "slot", "I", false)
  | _ => ("BalloonsMoor$Past", "size", "I", false)
def tyX6 : Nat → FieldType := fun k => match k with
  | 0 => .array .int
  | 1 => .array .int
  | 2 => .array .boolean
  | 3 => .int
  | _ => .int
abbrev wsX60 : List Cond := u_ws RX6 TX6 5
theorem nmX6 : ∀ a, a < 5 → ∀ b, b < 5 → a ≠ b → (TX6 a).2.1 ≠ (TX6 b).2.1 := by decide +kernel
theorem tyX6_ok : ∀ k, k < 5 → parseFieldDescriptor (TX6 k).2.2.1 = some (tyX6 k) := by decide +kernel
abbrev cX6_init : ByteArray := prog_8_method_1_code
def yX6_init : MethodName := ⟨RX6, "<init>", "()V"⟩
abbrev cX6_note : ByteArray := prog_8_method_2_code
def yX6_note : MethodName := ⟨RX6, "note", "(LBalloonsMoor$Flock;)V"⟩
abbrev cX6_hold : ByteArray := prog_8_method_3_code
def yX6_hold : MethodName := ⟨RX6, "hold", "()V"⟩
abbrev cX6_takeBack : ByteArray := prog_8_method_4_code
def yX6_takeBack : MethodName := ⟨RX6, "takeBack", "(LBalloonsMoor$Flock;)Z"⟩
abbrev cX6_forgetActs : ByteArray := prog_8_method_5_code
def yX6_forgetActs : MethodName := ⟨RX6, "forgetActs", "()V"⟩
abbrev cX6_forgetKept : ByteArray := prog_8_method_6_code
def yX6_forgetKept : MethodName := ⟨RX6, "forgetKept", "()V"⟩
abbrev cX6_store : ByteArray := prog_8_method_7_code
def yX6_store : MethodName := ⟨RX6, "store", "(LBalloonsMoor$Flock;I)V"⟩
abbrev cX6_fetch : ByteArray := prog_8_method_8_code
def yX6_fetch : MethodName := ⟨RX6, "fetch", "(LBalloonsMoor$Flock;I)V"⟩
def RX7 : String := "BalloonsMoor$Rule"
def TX7 : u_T := fun k => match k with
  | 0 => ("BalloonsMoor$Rule", "steps", "[I", true)
  | 1 => ("BalloonsMoor$Rule", "draft", "[I", true)
  | 2 => ("BalloonsMoor$Rule", "stack", "[I", true)
  | 3 => ("BalloonsMoor$Rule", "size", "I", false)
  | _ => ("BalloonsMoor$Rule", "drafted", "I", false)
def tyX7 : Nat → FieldType := fun k => match k with
  | 0 => .array .int
  | 1 => .array .int
  | 2 => .array .int
  | 3 => .int
  | _ => .int
abbrev wsX70 : List Cond := u_ws RX7 TX7 5
theorem nmX7 : ∀ a, a < 5 → ∀ b, b < 5 → a ≠ b → (TX7 a).2.1 ≠ (TX7 b).2.1 := by decide +kernel
theorem tyX7_ok : ∀ k, k < 5 → parseFieldDescriptor (TX7 k).2.2.1 = some (tyX7 k) := by decide +kernel
abbrev cX7_init : ByteArray := prog_9_method_1_code
def yX7_init : MethodName := ⟨RX7, "<init>", "()V"⟩
abbrev cX7_read : ByteArray := prog_9_method_2_code
def yX7_read : MethodName := ⟨RX7, "read", "(LBalloonsMoor$Told;)Z"⟩
abbrev cX7_write : ByteArray := prog_9_method_3_code
def yX7_write : MethodName := ⟨RX7, "write", "(I)V"⟩
abbrev cX7_readCompared : ByteArray := prog_9_method_4_code
def yX7_readCompared : MethodName := ⟨RX7, "readCompared", "(LBalloonsMoor$Told;I)Z"⟩
abbrev cX7_readSum : ByteArray := prog_9_method_5_code
def yX7_readSum : MethodName := ⟨RX7, "readSum", "(LBalloonsMoor$Told;I)Z"⟩
abbrev cX7_readProduct : ByteArray := prog_9_method_6_code
def yX7_readProduct : MethodName := ⟨RX7, "readProduct", "(LBalloonsMoor$Told;I)Z"⟩
abbrev cX7_readSigned : ByteArray := prog_9_method_7_code
def yX7_readSigned : MethodName := ⟨RX7, "readSigned", "(LBalloonsMoor$Told;I)Z"⟩
abbrev cX7_readThing : ByteArray := prog_9_method_8_code
def yX7_readThing : MethodName := ⟨RX7, "readThing", "(LBalloonsMoor$Told;I)Z"⟩
abbrev cX7_valueBy : ByteArray := prog_9_method_9_code
def yX7_valueBy : MethodName := ⟨RX7, "valueBy", "([I)I"⟩
abbrev cX7_joined : ByteArray := prog_9_method_10_code
def yX7_joined : MethodName := ⟨RX7, "joined", "(III)I"⟩
def RX8 : String := "BalloonsMoor$Told"
def TX8 : u_T := fun k => match k with
  | 0 => ("BalloonsMoor$Told", "signs", "[C", true)
  | 1 => ("BalloonsMoor$Told", "stop", "I", false)
  | 2 => ("BalloonsMoor$Told", "at", "I", false)
  | _ => ("BalloonsMoor$Told", "size", "I", false)
def tyX8 : Nat → FieldType := fun k => match k with
  | 0 => .array .char
  | 1 => .int
  | 2 => .int
  | _ => .int
abbrev wsX80 : List Cond := u_ws RX8 TX8 4
theorem nmX8 : ∀ a, a < 4 → ∀ b, b < 4 → a ≠ b → (TX8 a).2.1 ≠ (TX8 b).2.1 := by decide +kernel
theorem tyX8_ok : ∀ k, k < 4 → parseFieldDescriptor (TX8 k).2.2.1 = some (tyX8 k) := by decide +kernel
abbrev cX8_init : ByteArray := prog_10_method_1_code
def yX8_init : MethodName := ⟨RX8, "<init>", "()V"⟩
abbrev cX8_append : ByteArray := prog_10_method_2_code
def yX8_append : MethodName := ⟨RX8, "append", "(C)V"⟩
abbrev cX8_open : ByteArray := prog_10_method_3_code
def yX8_open : MethodName := ⟨RX8, "open", "(I)V"⟩
abbrev cX8_close : ByteArray := prog_10_method_4_code
def yX8_close : MethodName := ⟨RX8, "close", "()V"⟩
abbrev cX8_fault : ByteArray := prog_10_method_5_code
def yX8_fault : MethodName := ⟨RX8, "fault", "()I"⟩
abbrev cX8_isRead : ByteArray := prog_10_method_6_code
def yX8_isRead : MethodName := ⟨RX8, "isRead", "()Z"⟩
abbrev cX8_next : ByteArray := prog_10_method_7_code
def yX8_next : MethodName := ⟨RX8, "next", "()I"⟩
abbrev cX8_step : ByteArray := prog_10_method_8_code
def yX8_step : MethodName := ⟨RX8, "step", "()V"⟩
abbrev cX8_take : ByteArray := prog_10_method_9_code
def yX8_take : MethodName := ⟨RX8, "take", "(I)Z"⟩
abbrev cX8_isDigit : ByteArray := prog_10_method_10_code
def yX8_isDigit : MethodName := ⟨RX8, "isDigit", "()Z"⟩
abbrev cX8_digit : ByteArray := prog_10_method_11_code
def yX8_digit : MethodName := ⟨RX8, "digit", "(II)I"⟩
abbrev cX8_number : ByteArray := prog_10_method_12_code
def yX8_number : MethodName := ⟨RX8, "number", "()I"⟩
def RX9 : String := "BalloonsMoor$Tower"
def TX9 : u_T := fun k => match k with
  | 0 => ("BalloonsMoor$Tower", "height", "[I", true)
  | 1 => ("BalloonsMoor$Tower", "side", "[I", true)
  | 2 => ("BalloonsMoor$Tower", "draft", "[I", true)
  | 3 => ("BalloonsMoor$Tower", "near", "[I", true)
  | 4 => ("BalloonsMoor$Tower", "lower", "[I", true)
  | 5 => ("BalloonsMoor$Tower", "higher", "[I", true)
  | _ => ("BalloonsMoor$Tower", "size", "I", false)
def tyX9 : Nat → FieldType := fun k => match k with
  | 0 => .array .int
  | 1 => .array .int
  | 2 => .array .int
  | 3 => .array .int
  | 4 => .array .int
  | 5 => .array .int
  | _ => .int
abbrev wsX90 : List Cond := u_ws RX9 TX9 7
theorem nmX9 : ∀ a, a < 7 → ∀ b, b < 7 → a ≠ b → (TX9 a).2.1 ≠ (TX9 b).2.1 := by decide +kernel
theorem tyX9_ok : ∀ k, k < 7 → parseFieldDescriptor (TX9 k).2.2.1 = some (tyX9 k) := by decide +kernel
abbrev cX9_init : ByteArray := prog_11_method_1_code
def yX9_init : MethodName := ⟨RX9, "<init>", "()V"⟩
abbrev cX9_has : ByteArray := prog_11_method_2_code
def yX9_has : MethodName := ⟨RX9, "has", "(I)Z"⟩
abbrev cX9_read : ByteArray := prog_11_method_3_code
def yX9_read : MethodName := ⟨RX9, "read", "(LBalloonsMoor$Told;)I"⟩
abbrev cX9_readLines : ByteArray := prog_11_method_4_code
def yX9_readLines : MethodName := ⟨RX9, "readLines", "(LBalloonsMoor$Told;)I"⟩
abbrev cX9_compare : ByteArray := prog_11_method_5_code
def yX9_compare : MethodName := ⟨RX9, "compare", "()V"⟩
abbrev cX9_areNear : ByteArray := prog_11_method_6_code
def yX9_areNear : MethodName := ⟨RX9, "areNear", "(II)Z"⟩
abbrev cX9_isLower : ByteArray := prog_11_method_7_code
def yX9_isLower : MethodName := ⟨RX9, "isLower", "(II)Z"⟩
abbrev cX9_barredBy : ByteArray := prog_11_method_8_code
def yX9_barredBy : MethodName := ⟨RX9, "barredBy", "(III)I"⟩
def RX10 : String := "BalloonsMoor$Winds"
def TX10 : u_T := fun k => match k with
  | 0 => ("BalloonsMoor$Winds", "whither", "[I", true)
  | 1 => ("BalloonsMoor$Winds", "strong", "[I", true)
  | 2 => ("BalloonsMoor$Winds", "east", "[I", true)
  | 3 => ("BalloonsMoor$Winds", "south", "[I", true)
  | _ => ("BalloonsMoor$Winds", "draft", "[I", true)
def tyX10 : Nat → FieldType := fun k => match k with
  | 0 => .array .int
  | 1 => .array .int
  | 2 => .array .int
  | 3 => .array .int
  | _ => .array .int
abbrev wsX100 : List Cond := u_ws RX10 TX10 5
theorem nmX10 : ∀ a, a < 5 → ∀ b, b < 5 → a ≠ b → (TX10 a).2.1 ≠ (TX10 b).2.1 := by decide +kernel
theorem tyX10_ok : ∀ k, k < 5 → parseFieldDescriptor (TX10 k).2.2.1 = some (tyX10 k) := by decide +kernel
abbrev cX10_init : ByteArray := prog_12_method_1_code
def yX10_init : MethodName := ⟨RX10, "<init>", "()V"⟩
abbrev cX10_read : ByteArray := prog_12_method_2_code
def yX10_read : MethodName := ⟨RX10, "read", "(LBalloonsMoor$Told;)Z"⟩
abbrev cX10_readOne : ByteArray := prog_12_method_3_code
def yX10_readOne : MethodName := ⟨RX10, "readOne", "(LBalloonsMoor$Told;I)Z"⟩
abbrev cX10_put : ByteArray := prog_12_method_4_code
def yX10_put : MethodName := ⟨RX10, "put", "(III)V"⟩
abbrev cX10_blowing : ByteArray := prog_12_method_5_code
def yX10_blowing : MethodName := ⟨RX10, "blowing", "()I"⟩
def RX11 : String := "BalloonsMoor"
def TX11 : u_T := fun k => match k with
  | 0 => ("BalloonsMoor", "told", "LBalloonsMoor$Told;", true)
  | 1 => ("BalloonsMoor", "rings", "LBalloonsMoor$Tower;", true)
  | 2 => ("BalloonsMoor", "air", "LBalloonsMoor$Winds;", true)
  | 3 => ("BalloonsMoor", "lifting", "LBalloonsMoor$Rule;", true)
  | 4 => ("BalloonsMoor", "flock", "LBalloonsMoor$Flock;", true)
  | 5 => ("BalloonsMoor", "dream", "LBalloonsMoor$Flock;", true)
  | 6 => ("BalloonsMoor", "past", "LBalloonsMoor$Past;", true)
  | 7 => ("BalloonsMoor", "answers", "LBalloonsMoor$Answers;", true)
  | 8 => ("BalloonsMoor", "marks", "LBalloonsMoor$Marks;", true)
  | 9 => ("BalloonsMoor", "acts", "LBalloonsMoor$Acts;", true)
  | 10 => ("BalloonsMoor", "berthing", "LBalloonsMoor$Berths;", true)
  | _ => ("BalloonsMoor", "landing", "LBalloonsMoor$Landing;", true)
def tyX11 : Nat → FieldType := fun k => match k with
  | 0 => .object "BalloonsMoor$Told"
  | 1 => .object "BalloonsMoor$Tower"
  | 2 => .object "BalloonsMoor$Winds"
  | 3 => .object "BalloonsMoor$Rule"
  | 4 => .object "BalloonsMoor$Flock"
  | 5 => .object "BalloonsMoor$Flock"
  | 6 => .object "BalloonsMoor$Past"
  | 7 => .object "BalloonsMoor$Answers"
  | 8 => .object "BalloonsMoor$Marks"
  | 9 => .object "BalloonsMoor$Acts"
  | 10 => .object "BalloonsMoor$Berths"
  | _ => .object "BalloonsMoor$Landing"
abbrev wsX110 : List Cond := u_ws RX11 TX11 12
theorem nmX11 : ∀ a, a < 12 → ∀ b, b < 12 → a ≠ b → (TX11 a).2.1 ≠ (TX11 b).2.1 := by decide +kernel
theorem tyX11_ok : ∀ k, k < 12 → parseFieldDescriptor (TX11 k).2.2.1 = some (tyX11 k) := by decide +kernel
abbrev cX11_init : ByteArray := prog_1_method_1_code
def yX11_init : MethodName := ⟨RX11, "<init>", "()V"⟩
abbrev cX11_sign : ByteArray := prog_1_method_2_code
def yX11_sign : MethodName := ⟨RX11, "sign", "(I)I"⟩
abbrev cX11_end : ByteArray := prog_1_method_3_code
def yX11_end : MethodName := ⟨RX11, "end", "(I)Z"⟩
abbrev cX11_tower : ByteArray := prog_1_method_4_code
def yX11_tower : MethodName := ⟨RX11, "tower", "()I"⟩
abbrev cX11_balloons : ByteArray := prog_1_method_5_code
def yX11_balloons : MethodName := ⟨RX11, "balloons", "()I"⟩
abbrev cX11_winds : ByteArray := prog_1_method_6_code
def yX11_winds : MethodName := ⟨RX11, "winds", "()I"⟩
abbrev cX11_rule : ByteArray := prog_1_method_7_code
def yX11_rule : MethodName := ⟨RX11, "rule", "()I"⟩
abbrev cX11_ring : ByteArray := prog_1_method_8_code
def yX11_ring : MethodName := ⟨RX11, "ring", "(II)I"⟩
abbrev cX11_balloon : ByteArray := prog_1_method_9_code
def yX11_balloon : MethodName := ⟨RX11, "balloon", "(II)I"⟩
abbrev cX11_lift : ByteArray := prog_1_method_10_code
def yX11_lift : MethodName := ⟨RX11, "lift", "(I)I"⟩
abbrev cX11_rain : ByteArray := prog_1_method_11_code
def yX11_rain : MethodName := ⟨RX11, "rain", "(I)I"⟩
abbrev cX11_sheet : ByteArray := prog_1_method_12_code
def yX11_sheet : MethodName := ⟨RX11, "sheet", "(IIII)I"⟩
abbrev cX11_entryOf : ByteArray := prog_1_method_13_code
def yX11_entryOf : MethodName := ⟨RX11, "entryOf", "(II)I"⟩
abbrev cX11_launch : ByteArray := prog_1_method_14_code
def yX11_launch : MethodName := ⟨RX11, "launch", "(I)I"⟩
abbrev cX11_moor : ByteArray := prog_1_method_15_code
def yX11_moor : MethodName := ⟨RX11, "moor", "(II)I"⟩
abbrev cX11_cast : ByteArray := prog_1_method_16_code
def yX11_cast : MethodName := ⟨RX11, "cast", "(I)I"⟩
abbrev cX11_sacks : ByteArray := prog_1_method_17_code
def yX11_sacks : MethodName := ⟨RX11, "sacks", "(II)I"⟩
abbrev cX11_cargo : ByteArray := prog_1_method_18_code
def yX11_cargo : MethodName := ⟨RX11, "cargo", "(II)I"⟩
abbrev cX11_fill : ByteArray := prog_1_method_19_code
def yX11_fill : MethodName := ⟨RX11, "fill", "(II)I"⟩
abbrev cX11_hours : ByteArray := prog_1_method_20_code
def yX11_hours : MethodName := ⟨RX11, "hours", "(I)I"⟩
abbrev cX11_day : ByteArray := prog_1_method_21_code
def yX11_day : MethodName := ⟨RX11, "day", "()I"⟩
abbrev cX11_undo : ByteArray := prog_1_method_22_code
def yX11_undo : MethodName := ⟨RX11, "undo", "()I"⟩
abbrev cX11_remembered : ByteArray := prog_1_method_23_code
def yX11_remembered : MethodName := ⟨RX11, "remembered", "(I)I"⟩
abbrev cX11_setFree : ByteArray := prog_1_method_24_code
def yX11_setFree : MethodName := ⟨RX11, "setFree", "(LBalloonsMoor$Flock;I)I"⟩
abbrev cX11_tie : ByteArray := prog_1_method_25_code
def yX11_tie : MethodName := ⟨RX11, "tie", "(II)I"⟩
abbrev cX11_untie : ByteArray := prog_1_method_26_code
def yX11_untie : MethodName := ⟨RX11, "untie", "(LBalloonsMoor$Flock;I)I"⟩
abbrev cX11_load : ByteArray := prog_1_method_27_code
def yX11_load : MethodName := ⟨RX11, "load", "(II)I"⟩
abbrev cX11_carryOut : ByteArray := prog_1_method_28_code
def yX11_carryOut : MethodName := ⟨RX11, "carryOut", "(I)I"⟩
abbrev cX11_touches : ByteArray := prog_1_method_29_code
def yX11_touches : MethodName := ⟨RX11, "touches", "()I"⟩
abbrev cX11_breaches : ByteArray := prog_1_method_30_code
def yX11_breaches : MethodName := ⟨RX11, "breaches", "()I"⟩
abbrev cX11_drifts : ByteArray := prog_1_method_31_code
def yX11_drifts : MethodName := ⟨RX11, "drifts", "(II)I"⟩
abbrev cX11_sinks : ByteArray := prog_1_method_32_code
def yX11_sinks : MethodName := ⟨RX11, "sinks", "(I)I"⟩
abbrev cX11_rises : ByteArray := prog_1_method_33_code
def yX11_rises : MethodName := ⟨RX11, "rises", "(II)I"⟩
abbrev cX11_berths : ByteArray := prog_1_method_34_code
def yX11_berths : MethodName := ⟨RX11, "berths", "(I)I"⟩
abbrev cX11_served : ByteArray := prog_1_method_35_code
def yX11_served : MethodName := ⟨RX11, "served", "(I)I"⟩
abbrev cX11_yields : ByteArray := prog_1_method_36_code
def yX11_yields : MethodName := ⟨RX11, "yields", "(I)I"⟩
abbrev cX11_lands : ByteArray := prog_1_method_37_code
def yX11_lands : MethodName := ⟨RX11, "lands", "(III)I"⟩
abbrev cX11_nearest : ByteArray := prog_1_method_38_code
def yX11_nearest : MethodName := ⟨RX11, "nearest", "(II)I"⟩
abbrev cX11_storm : ByteArray := prog_1_method_39_code
def yX11_storm : MethodName := ⟨RX11, "storm", "()I"⟩
abbrev cX11_savable : ByteArray := prog_1_method_40_code
def yX11_savable : MethodName := ⟨RX11, "savable", "(II)I"⟩
abbrev cX11_withRope : ByteArray := prog_1_method_41_code
def yX11_withRope : MethodName := ⟨RX11, "withRope", "(II)I"⟩
abbrev cX11_firstDown : ByteArray := prog_1_method_42_code
def yX11_firstDown : MethodName := ⟨RX11, "firstDown", "(III)I"⟩
abbrev cX11_rests : ByteArray := prog_1_method_43_code
def yX11_rests : MethodName := ⟨RX11, "rests", "(I)I"⟩
abbrev cX11_isContent : ByteArray := prog_1_method_44_code
def yX11_isContent : MethodName := ⟨RX11, "isContent", "(III)Z"⟩
abbrev cX11_gain : ByteArray := prog_1_method_45_code
def yX11_gain : MethodName := ⟨RX11, "gain", "(III)I"⟩
abbrev cX11_mark : ByteArray := prog_1_method_46_code
def yX11_mark : MethodName := ⟨RX11, "mark", "(III)I"⟩
abbrev cX11_wipe : ByteArray := prog_1_method_47_code
def yX11_wipe : MethodName := ⟨RX11, "wipe", "()I"⟩
abbrev cX11_lay : ByteArray := prog_1_method_48_code
def yX11_lay : MethodName := ⟨RX11, "lay", "(I)I"⟩
abbrev cX11_ways : ByteArray := prog_1_method_49_code
def yX11_ways : MethodName := ⟨RX11, "ways", "()I"⟩
abbrev cX11_sure : ByteArray := prog_1_method_50_code
def yX11_sure : MethodName := ⟨RX11, "sure", "()I"⟩
abbrev cX11_chance : ByteArray := prog_1_method_51_code
def yX11_chance : MethodName := ⟨RX11, "chance", "(IIII)I"⟩
abbrev cX11_when : ByteArray := prog_1_method_52_code
def yX11_when : MethodName := ⟨RX11, "when", "(II)I"⟩
abbrev cX11_likely : ByteArray := prog_1_method_53_code
def yX11_likely : MethodName := ⟨RX11, "likely", "(IIII)J"⟩
abbrev cX11_power : ByteArray := prog_1_method_54_code
def yX11_power : MethodName := ⟨RX11, "power", "(II)J"⟩
abbrev cX11_season : ByteArray := prog_1_method_55_code
def yX11_season : MethodName := ⟨RX11, "season", "(II)I"⟩
abbrev cX11_stir : ByteArray := prog_1_method_56_code
def yX11_stir : MethodName := ⟨RX11, "stir", "(I)I"⟩
abbrev cX11_drawn : ByteArray := prog_1_method_57_code
def yX11_drawn : MethodName := ⟨RX11, "drawn", "(II)I"⟩
abbrev cX11_keep : ByteArray := prog_1_method_58_code
def yX11_keep : MethodName := ⟨RX11, "keep", "(I)Z"⟩
abbrev cX11_again : ByteArray := prog_1_method_59_code
def yX11_again : MethodName := ⟨RX11, "again", "(I)Z"⟩
abbrev cX11_count : ByteArray := prog_1_method_60_code
def yX11_count : MethodName := ⟨RX11, "count", "(I)I"⟩
abbrev cX11_row : ByteArray := prog_1_method_61_code
def yX11_row : MethodName := ⟨RX11, "row", "(I)J"⟩
abbrev cX11_tell : ByteArray := prog_1_method_62_code
def yX11_tell : MethodName := ⟨RX11, "tell", "(JJ)V"⟩
abbrev cX11_tellFirst : ByteArray := prog_1_method_63_code
def yX11_tellFirst : MethodName := ⟨RX11, "tellFirst", "(III)V"⟩
abbrev cX11_tellFraction : ByteArray := prog_1_method_64_code
def yX11_tellFraction : MethodName := ⟨RX11, "tellFraction", "(JJ)V"⟩
abbrev cX11_highBy : ByteArray := prog_1_method_65_code
def yX11_highBy : MethodName := ⟨RX11, "highBy", "(I)I"⟩
abbrev cX11_isOver : ByteArray := prog_1_method_66_code
def yX11_isOver : MethodName := ⟨RX11, "isOver", "(II)Z"⟩
def RX12 : String := "BalloonsMoorModel"
def TX12 : u_T := fun k => match k with
  | 0 => ("BalloonsMoorModel", "thrown", "I", false)
  | 1 => ("BalloonsMoorModel", "rows", "I", false)
  | 2 => ("BalloonsMoorModel", "row", "[J", true)
  | 3 => ("BalloonsMoorModel", "rings", "I", false)
  | 4 => ("BalloonsMoorModel", "balloons", "I", false)
  | 5 => ("BalloonsMoorModel", "changes", "I", false)
  | 6 => ("BalloonsMoorModel", "rain", "I", false)
  | 7 => ("BalloonsMoorModel", "height", "[I", true)
  | 8 => ("BalloonsMoorModel", "side", "[I", true)
  | 9 => ("BalloonsMoorModel", "rope", "[I", true)
  | 10 => ("BalloonsMoorModel", "leak", "[I", true)
  | 11 => ("BalloonsMoorModel", "whither", "[I", true)
  | 12 => ("BalloonsMoorModel", "strong", "[I", true)
  | 13 => ("BalloonsMoorModel", "now", "[I", true)
  | 14 => ("BalloonsMoorModel", "then", "[I", true)
  | 15 => ("BalloonsMoorModel", "tape", "[I", true)
  | 16 => ("BalloonsMoorModel", "taped", "I", false)
  | 17 => ("BalloonsMoorModel", "at", "I", false)
  | 18 => ("BalloonsMoorModel", "to", "I", false)
  | 19 => ("BalloonsMoorModel", "nest", "I", false)
  | 20 => ("BalloonsMoorModel", "read", "[I", true)
  | 21 => ("BalloonsMoorModel", "readMany", "I", false)
  | 22 => ("BalloonsMoorModel", "code", "[I", true)
  | 23 => ("BalloonsMoorModel", "readCode", "[I", true)
  | 24 => ("BalloonsMoorModel", "codeLong", "I", false)
  | 25 => ("BalloonsMoorModel", "readLong", "I", false)
  | 26 => ("BalloonsMoorModel", "stack", "[I", true)
  | 27 => ("BalloonsMoorModel", "asked", "[I", true)
  | 28 => ("BalloonsMoorModel", "undos", "I", false)
  | 29 => ("BalloonsMoorModel", "undone", "[I", true)
  | 30 => ("BalloonsMoorModel", "cameBits", "I", false)
  | 31 => ("BalloonsMoorModel", "lostBits", "I", false)
  | 32 => ("BalloonsMoorModel", "cameMany", "I", false)
  | 33 => ("BalloonsMoorModel", "lostMany", "I", false)
  | 34 => ("BalloonsMoorModel", "torn", "[I", true)
  | 35 => ("BalloonsMoorModel", "actSign", "[I", true)
  | 36 => ("BalloonsMoorModel", "actOne", "[I", true)
  | 37 => ("BalloonsMoorModel", "actTwo", "[I", true)
  | 38 => ("BalloonsMoorModel", "acts", "I", false)
  | 39 => ("BalloonsMoorModel", "berth", "[I", true)
  | 40 => ("BalloonsMoorModel", "firstBerth", "[I", true)
  | 41 => ("BalloonsMoorModel", "berthMany", "I", false)
  | 42 => ("BalloonsMoorModel", "stages", "[I", true)
  | 43 => ("BalloonsMoorModel", "alone", "[I", true)
  | 44 => ("BalloonsMoorModel", "dropped", "[I", true)
  | 45 => ("BalloonsMoorModel", "landSacks", "I", false)
  | 46 => ("BalloonsMoorModel", "landHours", "I", false)
  | 47 => ("BalloonsMoorModel", "order", "[I", true)
  | 48 => ("BalloonsMoorModel", "bestOrder", "[I", true)
  | 49 => ("BalloonsMoorModel", "bestMany", "I", false)
  | 50 => ("BalloonsMoorModel", "marks", "I", false)
  | 51 => ("BalloonsMoorModel", "markRing", "[I", true)
  | 52 => ("BalloonsMoorModel", "markWhat", "[I", true)
  | 53 => ("BalloonsMoorModel", "markOf", "[I", true)
  | 54 => ("BalloonsMoorModel", "wayMany", "I", false)
  | 55 => ("BalloonsMoorModel", "lain", "[I", true)
  | 56 => ("BalloonsMoorModel", "firstLain", "[I", true)
  | 57 => ("BalloonsMoorModel", "sameBits", "I", false)
  | 58 => ("BalloonsMoorModel", "up", "J", false)
  | 59 => ("BalloonsMoorModel", "down", "J", false)
  | 60 => ("BalloonsMoorModel", "isKept", "[Z", true)
  | 61 => ("BalloonsMoorModel", "keptChanges", "[I", true)
  | _ => ("BalloonsMoorModel", "kept", "[I", true)
def tyX12 : Nat → FieldType := fun k => match k with
  | 0 => .int
  | 1 => .int
  | 2 => .array .long
  | 3 => .int
  | 4 => .int
  | 5 => .int
  | 6 => .int
  | 7 => .array .int
  | 8 => .array .int
  | 9 => .array .int
  | 10 => .array .int
  | 11 => .array .int
  | 12 => .array .int
  | 13 => .array .int
  | 14 => .array .int
  | 15 => .array .int
  | 16 => .int
  | 17 => .int
  | 18 => .int
  | 19 => .int
  | 20 => .array .int
  | 21 => .int
  | 22 => .array .int
  | 23 => .array .int
  | 24 => .int
  | 25 => .int
  | 26 => .array .int
  | 27 => .array .int
  | 28 => .int
  | 29 => .array .int
  | 30 => .int
  | 31 => .int
  | 32 => .int
  | 33 => .int
  | 34 => .array .int
  | 35 => .array .int
  | 36 => .array .int
  | 37 => .array .int
  | 38 => .int
  | 39 => .array .int
  | 40 => .array .int
  | 41 => .int
  | 42 => .array .int
  | 43 => .array .int
  | 44 => .array .int
  | 45 => .int
  | 46 => .int
  | 47 => .array .int
  | 48 => .array .int
  | 49 => .int
  | 50 => .int
  | 51 => .array .int
  | 52 => .array .int
  | 53 => .array .int
  | 54 => .int
  | 55 => .array .int
  | 56 => .array .int
  | 57 => .int
  | 58 => .long
  | 59 => .long
  | 60 => .array .boolean
  | 61 => .array .int
  | _ => .array .int
abbrev wsX120 : List Cond := u_ws RX12 TX12 63
theorem nmX12 : ∀ a, a < 63 → ∀ b, b < 63 → a ≠ b → (TX12 a).2.1 ≠ (TX12 b).2.1 := by decide +kernel
theorem tyX12_ok : ∀ k, k < 63 → parseFieldDescriptor (TX12 k).2.2.1 = some (tyX12 k) := by decide +kernel
abbrev cX12_init : ByteArray := prog_14_method_1_code
def yX12_init : MethodName := ⟨RX12, "<init>", "()V"⟩
abbrev cX12_thrown : ByteArray := prog_14_method_2_code
def yX12_thrown : MethodName := ⟨RX12, "thrown", "()I"⟩
abbrev cX12_refuse : ByteArray := prog_14_method_3_code
def yX12_refuse : MethodName := ⟨RX12, "refuse", "()I"⟩
abbrev cX12_in : ByteArray := prog_14_method_4_code
def yX12_in : MethodName := ⟨RX12, "in", "(JJJ)Z"⟩
abbrev cX12_has : ByteArray := prog_14_method_5_code
def yX12_has : MethodName := ⟨RX12, "has", "(II)Z"⟩
abbrev cX12_flag : ByteArray := prog_14_method_6_code
def yX12_flag : MethodName := ⟨RX12, "flag", "(Z)I"⟩
abbrev cX12_common : ByteArray := prog_14_method_7_code
def yX12_common : MethodName := ⟨RX12, "common", "(JJ)J"⟩
abbrev cX12_enters : ByteArray := prog_14_method_8_code
def yX12_enters : MethodName := ⟨RX12, "enters", "(J)V"⟩
abbrev cX12_isRing : ByteArray := prog_14_method_9_code
def yX12_isRing : MethodName := ⟨RX12, "isRing", "(I)Z"⟩
abbrev cX12_isBalloon : ByteArray := prog_14_method_10_code
def yX12_isBalloon : MethodName := ⟨RX12, "isBalloon", "(I)Z"⟩
abbrev cX12_how : ByteArray := prog_14_method_11_code
def yX12_how : MethodName := ⟨RX12, "how", "(I)I"⟩
abbrev cX12_sign : ByteArray := prog_14_method_12_code
def yX12_sign : MethodName := ⟨RX12, "sign", "(I)I"⟩
abbrev cX12_end : ByteArray := prog_14_method_13_code
def yX12_end : MethodName := ⟨RX12, "end", "(I)Z"⟩
abbrev cX12_begins : ByteArray := prog_14_method_14_code
def yX12_begins : MethodName := ⟨RX12, "begins", "(I)I"⟩
abbrev cX12_takes : ByteArray := prog_14_method_15_code
def yX12_takes : MethodName := ⟨RX12, "takes", "(I)Z"⟩
abbrev cX12_isDigit : ByteArray := prog_14_method_16_code
def yX12_isDigit : MethodName := ⟨RX12, "isDigit", "()Z"⟩
abbrev cX12_among : ByteArray := prog_14_method_17_code
def yX12_among : MethodName := ⟨RX12, "among", "(Ljava/lang/String;)I"⟩
abbrev cX12_takesOf : ByteArray := prog_14_method_18_code
def yX12_takesOf : MethodName := ⟨RX12, "takesOf", "(Ljava/lang/String;)I"⟩
abbrev cX12_number : ByteArray := prog_14_method_19_code
def yX12_number : MethodName := ⟨RX12, "number", "(I)I"⟩
abbrev cX12_faultOf : ByteArray := prog_14_method_20_code
def yX12_faultOf : MethodName := ⟨RX12, "faultOf", "(IIZ)I"⟩
abbrev cX12_readsRing : ByteArray := prog_14_method_21_code
def yX12_readsRing : MethodName := ⟨RX12, "readsRing", "()Z"⟩
abbrev cX12_tower : ByteArray := prog_14_method_22_code
def yX12_tower : MethodName := ⟨RX12, "tower", "()I"⟩
abbrev cX12_readsBalloon : ByteArray := prog_14_method_23_code
def yX12_readsBalloon : MethodName := ⟨RX12, "readsBalloon", "()Z"⟩
abbrev cX12_balloons : ByteArray := prog_14_method_24_code
def yX12_balloons : MethodName := ⟨RX12, "balloons", "()I"⟩
abbrev cX12_readsWind : ByteArray := prog_14_method_25_code
def yX12_readsWind : MethodName := ⟨RX12, "readsWind", "(I)Z"⟩
abbrev cX12_winds : ByteArray := prog_14_method_26_code
def yX12_winds : MethodName := ⟨RX12, "winds", "()I"⟩
abbrev cX12_codes : ByteArray := prog_14_method_27_code
def yX12_codes : MethodName := ⟨RX12, "codes", "(I)V"⟩
abbrev cX12_readsThing : ByteArray := prog_14_method_28_code
def yX12_readsThing : MethodName := ⟨RX12, "readsThing", "()Z"⟩
abbrev cX12_readsRank : ByteArray := prog_14_method_29_code
def yX12_readsRank : MethodName := ⟨RX12, "readsRank", "(I)Z"⟩
abbrev cX12_rule : ByteArray := prog_14_method_30_code
def yX12_rule : MethodName := ⟨RX12, "rule", "()I"⟩
abbrev cX12_worked : ByteArray := prog_14_method_31_code
def yX12_worked : MethodName := ⟨RX12, "worked", "(III)I"⟩
abbrev cX12_ruled : ByteArray := prog_14_method_32_code
def yX12_ruled : MethodName := ⟨RX12, "ruled", "()I"⟩
abbrev cX12_liftOf : ByteArray := prog_14_method_33_code
def yX12_liftOf : MethodName := ⟨RX12, "liftOf", "([II)I"⟩
abbrev cX12_highOf : ByteArray := prog_14_method_34_code
def yX12_highOf : MethodName := ⟨RX12, "highOf", "([II)I"⟩
abbrev cX12_heavy : ByteArray := prog_14_method_35_code
def yX12_heavy : MethodName := ⟨RX12, "heavy", "(I)I"⟩
abbrev cX12_mooredAt : ByteArray := prog_14_method_36_code
def yX12_mooredAt : MethodName := ⟨RX12, "mooredAt", "(I)I"⟩
abbrev cX12_cellOf : ByteArray := prog_14_method_37_code
def yX12_cellOf : MethodName := ⟨RX12, "cellOf", "([II)I"⟩
abbrev cX12_ringOf : ByteArray := prog_14_method_38_code
def yX12_ringOf : MethodName := ⟨RX12, "ringOf", "([II)I"⟩
abbrev cX12_ring : ByteArray := prog_14_method_39_code
def yX12_ring : MethodName := ⟨RX12, "ring", "(II)I"⟩
abbrev cX12_balloon : ByteArray := prog_14_method_40_code
def yX12_balloon : MethodName := ⟨RX12, "balloon", "(II)I"⟩
abbrev cX12_lift : ByteArray := prog_14_method_41_code
def yX12_lift : MethodName := ⟨RX12, "lift", "(I)I"⟩
abbrev cX12_rain : ByteArray := prog_14_method_42_code
def yX12_rain : MethodName := ⟨RX12, "rain", "(I)I"⟩
abbrev cX12_sheet : ByteArray := prog_14_method_43_code
def yX12_sheet : MethodName := ⟨RX12, "sheet", "(IIII)I"⟩
abbrev cX12_putsBy : ByteArray := prog_14_method_44_code
def yX12_putsBy : MethodName := ⟨RX12, "putsBy", "()V"⟩
abbrev cX12_adds : ByteArray := prog_14_method_45_code
def yX12_adds : MethodName := ⟨RX12, "adds", "(I)I"⟩
abbrev cX12_counts : ByteArray := prog_14_method_46_code
def yX12_counts : MethodName := ⟨RX12, "counts", "(I)I"⟩
abbrev cX12_undo : ByteArray := prog_14_method_47_code
def yX12_undo : MethodName := ⟨RX12, "undo", "()I"⟩
abbrev cX12_frees : ByteArray := prog_14_method_48_code
def yX12_frees : MethodName := ⟨RX12, "frees", "([II)V"⟩
abbrev cX12_launches : ByteArray := prog_14_method_49_code
def yX12_launches : MethodName := ⟨RX12, "launches", "([II)I"⟩
abbrev cX12_apart : ByteArray := prog_14_method_50_code
def yX12_apart : MethodName := ⟨RX12, "apart", "([II)I"⟩
abbrev cX12_canTie : ByteArray := prog_14_method_51_code
def yX12_canTie : MethodName := ⟨RX12, "canTie", "([III)Z"⟩
abbrev cX12_moors : ByteArray := prog_14_method_52_code
def yX12_moors : MethodName := ⟨RX12, "moors", "(II)I"⟩
abbrev cX12_casts : ByteArray := prog_14_method_53_code
def yX12_casts : MethodName := ⟨RX12, "casts", "([II)I"⟩
abbrev cX12_sacksBy : ByteArray := prog_14_method_54_code
def yX12_sacksBy : MethodName := ⟨RX12, "sacksBy", "(II)I"⟩
abbrev cX12_loads : ByteArray := prog_14_method_55_code
def yX12_loads : MethodName := ⟨RX12, "loads", "(II)I"⟩
abbrev cX12_fills : ByteArray := prog_14_method_56_code
def yX12_fills : MethodName := ⟨RX12, "fills", "(II)I"⟩
abbrev cX12_startsCounting : ByteArray := prog_14_method_57_code
def yX12_startsCounting : MethodName := ⟨RX12, "startsCounting", "()V"⟩
abbrev cX12_isLost : ByteArray := prog_14_method_58_code
def yX12_isLost : MethodName := ⟨RX12, "isLost", "([II)V"⟩
abbrev cX12_eastward : ByteArray := prog_14_method_59_code
def yX12_eastward : MethodName := ⟨RX12, "eastward", "(I)I"⟩
abbrev cX12_southward : ByteArray := prog_14_method_60_code
def yX12_southward : MethodName := ⟨RX12, "southward", "(I)I"⟩
abbrev cX12_blows : ByteArray := prog_14_method_61_code
def yX12_blows : MethodName := ⟨RX12, "blows", "([III)Z"⟩
abbrev cX12_touch : ByteArray := prog_14_method_62_code
def yX12_touch : MethodName := ⟨RX12, "touch", "(II)Z"⟩
abbrev cX12_comesDown : ByteArray := prog_14_method_63_code
def yX12_comesDown : MethodName := ⟨RX12, "comesDown", "([II)V"⟩
abbrev cX12_hourGoes : ByteArray := prog_14_method_64_code
def yX12_hourGoes : MethodName := ⟨RX12, "hourGoes", "([I)V"⟩
abbrev cX12_launch : ByteArray := prog_14_method_65_code
def yX12_launch : MethodName := ⟨RX12, "launch", "(I)I"⟩
abbrev cX12_moor : ByteArray := prog_14_method_66_code
def yX12_moor : MethodName := ⟨RX12, "moor", "(II)I"⟩
abbrev cX12_cast : ByteArray := prog_14_method_67_code
def yX12_cast : MethodName := ⟨RX12, "cast", "(I)I"⟩
abbrev cX12_sacks : ByteArray := prog_14_method_68_code
def yX12_sacks : MethodName := ⟨RX12, "sacks", "(II)I"⟩
abbrev cX12_cargo : ByteArray := prog_14_method_69_code
def yX12_cargo : MethodName := ⟨RX12, "cargo", "(II)I"⟩
abbrev cX12_fill : ByteArray := prog_14_method_70_code
def yX12_fill : MethodName := ⟨RX12, "fill", "(II)I"⟩
abbrev cX12_hours : ByteArray := prog_14_method_71_code
def yX12_hours : MethodName := ⟨RX12, "hours", "(I)I"⟩
abbrev cX12_readsAct : ByteArray := prog_14_method_72_code
def yX12_readsAct : MethodName := ⟨RX12, "readsAct", "()Z"⟩
abbrev cX12_does : ByteArray := prog_14_method_73_code
def yX12_does : MethodName := ⟨RX12, "does", "(I)Z"⟩
abbrev cX12_day : ByteArray := prog_14_method_74_code
def yX12_day : MethodName := ⟨RX12, "day", "()I"⟩
abbrev cX12_touches : ByteArray := prog_14_method_75_code
def yX12_touches : MethodName := ⟨RX12, "touches", "()I"⟩
abbrev cX12_isBreach : ByteArray := prog_14_method_76_code
def yX12_isBreach : MethodName := ⟨RX12, "isBreach", "(IIII)Z"⟩
abbrev cX12_breaches : ByteArray := prog_14_method_77_code
def yX12_breaches : MethodName := ⟨RX12, "breaches", "()I"⟩
abbrev cX12_puts : ByteArray := prog_14_method_78_code
def yX12_puts : MethodName := ⟨RX12, "puts", "()V"⟩
abbrev cX12_drifts : ByteArray := prog_14_method_79_code
def yX12_drifts : MethodName := ⟨RX12, "drifts", "(II)I"⟩
abbrev cX12_isUp : ByteArray := prog_14_method_80_code
def yX12_isUp : MethodName := ⟨RX12, "isUp", "([II)Z"⟩
abbrev cX12_sinks : ByteArray := prog_14_method_81_code
def yX12_sinks : MethodName := ⟨RX12, "sinks", "(I)I"⟩
abbrev cX12_rises : ByteArray := prog_14_method_82_code
def yX12_rises : MethodName := ⟨RX12, "rises", "(II)I"⟩
abbrev cX12_canBeside : ByteArray := prog_14_method_83_code
def yX12_canBeside : MethodName := ⟨RX12, "canBeside", "(IIII)Z"⟩
abbrev cX12_berthsFrom : ByteArray := prog_14_method_84_code
def yX12_berthsFrom : MethodName := ⟨RX12, "berthsFrom", "(IIIZ)V"⟩
abbrev cX12_berths : ByteArray := prog_14_method_85_code
def yX12_berths : MethodName := ⟨RX12, "berths", "(I)I"⟩
abbrev cX12_served : ByteArray := prog_14_method_86_code
def yX12_served : MethodName := ⟨RX12, "served", "(I)I"⟩
abbrev cX12_yields : ByteArray := prog_14_method_87_code
def yX12_yields : MethodName := ⟨RX12, "yields", "(I)I"⟩
abbrev cX12_setsStage : ByteArray := prog_14_method_88_code
def yX12_setsStage : MethodName := ⟨RX12, "setsStage", "(II)V"⟩
abbrev cX12_takesStage : ByteArray := prog_14_method_89_code
def yX12_takesStage : MethodName := ⟨RX12, "takesStage", "(II)V"⟩
abbrev cX12_goesAlone : ByteArray := prog_14_method_90_code
def yX12_goesAlone : MethodName := ⟨RX12, "goesAlone", "(I)Z"⟩
abbrev cX12_landsBy : ByteArray := prog_14_method_91_code
def yX12_landsBy : MethodName := ⟨RX12, "landsBy", "(IIIII)Z"⟩
abbrev cX12_canLand : ByteArray := prog_14_method_92_code
def yX12_canLand : MethodName := ⟨RX12, "canLand", "(III)Z"⟩
abbrev cX12_takesNow : ByteArray := prog_14_method_93_code
def yX12_takesNow : MethodName := ⟨RX12, "takesNow", "(I)V"⟩
abbrev cX12_lands : ByteArray := prog_14_method_94_code
def yX12_lands : MethodName := ⟨RX12, "lands", "(III)I"⟩
abbrev cX12_nearest : ByteArray := prog_14_method_95_code
def yX12_nearest : MethodName := ⟨RX12, "nearest", "(II)I"⟩
abbrev cX12_letsDown : ByteArray := prog_14_method_96_code
def yX12_letsDown : MethodName := ⟨RX12, "letsDown", "(II)V"⟩
abbrev cX12_storm : ByteArray := prog_14_method_97_code
def yX12_storm : MethodName := ⟨RX12, "storm", "()I"⟩
abbrev cX12_earns : ByteArray := prog_14_method_98_code
def yX12_earns : MethodName := ⟨RX12, "earns", "(III)I"⟩
abbrev cX12_isRest : ByteArray := prog_14_method_99_code
def yX12_isRest : MethodName := ⟨RX12, "isRest", "(III)Z"⟩
abbrev cX12_rests : ByteArray := prog_14_method_100_code
def yX12_rests : MethodName := ⟨RX12, "rests", "(I)I"⟩
abbrev cX12_mark : ByteArray := prog_14_method_101_code
def yX12_mark : MethodName := ⟨RX12, "mark", "(III)I"⟩
abbrev cX12_wipe : ByteArray := prog_14_method_102_code
def yX12_wipe : MethodName := ⟨RX12, "wipe", "()I"⟩
abbrev cX12_fits : ByteArray := prog_14_method_103_code
def yX12_fits : MethodName := ⟨RX12, "fits", "(II)Z"⟩
abbrev cX12_lay : ByteArray := prog_14_method_104_code
def yX12_lay : MethodName := ⟨RX12, "lay", "(I)I"⟩
abbrev cX12_markedRings : ByteArray := prog_14_method_105_code
def yX12_markedRings : MethodName := ⟨RX12, "markedRings", "()I"⟩
abbrev cX12_laysFrom : ByteArray := prog_14_method_106_code
def yX12_laysFrom : MethodName := ⟨RX12, "laysFrom", "(III)V"⟩
abbrev cX12_laysWays : ByteArray := prog_14_method_107_code
def yX12_laysWays : MethodName := ⟨RX12, "laysWays", "()V"⟩
abbrev cX12_tellsLain : ByteArray := prog_14_method_108_code
def yX12_tellsLain : MethodName := ⟨RX12, "tellsLain", "(I)V"⟩
abbrev cX12_ways : ByteArray := prog_14_method_109_code
def yX12_ways : MethodName := ⟨RX12, "ways", "()I"⟩
abbrev cX12_sure : ByteArray := prog_14_method_110_code
def yX12_sure : MethodName := ⟨RX12, "sure", "()I"⟩
abbrev cX12_bets : ByteArray := prog_14_method_111_code
def yX12_bets : MethodName := ⟨RX12, "bets", "(IIII)V"⟩
abbrev cX12_tellsChance : ByteArray := prog_14_method_112_code
def yX12_tellsChance : MethodName := ⟨RX12, "tellsChance", "()V"⟩
abbrev cX12_chance : ByteArray := prog_14_method_113_code
def yX12_chance : MethodName := ⟨RX12, "chance", "(IIII)I"⟩
abbrev cX12_when : ByteArray := prog_14_method_114_code
def yX12_when : MethodName := ⟨RX12, "when", "(II)I"⟩
abbrev cX12_season : ByteArray := prog_14_method_115_code
def yX12_season : MethodName := ⟨RX12, "season", "(II)I"⟩
abbrev cX12_keep : ByteArray := prog_14_method_116_code
def yX12_keep : MethodName := ⟨RX12, "keep", "(I)Z"⟩
abbrev cX12_again : ByteArray := prog_14_method_117_code
def yX12_again : MethodName := ⟨RX12, "again", "(I)Z"⟩
abbrev cX12_allBy : ByteArray := prog_14_method_118_code
def yX12_allBy : MethodName := ⟨RX12, "allBy", "(I)I"⟩
abbrev cX12_count : ByteArray := prog_14_method_119_code
def yX12_count : MethodName := ⟨RX12, "count", "(I)I"⟩
abbrev cX12_row : ByteArray := prog_14_method_120_code
def yX12_row : MethodName := ⟨RX12, "row", "(I)J"⟩
def RJx145de : String := "java/io/Serializable"
def TJx145de : u_T := fun k => match k with
  | _ => ("", "", "", false)
def tyJx145de : Nat → FieldType := fun k => match k with
  | _ => .int
abbrev wsJx145de0 : List Cond := u_ws RJx145de TJx145de 0
theorem nmJx145de : ∀ a, a < 0 → ∀ b, b < 0 → a ≠ b → (TJx145de a).2.1 ≠ (TJx145de b).2.1 := by decide +kernel
theorem tyJx145de_ok : ∀ k, k < 0 → parseFieldDescriptor (TJx145de k).2.2.1 = some (tyJx145de k) := by decide +kernel
def RJx9f9b0 : String := "java/lang/CharSequence"
def TJx9f9b0 : u_T := fun k => match k with
  | _ => ("", "", "", false)
def tyJx9f9b0 : Nat → FieldType := fun k => match k with
  | _ => .int
abbrev wsJx9f9b00 : List Cond := u_ws RJx9f9b0 TJx9f9b0 0
theorem nmJx9f9b0 : ∀ a, a < 0 → ∀ b, b < 0 → a ≠ b → (TJx9f9b0 a).2.1 ≠ (TJx9f9b0 b).2.1 := by decide +kernel
theorem tyJx9f9b0_ok : ∀ k, k < 0 → parseFieldDescriptor (TJx9f9b0 k).2.2.1 = some (tyJx9f9b0 k) := by decide +kernel
def RJxb160c : String := "java/lang/Comparable"
def TJxb160c : u_T := fun k => match k with
  | _ => ("", "", "", false)
def tyJxb160c : Nat → FieldType := fun k => match k with
  | _ => .int
abbrev wsJxb160c0 : List Cond := u_ws RJxb160c TJxb160c 0
theorem nmJxb160c : ∀ a, a < 0 → ∀ b, b < 0 → a ≠ b → (TJxb160c a).2.1 ≠ (TJxb160c b).2.1 := by decide +kernel
theorem tyJxb160c_ok : ∀ k, k < 0 → parseFieldDescriptor (TJxb160c k).2.2.1 = some (tyJxb160c k) := by decide +kernel
def RJ6 : String := "java/lang/Integer"
def TJ6 : u_T := fun k => match k with
  | _ => ("", "", "", false)
def tyJ6 : Nat → FieldType := fun k => match k with
  | _ => .int
abbrev wsJ60 : List Cond := u_ws RJ6 TJ6 0
theorem nmJ6 : ∀ a, a < 0 → ∀ b, b < 0 → a ≠ b → (TJ6 a).2.1 ≠ (TJ6 b).2.1 := by decide +kernel
theorem tyJ6_ok : ∀ k, k < 0 → parseFieldDescriptor (TJ6 k).2.2.1 = some (tyJ6 k) := by decide +kernel
abbrev cJ6_bitCount_0f7a4 : ByteArray := prog_19_method_49_code
def yJ6_bitCount_0f7a4 : MethodName := ⟨RJ6, "bitCount", "(I)I"⟩
def RJ9 : String := "java/lang/Math"
def TJ9 : u_T := fun k => match k with
  | _ => ("", "", "", false)
def tyJ9 : Nat → FieldType := fun k => match k with
  | _ => .int
abbrev wsJ90 : List Cond := u_ws RJ9 TJ9 0
theorem nmJ9 : ∀ a, a < 0 → ∀ b, b < 0 → a ≠ b → (TJ9 a).2.1 ≠ (TJ9 b).2.1 := by decide +kernel
theorem tyJ9_ok : ∀ k, k < 0 → parseFieldDescriptor (TJ9 k).2.2.1 = some (tyJ9 k) := by decide +kernel
abbrev cJ9_abs_0f7a4 : ByteArray := prog_20_method_59_code
def yJ9_abs_0f7a4 : MethodName := ⟨RJ9, "abs", "(I)I"⟩
abbrev cJ9_max_7cf53 : ByteArray := prog_20_method_65_code
def yJ9_max_7cf53 : MethodName := ⟨RJ9, "max", "(II)I"⟩
abbrev cJ9_min_7cf53 : ByteArray := prog_20_method_69_code
def yJ9_min_7cf53 : MethodName := ⟨RJ9, "min", "(II)I"⟩
def RJ0 : String := "java/lang/String"
def TJ0 : u_T := fun k => match k with
  | _ => ("", "", "", false)
def tyJ0 : Nat → FieldType := fun k => match k with
  | _ => .int
abbrev wsJ00 : List Cond := u_ws RJ0 TJ0 0
theorem nmJ0 : ∀ a, a < 0 → ∀ b, b < 0 → a ≠ b → (TJ0 a).2.1 ≠ (TJ0 b).2.1 := by decide +kernel
theorem tyJ0_ok : ∀ k, k < 0 → parseFieldDescriptor (TJ0 k).2.2.1 = some (tyJ0 k) := by decide +kernel
abbrev cJ0_length_8abf5 : ByteArray := prog_22_method_54_code
def yJ0_length_8abf5 : MethodName := ⟨RJ0, "length", "()I"⟩
abbrev cJ0_charAt_5068e : ByteArray := prog_22_method_56_code
def yJ0_charAt_5068e : MethodName := ⟨RJ0, "charAt", "(I)C"⟩
abbrev cJ0_coder_7d493 : ByteArray := prog_22_method_152_code
def yJ0_coder_7d493 : MethodName := ⟨RJ0, "coder", "()B"⟩
abbrev cJ0_isLatin1_aae02 : ByteArray := prog_22_method_154_code
def yJ0_isLatin1_aae02 : MethodName := ⟨RJ0, "isLatin1", "()Z"⟩
abbrev cJ0_checkIndex_df160 : ByteArray := prog_22_method_155_code
def yJ0_checkIndex_df160 : MethodName := ⟨RJ0, "checkIndex", "(II)V"⟩
def RJ1 : String := "java/lang/StringLatin1"
def TJ1 : u_T := fun k => match k with
  | _ => ("", "", "", false)
def tyJ1 : Nat → FieldType := fun k => match k with
  | _ => .int
abbrev wsJ10 : List Cond := u_ws RJ1 TJ1 0
theorem nmJ1 : ∀ a, a < 0 → ∀ b, b < 0 → a ≠ b → (TJ1 a).2.1 ≠ (TJ1 b).2.1 := by decide +kernel
theorem tyJ1_ok : ∀ k, k < 0 → parseFieldDescriptor (TJ1 k).2.2.1 = some (tyJ1 k) := by decide +kernel
abbrev cJ1_charAt_3b067 : ByteArray := prog_23_method_2_code
def yJ1_charAt_3b067 : MethodName := ⟨RJ1, "charAt", "([BI)C"⟩
def RJ2 : String := "java/lang/StringUTF16"
def TJ2 : u_T := fun k => match k with
  | _ => ("", "", "", false)
def tyJ2 : Nat → FieldType := fun k => match k with
  | _ => .int
abbrev wsJ20 : List Cond := u_ws RJ2 TJ2 0
theorem nmJ2 : ∀ a, a < 0 → ∀ b, b < 0 → a ≠ b → (TJ2 a).2.1 ≠ (TJ2 b).2.1 := by decide +kernel
theorem tyJ2_ok : ∀ k, k < 0 → parseFieldDescriptor (TJ2 k).2.2.1 = some (tyJ2 k) := by decide +kernel
abbrev cJ2_getChar_3b067 : ByteArray := prog_24_method_5_code
def yJ2_getChar_3b067 : MethodName := ⟨RJ2, "getChar", "([BI)C"⟩
abbrev cJ2_length_9d52b : ByteArray := prog_24_method_6_code
def yJ2_length_9d52b : MethodName := ⟨RJ2, "length", "([B)I"⟩
abbrev cJ2_charAt_3b067 : ByteArray := prog_24_method_83_code
def yJ2_charAt_3b067 : MethodName := ⟨RJ2, "charAt", "([BI)C"⟩
abbrev cJ2_checkIndex_2214a : ByteArray := prog_24_method_91_code
def yJ2_checkIndex_2214a : MethodName := ⟨RJ2, "checkIndex", "(I[B)V"⟩
def RJ10 : String := "java/lang/System"
def TJ10 : u_T := fun k => match k with
  | _ => ("", "", "", false)
def tyJ10 : Nat → FieldType := fun k => match k with
  | _ => .int
abbrev wsJ100 : List Cond := u_ws RJ10 TJ10 0
theorem nmJ10 : ∀ a, a < 0 → ∀ b, b < 0 → a ≠ b → (TJ10 a).2.1 ≠ (TJ10 b).2.1 := by decide +kernel
theorem tyJ10_ok : ∀ k, k < 0 → parseFieldDescriptor (TJ10 k).2.2.1 = some (tyJ10 k) := by decide +kernel
def RJxfd54e : String := "java/lang/constant/Constable"
def TJxfd54e : u_T := fun k => match k with
  | _ => ("", "", "", false)
def tyJxfd54e : Nat → FieldType := fun k => match k with
  | _ => .int
abbrev wsJxfd54e0 : List Cond := u_ws RJxfd54e TJxfd54e 0
theorem nmJxfd54e : ∀ a, a < 0 → ∀ b, b < 0 → a ≠ b → (TJxfd54e a).2.1 ≠ (TJxfd54e b).2.1 := by decide +kernel
theorem tyJxfd54e_ok : ∀ k, k < 0 → parseFieldDescriptor (TJxfd54e k).2.2.1 = some (tyJxfd54e k) := by decide +kernel
def RJx3cf43 : String := "java/lang/constant/ConstantDesc"
def TJx3cf43 : u_T := fun k => match k with
  | _ => ("", "", "", false)
def tyJx3cf43 : Nat → FieldType := fun k => match k with
  | _ => .int
abbrev wsJx3cf430 : List Cond := u_ws RJx3cf43 TJx3cf43 0
theorem nmJx3cf43 : ∀ a, a < 0 → ∀ b, b < 0 → a ≠ b → (TJx3cf43 a).2.1 ≠ (TJx3cf43 b).2.1 := by decide +kernel
theorem tyJx3cf43_ok : ∀ k, k < 0 → parseFieldDescriptor (TJx3cf43 k).2.2.1 = some (tyJx3cf43 k) := by decide +kernel
def RJ7 : String := "java/util/Arrays"
def TJ7 : u_T := fun k => match k with
  | _ => ("", "", "", false)
def tyJ7 : Nat → FieldType := fun k => match k with
  | _ => .int
abbrev wsJ70 : List Cond := u_ws RJ7 TJ7 0
theorem nmJ7 : ∀ a, a < 0 → ∀ b, b < 0 → a ≠ b → (TJ7 a).2.1 ≠ (TJ7 b).2.1 := by decide +kernel
theorem tyJ7_ok : ∀ k, k < 0 → parseFieldDescriptor (TJ7 k).2.2.1 = some (tyJ7 k) := by decide +kernel
abbrev cJ7_fill_d0a16 : ByteArray := prog_29_method_101_code
def yJ7_fill_d0a16 : MethodName := ⟨RJ7, "fill", "([JJ)V"⟩
abbrev cJ7_fill_53178 : ByteArray := prog_29_method_103_code
def yJ7_fill_53178 : MethodName := ⟨RJ7, "fill", "([II)V"⟩
def RJ3 : String := "jdk/internal/util/Preconditions"
def TJ3 : u_T := fun k => match k with
  | _ => ("", "", "", false)
def tyJ3 : Nat → FieldType := fun k => match k with
  | _ => .int
abbrev wsJ30 : List Cond := u_ws RJ3 TJ3 0
theorem nmJ3 : ∀ a, a < 0 → ∀ b, b < 0 → a ≠ b → (TJ3 a).2.1 ≠ (TJ3 b).2.1 := by decide +kernel
theorem tyJ3_ok : ∀ k, k < 0 → parseFieldDescriptor (TJ3 k).2.2.1 = some (tyJ3 k) := by decide +kernel
abbrev cJ3_checkIndex_8e157 : ByteArray := prog_31_method_11_code
def yJ3_checkIndex_8e157 : MethodName := ⟨RJ3, "checkIndex", "(IILjava/util/function/BiFunction;)I"⟩
def RL : String := "BalloonsMoorLaw"
abbrev cL_ring : ByteArray := method_3_code
def yL_ring : MethodName := ⟨RL, "ring", "(LBalloonsMoor;II[J)I"⟩
abbrev cL_balloon : ByteArray := method_4_code
def yL_balloon : MethodName := ⟨RL, "balloon", "(LBalloonsMoor;II[J)I"⟩
abbrev cL_lift : ByteArray := method_5_code
def yL_lift : MethodName := ⟨RL, "lift", "(LBalloonsMoor;I[J)I"⟩
abbrev cL_row : ByteArray := method_6_code
def yL_row : MethodName := ⟨RL, "row", "(LBalloonsMoor;I[J)I"⟩
abbrev cL_law : ByteArray := code
def yL_law : MethodName := ⟨RL, "law", "([I)Z"⟩
abbrev vwCl : List vw_C := [(RX0, TX0, 4), (RX1, TX1, 2), (RX2, TX2, 7), (RX3, TX3, 19), (RX4, TX4, 12), (RX5, TX5, 11), (RX6, TX6, 5), (RX7, TX7, 5), (RX8, TX8, 4), (RX9, TX9, 7), (RX10, TX10, 5), (RX11, TX11, 12), (RX12, TX12, 63)]
