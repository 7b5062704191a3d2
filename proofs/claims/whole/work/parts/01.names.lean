-- ===== PART A: goes FIRST, ahead of the names: the tables' words, and 'selects' of the private methods out of them =====
/-- a private method of a class that the tables say can be made, by its rows of tables_1 -/
def lw_okq (q : MethodName × Nat) : Prop := (q.1.cls ≠ "java/lang/invoke/MethodHandle" ∧ q.1.cls ≠ "java/lang/invoke/VarHandle") ∧ Cond.instantiable q.1.cls q.2 ∈ tables_1 ∧ Cond.privateMethod q.1 ∈ tables_1 ∧ Cond.instanceMethod q.1 ∈ tables_1
theorem lw_p0 : lw_okq (⟨"SteerBench", "isFull", "()Z"⟩, 11) := ⟨⟨by decide +kernel, by decide +kernel⟩, List.mem_of_getElem? (i := 17) (by decide +kernel), List.mem_of_getElem? (i := 239) (by decide +kernel), List.mem_of_getElem? (i := 240) (by decide +kernel)⟩
theorem lw_p1 : lw_okq (⟨"SteerBench", "kept", "(LSteerBench$Steps;)I"⟩, 11) := ⟨⟨by decide +kernel, by decide +kernel⟩, List.mem_of_getElem? (i := 17) (by decide +kernel), List.mem_of_getElem? (i := 258) (by decide +kernel), List.mem_of_getElem? (i := 259) (by decide +kernel)⟩
theorem lw_p2 : lw_okq (⟨"SteerBench", "machineAt", "(I)LSteerBench$Steps;"⟩, 11) := ⟨⟨by decide +kernel, by decide +kernel⟩, List.mem_of_getElem? (i := 17) (by decide +kernel), List.mem_of_getElem? (i := 266) (by decide +kernel), List.mem_of_getElem? (i := 267) (by decide +kernel)⟩
theorem lw_p3 : lw_okq (⟨"SteerBench", "joined", "(IIZ)I"⟩, 11) := ⟨⟨by decide +kernel, by decide +kernel⟩, List.mem_of_getElem? (i := 17) (by decide +kernel), List.mem_of_getElem? (i := 286) (by decide +kernel), List.mem_of_getElem? (i := 287) (by decide +kernel)⟩
theorem lw_p4 : lw_okq (⟨"SteerBench", "keptIfSmall", "(LSteerBench$Loop;)I"⟩, 11) := ⟨⟨by decide +kernel, by decide +kernel⟩, List.mem_of_getElem? (i := 17) (by decide +kernel), List.mem_of_getElem? (i := 312) (by decide +kernel), List.mem_of_getElem? (i := 313) (by decide +kernel)⟩
theorem lw_p5 : lw_okq (⟨"SteerBench$Look", "columnInto", "([J[J)V"⟩, 9) := ⟨⟨by decide +kernel, by decide +kernel⟩, List.mem_of_getElem? (i := 54) (by decide +kernel), List.mem_of_getElem? (i := 368) (by decide +kernel), List.mem_of_getElem? (i := 369) (by decide +kernel)⟩
theorem lw_p6 : lw_okq (⟨"SteerBench$Look", "rowInto", "([J[J)V"⟩, 9) := ⟨⟨by decide +kernel, by decide +kernel⟩, List.mem_of_getElem? (i := 54) (by decide +kernel), List.mem_of_getElem? (i := 372) (by decide +kernel), List.mem_of_getElem? (i := 373) (by decide +kernel)⟩
theorem lw_p7 : lw_okq (⟨"SteerBench$Look", "fillOwn", "()V"⟩, 9) := ⟨⟨by decide +kernel, by decide +kernel⟩, List.mem_of_getElem? (i := 54) (by decide +kernel), List.mem_of_getElem? (i := 376) (by decide +kernel), List.mem_of_getElem? (i := 377) (by decide +kernel)⟩
theorem lw_p8 : lw_okq (⟨"SteerBench$Look", "putOwn", "(IJ)V"⟩, 9) := ⟨⟨by decide +kernel, by decide +kernel⟩, List.mem_of_getElem? (i := 54) (by decide +kernel), List.mem_of_getElem? (i := 380) (by decide +kernel), List.mem_of_getElem? (i := 381) (by decide +kernel)⟩
theorem lw_p9 : lw_okq (⟨"SteerBench$Look", "pairMinor", "(II)J"⟩, 9) := ⟨⟨by decide +kernel, by decide +kernel⟩, List.mem_of_getElem? (i := 54) (by decide +kernel), List.mem_of_getElem? (i := 384) (by decide +kernel), List.mem_of_getElem? (i := 385) (by decide +kernel)⟩
theorem lw_p10 : lw_okq (⟨"SteerBench$Energy", "fillFlow", "(JJJJJ)V"⟩, 6) := ⟨⟨by decide +kernel, by decide +kernel⟩, List.mem_of_getElem? (i := 156) (by decide +kernel), List.mem_of_getElem? (i := 396) (by decide +kernel), List.mem_of_getElem? (i := 397) (by decide +kernel)⟩
theorem lw_p11 : lw_okq (⟨"SteerBench$Energy", "fill", "(IJJJ)V"⟩, 6) := ⟨⟨by decide +kernel, by decide +kernel⟩, List.mem_of_getElem? (i := 156) (by decide +kernel), List.mem_of_getElem? (i := 401) (by decide +kernel), List.mem_of_getElem? (i := 402) (by decide +kernel)⟩
theorem lw_p12 : lw_okq (⟨"SteerBench$Energy", "fillSides", "(J)V"⟩, 6) := ⟨⟨by decide +kernel, by decide +kernel⟩, List.mem_of_getElem? (i := 156) (by decide +kernel), List.mem_of_getElem? (i := 405) (by decide +kernel), List.mem_of_getElem? (i := 406) (by decide +kernel)⟩
theorem lw_p13 : lw_okq (⟨"SteerBench$Energy", "fillTicks", "(JJJJJ)V"⟩, 6) := ⟨⟨by decide +kernel, by decide +kernel⟩, List.mem_of_getElem? (i := 156) (by decide +kernel), List.mem_of_getElem? (i := 409) (by decide +kernel), List.mem_of_getElem? (i := 410) (by decide +kernel)⟩
theorem lw_p14 : lw_okq (⟨"SteerBench$Energy", "leaveOut", "(I)V"⟩, 6) := ⟨⟨by decide +kernel, by decide +kernel⟩, List.mem_of_getElem? (i := 156) (by decide +kernel), List.mem_of_getElem? (i := 414) (by decide +kernel), List.mem_of_getElem? (i := 415) (by decide +kernel)⟩
theorem lw_p15 : lw_okq (⟨"SteerBench$Look", "rootsAreLeftOfZero", "()Z"⟩, 9) := ⟨⟨by decide +kernel, by decide +kernel⟩, List.mem_of_getElem? (i := 54) (by decide +kernel), List.mem_of_getElem? (i := 438) (by decide +kernel), List.mem_of_getElem? (i := 439) (by decide +kernel)⟩
def lw_privs_1 : List (MethodName × Nat) := [(⟨"SteerBench", "isFull", "()Z"⟩, 11), (⟨"SteerBench", "kept", "(LSteerBench$Steps;)I"⟩, 11), (⟨"SteerBench", "machineAt", "(I)LSteerBench$Steps;"⟩, 11), (⟨"SteerBench", "joined", "(IIZ)I"⟩, 11), (⟨"SteerBench", "keptIfSmall", "(LSteerBench$Loop;)I"⟩, 11), (⟨"SteerBench$Look", "columnInto", "([J[J)V"⟩, 9), (⟨"SteerBench$Look", "rowInto", "([J[J)V"⟩, 9), (⟨"SteerBench$Look", "fillOwn", "()V"⟩, 9), (⟨"SteerBench$Look", "putOwn", "(IJ)V"⟩, 9), (⟨"SteerBench$Look", "pairMinor", "(II)J"⟩, 9), (⟨"SteerBench$Energy", "fillFlow", "(JJJJJ)V"⟩, 6), (⟨"SteerBench$Energy", "fill", "(IJJJ)V"⟩, 6), (⟨"SteerBench$Energy", "fillSides", "(J)V"⟩, 6), (⟨"SteerBench$Energy", "fillTicks", "(JJJJJ)V"⟩, 6), (⟨"SteerBench$Energy", "leaveOut", "(I)V"⟩, 6), (⟨"SteerBench$Look", "rootsAreLeftOfZero", "()Z"⟩, 9)]
theorem lw_r1 : ∀ q ∈ lw_privs_1, lw_okq q := List.forall_mem_cons.mpr ⟨lw_p0, List.forall_mem_cons.mpr ⟨lw_p1, List.forall_mem_cons.mpr ⟨lw_p2, List.forall_mem_cons.mpr ⟨lw_p3, List.forall_mem_cons.mpr ⟨lw_p4, List.forall_mem_cons.mpr ⟨lw_p5, List.forall_mem_cons.mpr ⟨lw_p6, List.forall_mem_cons.mpr ⟨lw_p7, List.forall_mem_cons.mpr ⟨lw_p8, List.forall_mem_cons.mpr ⟨lw_p9, List.forall_mem_cons.mpr ⟨lw_p10, List.forall_mem_cons.mpr ⟨lw_p11, List.forall_mem_cons.mpr ⟨lw_p12, List.forall_mem_cons.mpr ⟨lw_p13, List.forall_mem_cons.mpr ⟨lw_p14, List.forall_mem_cons.mpr ⟨lw_p15, fun _ h => absurd h List.not_mem_nil⟩⟩⟩⟩⟩⟩⟩⟩⟩⟩⟩⟩⟩⟩⟩⟩
theorem lw_p16 : lw_okq (⟨"SteerBench$Look", "rootsAreWithinCircle", "()Z"⟩, 9) := ⟨⟨by decide +kernel, by decide +kernel⟩, List.mem_of_getElem? (i := 54) (by decide +kernel), List.mem_of_getElem? (i := 442) (by decide +kernel), List.mem_of_getElem? (i := 443) (by decide +kernel)⟩
theorem lw_p17 : lw_okq (⟨"SteerBench$Look", "plainPulse", "(I)J"⟩, 9) := ⟨⟨by decide +kernel, by decide +kernel⟩, List.mem_of_getElem? (i := 54) (by decide +kernel), List.mem_of_getElem? (i := 480) (by decide +kernel), List.mem_of_getElem? (i := 481) (by decide +kernel)⟩
theorem lw_p18 : lw_okq (⟨"SteerBench$Look", "leadInto", "([J)V"⟩, 9) := ⟨⟨by decide +kernel, by decide +kernel⟩, List.mem_of_getElem? (i := 54) (by decide +kernel), List.mem_of_getElem? (i := 546) (by decide +kernel), List.mem_of_getElem? (i := 547) (by decide +kernel)⟩
theorem lw_p19 : lw_okq (⟨"SteerBench", "proofInto", "([JLSteerBench$Steps;)I"⟩, 11) := ⟨⟨by decide +kernel, by decide +kernel⟩, List.mem_of_getElem? (i := 17) (by decide +kernel), List.mem_of_getElem? (i := 571) (by decide +kernel), List.mem_of_getElem? (i := 572) (by decide +kernel)⟩
theorem lw_p20 : lw_okq (⟨"SteerBenchModel", "makes", "(III)I"⟩, 30) := ⟨⟨by decide +kernel, by decide +kernel⟩, List.mem_of_getElem? (i := 700) (by decide +kernel), List.mem_of_getElem? (i := 801) (by decide +kernel), List.mem_of_getElem? (i := 802) (by decide +kernel)⟩
theorem lw_p21 : lw_okq (⟨"SteerBenchModel", "is", "(I)Z"⟩, 30) := ⟨⟨by decide +kernel, by decide +kernel⟩, List.mem_of_getElem? (i := 700) (by decide +kernel), List.mem_of_getElem? (i := 809) (by decide +kernel), List.mem_of_getElem? (i := 810) (by decide +kernel)⟩
theorem lw_p22 : lw_okq (⟨"SteerBenchModel", "isPlace", "(IIII)Z"⟩, 30) := ⟨⟨by decide +kernel, by decide +kernel⟩, List.mem_of_getElem? (i := 700) (by decide +kernel), List.mem_of_getElem? (i := 813) (by decide +kernel), List.mem_of_getElem? (i := 814) (by decide +kernel)⟩
theorem lw_p23 : lw_okq (⟨"SteerBenchModel", "number", "(IIII)I"⟩, 30) := ⟨⟨by decide +kernel, by decide +kernel⟩, List.mem_of_getElem? (i := 700) (by decide +kernel), List.mem_of_getElem? (i := 817) (by decide +kernel), List.mem_of_getElem? (i := 818) (by decide +kernel)⟩
theorem lw_p24 : lw_okq (⟨"SteerBenchModel", "at", "(III)I"⟩, 30) := ⟨⟨by decide +kernel, by decide +kernel⟩, List.mem_of_getElem? (i := 700) (by decide +kernel), List.mem_of_getElem? (i := 821) (by decide +kernel), List.mem_of_getElem? (i := 822) (by decide +kernel)⟩
theorem lw_p25 : lw_okq (⟨"SteerBenchModel", "joins", "(IIZ)I"⟩, 30) := ⟨⟨by decide +kernel, by decide +kernel⟩, List.mem_of_getElem? (i := 700) (by decide +kernel), List.mem_of_getElem? (i := 834) (by decide +kernel), List.mem_of_getElem? (i := 835) (by decide +kernel)⟩
theorem lw_p26 : lw_okq (⟨"SteerBenchModel", "keeps", "(IIII)I"⟩, 30) := ⟨⟨by decide +kernel, by decide +kernel⟩, List.mem_of_getElem? (i := 700) (by decide +kernel), List.mem_of_getElem? (i := 838) (by decide +kernel), List.mem_of_getElem? (i := 839) (by decide +kernel)⟩
theorem lw_p27 : lw_okq (⟨"SteerBenchModel", "isSteady", "(I)Z"⟩, 30) := ⟨⟨by decide +kernel, by decide +kernel⟩, List.mem_of_getElem? (i := 700) (by decide +kernel), List.mem_of_getElem? (i := 865) (by decide +kernel), List.mem_of_getElem? (i := 866) (by decide +kernel)⟩
theorem lw_p28 : lw_okq (⟨"SteerBenchModel", "owns", "(I)V"⟩, 30) := ⟨⟨by decide +kernel, by decide +kernel⟩, List.mem_of_getElem? (i := 700) (by decide +kernel), List.mem_of_getElem? (i := 869) (by decide +kernel), List.mem_of_getElem? (i := 870) (by decide +kernel)⟩
theorem lw_p29 : lw_okq (⟨"SteerBenchModel", "minor", "(III)J"⟩, 30) := ⟨⟨by decide +kernel, by decide +kernel⟩, List.mem_of_getElem? (i := 700) (by decide +kernel), List.mem_of_getElem? (i := 873) (by decide +kernel), List.mem_of_getElem? (i := 874) (by decide +kernel)⟩
theorem lw_p30 : lw_okq (⟨"SteerBenchModel", "isWithin", "(I)Z"⟩, 30) := ⟨⟨by decide +kernel, by decide +kernel⟩, List.mem_of_getElem? (i := 700) (by decide +kernel), List.mem_of_getElem? (i := 877) (by decide +kernel), List.mem_of_getElem? (i := 878) (by decide +kernel)⟩
theorem lw_p31 : lw_okq (⟨"SteerBenchModel", "reached", "(I)I"⟩, 30) := ⟨⟨by decide +kernel, by decide +kernel⟩, List.mem_of_getElem? (i := 700) (by decide +kernel), List.mem_of_getElem? (i := 884) (by decide +kernel), List.mem_of_getElem? (i := 885) (by decide +kernel)⟩
def lw_privs_2 : List (MethodName × Nat) := [(⟨"SteerBench$Look", "rootsAreWithinCircle", "()Z"⟩, 9), (⟨"SteerBench$Look", "plainPulse", "(I)J"⟩, 9), (⟨"SteerBench$Look", "leadInto", "([J)V"⟩, 9), (⟨"SteerBench", "proofInto", "([JLSteerBench$Steps;)I"⟩, 11), (⟨"SteerBenchModel", "makes", "(III)I"⟩, 30), (⟨"SteerBenchModel", "is", "(I)Z"⟩, 30), (⟨"SteerBenchModel", "isPlace", "(IIII)Z"⟩, 30), (⟨"SteerBenchModel", "number", "(IIII)I"⟩, 30), (⟨"SteerBenchModel", "at", "(III)I"⟩, 30), (⟨"SteerBenchModel", "joins", "(IIZ)I"⟩, 30), (⟨"SteerBenchModel", "keeps", "(IIII)I"⟩, 30), (⟨"SteerBenchModel", "isSteady", "(I)Z"⟩, 30), (⟨"SteerBenchModel", "owns", "(I)V"⟩, 30), (⟨"SteerBenchModel", "minor", "(III)J"⟩, 30), (⟨"SteerBenchModel", "isWithin", "(I)Z"⟩, 30), (⟨"SteerBenchModel", "reached", "(I)I"⟩, 30)]
theorem lw_r2 : ∀ q ∈ lw_privs_2, lw_okq q := List.forall_mem_cons.mpr ⟨lw_p16, List.forall_mem_cons.mpr ⟨lw_p17, List.forall_mem_cons.mpr ⟨lw_p18, List.forall_mem_cons.mpr ⟨lw_p19, List.forall_mem_cons.mpr ⟨lw_p20, List.forall_mem_cons.mpr ⟨lw_p21, List.forall_mem_cons.mpr ⟨lw_p22, List.forall_mem_cons.mpr ⟨lw_p23, List.forall_mem_cons.mpr ⟨lw_p24, List.forall_mem_cons.mpr ⟨lw_p25, List.forall_mem_cons.mpr ⟨lw_p26, List.forall_mem_cons.mpr ⟨lw_p27, List.forall_mem_cons.mpr ⟨lw_p28, List.forall_mem_cons.mpr ⟨lw_p29, List.forall_mem_cons.mpr ⟨lw_p30, List.forall_mem_cons.mpr ⟨lw_p31, fun _ h => absurd h List.not_mem_nil⟩⟩⟩⟩⟩⟩⟩⟩⟩⟩⟩⟩⟩⟩⟩⟩
theorem lw_p32 : lw_okq (⟨"SteerBenchModel", "reaches", "(II)V"⟩, 30) := ⟨⟨by decide +kernel, by decide +kernel⟩, List.mem_of_getElem? (i := 700) (by decide +kernel), List.mem_of_getElem? (i := 888) (by decide +kernel), List.mem_of_getElem? (i := 889) (by decide +kernel)⟩
theorem lw_p33 : lw_okq (⟨"SteerBenchModel", "turnsOn", "(I)V"⟩, 30) := ⟨⟨by decide +kernel, by decide +kernel⟩, List.mem_of_getElem? (i := 700) (by decide +kernel), List.mem_of_getElem? (i := 892) (by decide +kernel), List.mem_of_getElem? (i := 893) (by decide +kernel)⟩
theorem lw_p34 : lw_okq (⟨"SteerBenchModel", "rank", "(I)I"⟩, 30) := ⟨⟨by decide +kernel, by decide +kernel⟩, List.mem_of_getElem? (i := 700) (by decide +kernel), List.mem_of_getElem? (i := 896) (by decide +kernel), List.mem_of_getElem? (i := 897) (by decide +kernel)⟩
theorem lw_p35 : lw_okq (⟨"SteerBenchModel", "seen", "(I)I"⟩, 30) := ⟨⟨by decide +kernel, by decide +kernel⟩, List.mem_of_getElem? (i := 700) (by decide +kernel), List.mem_of_getElem? (i := 900) (by decide +kernel), List.mem_of_getElem? (i := 901) (by decide +kernel)⟩
theorem lw_p36 : lw_okq (⟨"SteerBenchModel", "least", "(I)I"⟩, 30) := ⟨⟨by decide +kernel, by decide +kernel⟩, List.mem_of_getElem? (i := 700) (by decide +kernel), List.mem_of_getElem? (i := 904) (by decide +kernel), List.mem_of_getElem? (i := 905) (by decide +kernel)⟩
theorem lw_p37 : lw_okq (⟨"SteerBenchModel", "beat", "(II)J"⟩, 30) := ⟨⟨by decide +kernel, by decide +kernel⟩, List.mem_of_getElem? (i := 700) (by decide +kernel), List.mem_of_getElem? (i := 908) (by decide +kernel), List.mem_of_getElem? (i := 909) (by decide +kernel)⟩
theorem lw_p38 : lw_okq (⟨"SteerBenchModel", "hasEnergy", "(I)Z"⟩, 30) := ⟨⟨by decide +kernel, by decide +kernel⟩, List.mem_of_getElem? (i := 700) (by decide +kernel), List.mem_of_getElem? (i := 912) (by decide +kernel), List.mem_of_getElem? (i := 913) (by decide +kernel)⟩
theorem lw_p39 : lw_okq (⟨"SteerBenchModel", "lays", "(I)I"⟩, 30) := ⟨⟨by decide +kernel, by decide +kernel⟩, List.mem_of_getElem? (i := 700) (by decide +kernel), List.mem_of_getElem? (i := 916) (by decide +kernel), List.mem_of_getElem? (i := 917) (by decide +kernel)⟩
theorem lw_p40 : lw_okq (⟨"SteerBenchModel", "worth", "(II)J"⟩, 30) := ⟨⟨by decide +kernel, by decide +kernel⟩, List.mem_of_getElem? (i := 700) (by decide +kernel), List.mem_of_getElem? (i := 921) (by decide +kernel), List.mem_of_getElem? (i := 922) (by decide +kernel)⟩
theorem lw_p41 : lw_okq (⟨"SteerBenchModel", "lowest", "(JJ)V"⟩, 30) := ⟨⟨by decide +kernel, by decide +kernel⟩, List.mem_of_getElem? (i := 700) (by decide +kernel), List.mem_of_getElem? (i := 934) (by decide +kernel), List.mem_of_getElem? (i := 935) (by decide +kernel)⟩
theorem lw_p42 : lw_okq (⟨"SteerBenchModel", "told", "(I)J"⟩, 30) := ⟨⟨by decide +kernel, by decide +kernel⟩, List.mem_of_getElem? (i := 700) (by decide +kernel), List.mem_of_getElem? (i := 941) (by decide +kernel), List.mem_of_getElem? (i := 942) (by decide +kernel)⟩
theorem lw_p43 : lw_okq (⟨"SteerBenchModel", "writes", "(I)V"⟩, 30) := ⟨⟨by decide +kernel, by decide +kernel⟩, List.mem_of_getElem? (i := 700) (by decide +kernel), List.mem_of_getElem? (i := 970) (by decide +kernel), List.mem_of_getElem? (i := 971) (by decide +kernel)⟩
theorem lw_p44 : lw_okq (⟨"SteerBenchModel", "goes", "(II)I"⟩, 30) := ⟨⟨by decide +kernel, by decide +kernel⟩, List.mem_of_getElem? (i := 700) (by decide +kernel), List.mem_of_getElem? (i := 993) (by decide +kernel), List.mem_of_getElem? (i := 994) (by decide +kernel)⟩
theorem lw_p45 : lw_okq (⟨"SteerBenchModel", "ran", "(I)V"⟩, 30) := ⟨⟨by decide +kernel, by decide +kernel⟩, List.mem_of_getElem? (i := 700) (by decide +kernel), List.mem_of_getElem? (i := 997) (by decide +kernel), List.mem_of_getElem? (i := 998) (by decide +kernel)⟩
theorem lw_p46 : lw_okq (⟨"SteerBenchModel", "goesSteps", "(II)I"⟩, 30) := ⟨⟨by decide +kernel, by decide +kernel⟩, List.mem_of_getElem? (i := 700) (by decide +kernel), List.mem_of_getElem? (i := 1001) (by decide +kernel), List.mem_of_getElem? (i := 1002) (by decide +kernel)⟩
theorem lw_p47 : lw_okq (⟨"SteerBenchModel", "leads", "(II)I"⟩, 30) := ⟨⟨by decide +kernel, by decide +kernel⟩, List.mem_of_getElem? (i := 700) (by decide +kernel), List.mem_of_getElem? (i := 1005) (by decide +kernel), List.mem_of_getElem? (i := 1006) (by decide +kernel)⟩
def lw_privs_3 : List (MethodName × Nat) := [(⟨"SteerBenchModel", "reaches", "(II)V"⟩, 30), (⟨"SteerBenchModel", "turnsOn", "(I)V"⟩, 30), (⟨"SteerBenchModel", "rank", "(I)I"⟩, 30), (⟨"SteerBenchModel", "seen", "(I)I"⟩, 30), (⟨"SteerBenchModel", "least", "(I)I"⟩, 30), (⟨"SteerBenchModel", "beat", "(II)J"⟩, 30), (⟨"SteerBenchModel", "hasEnergy", "(I)Z"⟩, 30), (⟨"SteerBenchModel", "lays", "(I)I"⟩, 30), (⟨"SteerBenchModel", "worth", "(II)J"⟩, 30), (⟨"SteerBenchModel", "lowest", "(JJ)V"⟩, 30), (⟨"SteerBenchModel", "told", "(I)J"⟩, 30), (⟨"SteerBenchModel", "writes", "(I)V"⟩, 30), (⟨"SteerBenchModel", "goes", "(II)I"⟩, 30), (⟨"SteerBenchModel", "ran", "(I)V"⟩, 30), (⟨"SteerBenchModel", "goesSteps", "(II)I"⟩, 30), (⟨"SteerBenchModel", "leads", "(II)I"⟩, 30)]
theorem lw_r3 : ∀ q ∈ lw_privs_3, lw_okq q := List.forall_mem_cons.mpr ⟨lw_p32, List.forall_mem_cons.mpr ⟨lw_p33, List.forall_mem_cons.mpr ⟨lw_p34, List.forall_mem_cons.mpr ⟨lw_p35, List.forall_mem_cons.mpr ⟨lw_p36, List.forall_mem_cons.mpr ⟨lw_p37, List.forall_mem_cons.mpr ⟨lw_p38, List.forall_mem_cons.mpr ⟨lw_p39, List.forall_mem_cons.mpr ⟨lw_p40, List.forall_mem_cons.mpr ⟨lw_p41, List.forall_mem_cons.mpr ⟨lw_p42, List.forall_mem_cons.mpr ⟨lw_p43, List.forall_mem_cons.mpr ⟨lw_p44, List.forall_mem_cons.mpr ⟨lw_p45, List.forall_mem_cons.mpr ⟨lw_p46, List.forall_mem_cons.mpr ⟨lw_p47, fun _ h => absurd h List.not_mem_nil⟩⟩⟩⟩⟩⟩⟩⟩⟩⟩⟩⟩⟩⟩⟩⟩
theorem lw_p48 : lw_okq (⟨"SteerBenchModel", "leadsSteps", "(II)I"⟩, 30) := ⟨⟨by decide +kernel, by decide +kernel⟩, List.mem_of_getElem? (i := 700) (by decide +kernel), List.mem_of_getElem? (i := 1009) (by decide +kernel), List.mem_of_getElem? (i := 1010) (by decide +kernel)⟩
theorem lw_p49 : lw_okq (⟨"SteerBenchModel", "shows", "(II)I"⟩, 30) := ⟨⟨by decide +kernel, by decide +kernel⟩, List.mem_of_getElem? (i := 700) (by decide +kernel), List.mem_of_getElem? (i := 1013) (by decide +kernel), List.mem_of_getElem? (i := 1014) (by decide +kernel)⟩
theorem lw_p50 : lw_okq (⟨"SteerBenchModel", "showsSteps", "(II)I"⟩, 30) := ⟨⟨by decide +kernel, by decide +kernel⟩, List.mem_of_getElem? (i := 700) (by decide +kernel), List.mem_of_getElem? (i := 1017) (by decide +kernel), List.mem_of_getElem? (i := 1018) (by decide +kernel)⟩
theorem lw_p51 : lw_okq (⟨"SteerBenchModel", "showsLoop", "(II)I"⟩, 30) := ⟨⟨by decide +kernel, by decide +kernel⟩, List.mem_of_getElem? (i := 700) (by decide +kernel), List.mem_of_getElem? (i := 1021) (by decide +kernel), List.mem_of_getElem? (i := 1022) (by decide +kernel)⟩
def lw_privs_4 : List (MethodName × Nat) := [(⟨"SteerBenchModel", "leadsSteps", "(II)I"⟩, 30), (⟨"SteerBenchModel", "shows", "(II)I"⟩, 30), (⟨"SteerBenchModel", "showsSteps", "(II)I"⟩, 30), (⟨"SteerBenchModel", "showsLoop", "(II)I"⟩, 30)]
theorem lw_r4 : ∀ q ∈ lw_privs_4, lw_okq q := List.forall_mem_cons.mpr ⟨lw_p48, List.forall_mem_cons.mpr ⟨lw_p49, List.forall_mem_cons.mpr ⟨lw_p50, List.forall_mem_cons.mpr ⟨lw_p51, fun _ h => absurd h List.not_mem_nil⟩⟩⟩⟩
def lw_privs : List (MethodName × Nat) := lw_privs_1 ++ (lw_privs_2 ++ (lw_privs_3 ++ (lw_privs_4)))
def lw_tbl : List Cond := k2_sels lw_privs ++ tables_1
theorem lw_privs_ok : ∀ q ∈ lw_privs, lw_okq q := by
  show ∀ q ∈ lw_privs_1 ++ (lw_privs_2 ++ (lw_privs_3 ++ (lw_privs_4))), lw_okq q
  exact List.forall_mem_append.mpr ⟨lw_r1, List.forall_mem_append.mpr ⟨lw_r2, List.forall_mem_append.mpr ⟨lw_r3, lw_r4⟩⟩⟩
def RX0 : String := "SteerBench$Energy"
def TX0 : u_T := fun k => match k with
  | 0 => ("SteerBench$Energy", "columns", "[[J", true)
  | 1 => ("SteerBench$Energy", "sides", "[J", true)
  | 2 => ("SteerBench$Energy", "above", "[J", true)
  | 3 => ("SteerBench$Energy", "below", "J", false)
  | 4 => ("SteerBench$Energy", "states", "I", false)
  | _ => ("SteerBench$Energy", "isThere", "Z", false)
def tyX0 : Nat → FieldType := fun k => match k with
  | 0 => .array (.array .long)
  | 1 => .array .long
  | 2 => .array .long
  | 3 => .long
  | 4 => .int
  | _ => .boolean
abbrev wsX00 : List Cond := u_ws RX0 TX0 6
theorem nmX0 : ∀ a, a < 6 → ∀ b, b < 6 → a ≠ b → (TX0 a).2.1 ≠ (TX0 b).2.1 := by decide +kernel
theorem tyX0_ok : ∀ k, k < 6 → parseFieldDescriptor (TX0 k).2.2.1 = some (tyX0 k) := by decide +kernel
abbrev cX0_init : ByteArray := prog_2_method_1_code
def yX0_init : MethodName := ⟨RX0, "<init>", "()V"⟩
abbrev cX0_at : ByteArray := prog_2_method_2_code
def yX0_at : MethodName := ⟨RX0, "at", "(LSteerBench$Steps;)V"⟩
abbrev cX0_fillTicks : ByteArray := prog_2_method_3_code
def yX0_fillTicks : MethodName := ⟨RX0, "fillTicks", "(JJJJJ)V"⟩
abbrev cX0_fillFlow : ByteArray := prog_2_method_4_code
def yX0_fillFlow : MethodName := ⟨RX0, "fillFlow", "(JJJJJ)V"⟩
abbrev cX0_fill : ByteArray := prog_2_method_5_code
def yX0_fill : MethodName := ⟨RX0, "fill", "(IJJJ)V"⟩
abbrev cX0_fillSides : ByteArray := prog_2_method_6_code
def yX0_fillSides : MethodName := ⟨RX0, "fillSides", "(J)V"⟩
abbrev cX0_leaveOut : ByteArray := prog_2_method_7_code
def yX0_leaveOut : MethodName := ⟨RX0, "leaveOut", "(I)V"⟩
abbrev cX0_numberInto : ByteArray := prog_2_method_8_code
def yX0_numberInto : MethodName := ⟨RX0, "numberInto", "(LSteerBench$Fraction;I)V"⟩
abbrev cX0_isAboveZero : ByteArray := prog_2_method_9_code
def yX0_isAboveZero : MethodName := ⟨RX0, "isAboveZero", "()Z"⟩
def RX1 : String := "SteerBench$Flow"
def TX1 : u_T := fun k => match k with
  | 0 => ("SteerBench$Steps", "number", "I", true)
  | 1 => ("SteerBench$Steps", "states", "I", true)
  | 2 => ("SteerBench$Steps", "unit", "I", true)
  | 3 => ("SteerBench$Steps", "a", "[I", true)
  | 4 => ("SteerBench$Steps", "b", "[I", true)
  | 5 => ("SteerBench$Steps", "c", "[I", true)
  | _ => ("SteerBench$Steps", "d", "[I", true)
def tyX1 : Nat → FieldType := fun k => match k with
  | 0 => .int
  | 1 => .int
  | 2 => .int
  | 3 => .array .int
  | 4 => .array .int
  | 5 => .array .int
  | _ => .array .int
abbrev wsX10 : List Cond := u_ws RX1 TX1 7
theorem nmX1 : ∀ a, a < 7 → ∀ b, b < 7 → a ≠ b → (TX1 a).2.1 ≠ (TX1 b).2.1 := by decide +kernel
theorem tyX1_ok : ∀ k, k < 7 → parseFieldDescriptor (TX1 k).2.2.1 = some (tyX1 k) := by decide +kernel
abbrev cX1_init : ByteArray := prog_3_method_1_code
def yX1_init : MethodName := ⟨RX1, "<init>", "(III)V"⟩
abbrev cX1_kind : ByteArray := prog_3_method_2_code
def yX1_kind : MethodName := ⟨RX1, "kind", "()I"⟩
abbrev cX1_goes : ByteArray := prog_3_method_3_code
def yX1_goes : MethodName := ⟨RX1, "goes", "(ILSteerBench$Trace;)I"⟩
def RX2 : String := "SteerBench$Fraction"
def TX2 : u_T := fun k => match k with
  | 0 => ("SteerBench$Fraction", "above", "J", false)
  | _ => ("SteerBench$Fraction", "below", "J", false)
def tyX2 : Nat → FieldType := fun k => match k with
  | 0 => .long
  | _ => .long
abbrev wsX20 : List Cond := u_ws RX2 TX2 2
theorem nmX2 : ∀ a, a < 2 → ∀ b, b < 2 → a ≠ b → (TX2 a).2.1 ≠ (TX2 b).2.1 := by decide +kernel
theorem tyX2_ok : ∀ k, k < 2 → parseFieldDescriptor (TX2 k).2.2.1 = some (tyX2 k) := by decide +kernel
abbrev cX2_init : ByteArray := prog_4_method_1_code
def yX2_init : MethodName := ⟨RX2, "<init>", "()V"⟩
abbrev cX2_put : ByteArray := prog_4_method_2_code
def yX2_put : MethodName := ⟨RX2, "put", "(JJ)V"⟩
abbrev cX2_told : ByteArray := prog_4_method_3_code
def yX2_told : MethodName := ⟨RX2, "told", "(I)J"⟩
abbrev cX2_sharedDivisor : ByteArray := prog_4_method_4_code
def yX2_sharedDivisor : MethodName := ⟨RX2, "sharedDivisor", "(JJ)J"⟩
def RX3 : String := "SteerBench$Look"
def TX3 : u_T := fun k => match k with
  | 0 => ("SteerBench$Look", "machine", "LSteerBench$Steps;", false)
  | 1 => ("SteerBench$Look", "columns", "[[J", true)
  | 2 => ("SteerBench$Look", "rows", "[[J", true)
  | 3 => ("SteerBench$Look", "own", "[J", true)
  | 4 => ("SteerBench$Look", "some", "[[J", true)
  | 5 => ("SteerBench$Look", "scaled", "[J", true)
  | 6 => ("SteerBench$Look", "lower", "[J", true)
  | 7 => ("SteerBench$Look", "now", "[J", true)
  | _ => ("SteerBench$Look", "next", "[J", true)
def tyX3 : Nat → FieldType := fun k => match k with
  | 0 => .object "SteerBench$Steps"
  | 1 => .array (.array .long)
  | 2 => .array (.array .long)
  | 3 => .array .long
  | 4 => .array (.array .long)
  | 5 => .array .long
  | 6 => .array .long
  | 7 => .array .long
  | _ => .array .long
abbrev wsX30 : List Cond := u_ws RX3 TX3 9
theorem nmX3 : ∀ a, a < 9 → ∀ b, b < 9 → a ≠ b → (TX3 a).2.1 ≠ (TX3 b).2.1 := by decide +kernel
theorem tyX3_ok : ∀ k, k < 9 → parseFieldDescriptor (TX3 k).2.2.1 = some (tyX3 k) := by decide +kernel
abbrev cX3_init : ByteArray := prog_5_method_1_code
def yX3_init : MethodName := ⟨RX3, "<init>", "()V"⟩
abbrev cX3_at : ByteArray := prog_5_method_2_code
def yX3_at : MethodName := ⟨RX3, "at", "(LSteerBench$Steps;)V"⟩
abbrev cX3_columnInto : ByteArray := prog_5_method_3_code
def yX3_columnInto : MethodName := ⟨RX3, "columnInto", "([J[J)V"⟩
abbrev cX3_rowInto : ByteArray := prog_5_method_4_code
def yX3_rowInto : MethodName := ⟨RX3, "rowInto", "([J[J)V"⟩
abbrev cX3_fillOwn : ByteArray := prog_5_method_5_code
def yX3_fillOwn : MethodName := ⟨RX3, "fillOwn", "()V"⟩
abbrev cX3_putOwn : ByteArray := prog_5_method_6_code
def yX3_putOwn : MethodName := ⟨RX3, "putOwn", "(IJ)V"⟩
abbrev cX3_pairMinor : ByteArray := prog_5_method_7_code
def yX3_pairMinor : MethodName := ⟨RX3, "pairMinor", "(II)J"⟩
abbrev cX3_plainPulse : ByteArray := prog_5_method_8_code
def yX3_plainPulse : MethodName := ⟨RX3, "plainPulse", "(I)J"⟩
abbrev cX3_above : ByteArray := prog_5_method_9_code
def yX3_above : MethodName := ⟨RX3, "above", "(I)J"⟩
abbrev cX3_isSteady : ByteArray := prog_5_method_10_code
def yX3_isSteady : MethodName := ⟨RX3, "isSteady", "()Z"⟩
abbrev cX3_rootsAreLeftOfZero : ByteArray := prog_5_method_11_code
def yX3_rootsAreLeftOfZero : MethodName := ⟨RX3, "rootsAreLeftOfZero", "()Z"⟩
abbrev cX3_rootsAreWithinCircle : ByteArray := prog_5_method_12_code
def yX3_rootsAreWithinCircle : MethodName := ⟨RX3, "rootsAreWithinCircle", "()Z"⟩
abbrev cX3_reached : ByteArray := prog_5_method_13_code
def yX3_reached : MethodName := ⟨RX3, "reached", "()I"⟩
abbrev cX3_seen : ByteArray := prog_5_method_14_code
def yX3_seen : MethodName := ⟨RX3, "seen", "()I"⟩
abbrev cX3_least : ByteArray := prog_5_method_15_code
def yX3_least : MethodName := ⟨RX3, "least", "()I"⟩
abbrev cX3_pulseInto : ByteArray := prog_5_method_16_code
def yX3_pulseInto : MethodName := ⟨RX3, "pulseInto", "(LSteerBench$Fraction;I)V"⟩
abbrev cX3_outputInto : ByteArray := prog_5_method_17_code
def yX3_outputInto : MethodName := ⟨RX3, "outputInto", "(LSteerBench$Fraction;II)V"⟩
abbrev cX3_pulsesAreAlike : ByteArray := prog_5_method_18_code
def yX3_pulsesAreAlike : MethodName := ⟨RX3, "pulsesAreAlike", "(LSteerBench$Look;)Z"⟩
abbrev cX3_gainInto : ByteArray := prog_5_method_19_code
def yX3_gainInto : MethodName := ⟨RX3, "gainInto", "(LSteerBench$Fraction;IIII)V"⟩
abbrev cX3_leadInto : ByteArray := prog_5_method_20_code
def yX3_leadInto : MethodName := ⟨RX3, "leadInto", "([J)V"⟩
abbrev cX3_soonestRest : ByteArray := prog_5_method_21_code
def yX3_soonestRest : MethodName := ⟨RX3, "soonestRest", "(III)I"⟩
def RX4 : String := "SteerBench$Loop"
def TX4 : u_T := fun k => match k with
  | 0 => ("SteerBench$Steps", "number", "I", true)
  | 1 => ("SteerBench$Steps", "states", "I", true)
  | 2 => ("SteerBench$Steps", "unit", "I", true)
  | 3 => ("SteerBench$Steps", "a", "[I", true)
  | 4 => ("SteerBench$Steps", "b", "[I", true)
  | 5 => ("SteerBench$Steps", "c", "[I", true)
  | _ => ("SteerBench$Steps", "d", "[I", true)
def tyX4 : Nat → FieldType := fun k => match k with
  | 0 => .int
  | 1 => .int
  | 2 => .int
  | 3 => .array .int
  | 4 => .array .int
  | 5 => .array .int
  | _ => .array .int
abbrev wsX40 : List Cond := u_ws RX4 TX4 7
theorem nmX4 : ∀ a, a < 7 → ∀ b, b < 7 → a ≠ b → (TX4 a).2.1 ≠ (TX4 b).2.1 := by decide +kernel
theorem tyX4_ok : ∀ k, k < 7 → parseFieldDescriptor (TX4 k).2.2.1 = some (tyX4 k) := by decide +kernel
abbrev cX4_init : ByteArray := prog_6_method_1_code
def yX4_init : MethodName := ⟨RX4, "<init>", "(III)V"⟩
abbrev cX4_kind : ByteArray := prog_6_method_2_code
def yX4_kind : MethodName := ⟨RX4, "kind", "()I"⟩
abbrev cX4_leads : ByteArray := prog_6_method_3_code
def yX4_leads : MethodName := ⟨RX4, "leads", "(ILSteerBench$Trace;)I"⟩
abbrev cX4_shows : ByteArray := prog_6_method_4_code
def yX4_shows : MethodName := ⟨RX4, "shows", "(ILSteerBench$Trace;)I"⟩
def RX5 : String := "SteerBench$Minors"
def TX5 : u_T := fun k => match k with
  | _ => ("", "", "", false)
def tyX5 : Nat → FieldType := fun k => match k with
  | _ => .int
abbrev wsX50 : List Cond := u_ws RX5 TX5 0
theorem nmX5 : ∀ a, a < 0 → ∀ b, b < 0 → a ≠ b → (TX5 a).2.1 ≠ (TX5 b).2.1 := by decide +kernel
theorem tyX5_ok : ∀ k, k < 0 → parseFieldDescriptor (TX5 k).2.2.1 = some (tyX5 k) := by decide +kernel
abbrev cX5_whole : ByteArray := prog_7_method_2_code
def yX5_whole : MethodName := ⟨RX5, "whole", "([J[J[J)J"⟩
abbrev cX5_areFree : ByteArray := prog_7_method_3_code
def yX5_areFree : MethodName := ⟨RX5, "areFree", "([J[J)Z"⟩
abbrev cX5_isFree : ByteArray := prog_7_method_4_code
def yX5_isFree : MethodName := ⟨RX5, "isFree", "([J)Z"⟩
abbrev cX5_rank : ByteArray := prog_7_method_5_code
def yX5_rank : MethodName := ⟨RX5, "rank", "([[JI)I"⟩
def RX6 : String := "SteerBench$Part"
def TX6 : u_T := fun k => match k with
  | 0 => ("SteerBench$Steps", "number", "I", true)
  | 1 => ("SteerBench$Steps", "states", "I", true)
  | 2 => ("SteerBench$Steps", "unit", "I", true)
  | 3 => ("SteerBench$Steps", "a", "[I", true)
  | 4 => ("SteerBench$Steps", "b", "[I", true)
  | 5 => ("SteerBench$Steps", "c", "[I", true)
  | _ => ("SteerBench$Steps", "d", "[I", true)
def tyX6 : Nat → FieldType := fun k => match k with
  | 0 => .int
  | 1 => .int
  | 2 => .int
  | 3 => .array .int
  | 4 => .array .int
  | 5 => .array .int
  | _ => .array .int
abbrev wsX60 : List Cond := u_ws RX6 TX6 7
theorem nmX6 : ∀ a, a < 7 → ∀ b, b < 7 → a ≠ b → (TX6 a).2.1 ≠ (TX6 b).2.1 := by decide +kernel
theorem tyX6_ok : ∀ k, k < 7 → parseFieldDescriptor (TX6 k).2.2.1 = some (tyX6 k) := by decide +kernel
abbrev cX6_init : ByteArray := prog_8_method_1_code
def yX6_init : MethodName := ⟨RX6, "<init>", "(III)V"⟩
abbrev cX6_kind : ByteArray := prog_8_method_2_code
def yX6_kind : MethodName := ⟨RX6, "kind", "()I"⟩
abbrev cX6_goes : ByteArray := prog_8_method_3_code
def yX6_goes : MethodName := ⟨RX6, "goes", "(ILSteerBench$Trace;)I"⟩
abbrev cX6_shows : ByteArray := prog_8_method_4_code
def yX6_shows : MethodName := ⟨RX6, "shows", "(ILSteerBench$Trace;)I"⟩
def RX7 : String := "SteerBench$Sheet"
def TX7 : u_T := fun k => match k with
  | 0 => ("SteerBench$Sheet", "sort", "I", true)
  | _ => ("SteerBench$Sheet", "items", "[J", true)
def tyX7 : Nat → FieldType := fun k => match k with
  | 0 => .int
  | _ => .array .long
abbrev wsX70 : List Cond := u_ws RX7 TX7 2
theorem nmX7 : ∀ a, a < 2 → ∀ b, b < 2 → a ≠ b → (TX7 a).2.1 ≠ (TX7 b).2.1 := by decide +kernel
theorem tyX7_ok : ∀ k, k < 2 → parseFieldDescriptor (TX7 k).2.2.1 = some (tyX7 k) := by decide +kernel
abbrev cX7_init : ByteArray := prog_9_method_1_code
def yX7_init : MethodName := ⟨RX7, "<init>", "(II)V"⟩
abbrev cX7_has : ByteArray := prog_9_method_2_code
def yX7_has : MethodName := ⟨RX7, "has", "(II)Z"⟩
def RX8 : String := "SteerBench$Steps"
def TX8 : u_T := fun k => match k with
  | 0 => ("SteerBench$Steps", "number", "I", true)
  | 1 => ("SteerBench$Steps", "states", "I", true)
  | 2 => ("SteerBench$Steps", "unit", "I", true)
  | 3 => ("SteerBench$Steps", "a", "[I", true)
  | 4 => ("SteerBench$Steps", "b", "[I", true)
  | 5 => ("SteerBench$Steps", "c", "[I", true)
  | _ => ("SteerBench$Steps", "d", "[I", true)
def tyX8 : Nat → FieldType := fun k => match k with
  | 0 => .int
  | 1 => .int
  | 2 => .int
  | 3 => .array .int
  | 4 => .array .int
  | 5 => .array .int
  | _ => .array .int
abbrev wsX80 : List Cond := u_ws RX8 TX8 7
theorem nmX8 : ∀ a, a < 7 → ∀ b, b < 7 → a ≠ b → (TX8 a).2.1 ≠ (TX8 b).2.1 := by decide +kernel
theorem tyX8_ok : ∀ k, k < 7 → parseFieldDescriptor (TX8 k).2.2.1 = some (tyX8 k) := by decide +kernel
abbrev cX8_init : ByteArray := prog_10_method_1_code
def yX8_init : MethodName := ⟨RX8, "<init>", "(III)V"⟩
abbrev cX8_kind : ByteArray := prog_10_method_2_code
def yX8_kind : MethodName := ⟨RX8, "kind", "()I"⟩
abbrev cX8_numbersOf : ByteArray := prog_10_method_3_code
def yX8_numbersOf : MethodName := ⟨RX8, "numbersOf", "(I)[I"⟩
abbrev cX8_goes : ByteArray := prog_10_method_4_code
def yX8_goes : MethodName := ⟨RX8, "goes", "(ILSteerBench$Trace;)I"⟩
abbrev cX8_leads : ByteArray := prog_10_method_5_code
def yX8_leads : MethodName := ⟨RX8, "leads", "(ILSteerBench$Trace;)I"⟩
abbrev cX8_shows : ByteArray := prog_10_method_6_code
def yX8_shows : MethodName := ⟨RX8, "shows", "(ILSteerBench$Trace;)I"⟩
def RX9 : String := "SteerBench$Trace"
def TX9 : u_T := fun k => match k with
  | 0 => ("SteerBench$Trace", "kept", "[I", true)
  | _ => ("SteerBench$Trace", "ran", "I", false)
def tyX9 : Nat → FieldType := fun k => match k with
  | 0 => .array .int
  | _ => .int
abbrev wsX90 : List Cond := u_ws RX9 TX9 2
theorem nmX9 : ∀ a, a < 2 → ∀ b, b < 2 → a ≠ b → (TX9 a).2.1 ≠ (TX9 b).2.1 := by decide +kernel
theorem tyX9_ok : ∀ k, k < 2 → parseFieldDescriptor (TX9 k).2.2.1 = some (tyX9 k) := by decide +kernel
abbrev cX9_init : ByteArray := prog_11_method_1_code
def yX9_init : MethodName := ⟨RX9, "<init>", "()V"⟩
def RX10 : String := "SteerBench"
def TX10 : u_T := fun k => match k with
  | 0 => ("SteerBench", "machines", "[LSteerBench$Steps;", true)
  | 1 => ("SteerBench", "machineCount", "I", false)
  | 2 => ("SteerBench", "rows", "[J", true)
  | 3 => ("SteerBench", "dueRows", "[J", true)
  | 4 => ("SteerBench", "rowCount", "I", false)
  | 5 => ("SteerBench", "latest", "LSteerBench$Trace;", true)
  | 6 => ("SteerBench", "sheets", "[LSteerBench$Sheet;", true)
  | 7 => ("SteerBench", "look", "LSteerBench$Look;", true)
  | 8 => ("SteerBench", "otherLook", "LSteerBench$Look;", true)
  | 9 => ("SteerBench", "energies", "LSteerBench$Energy;", true)
  | _ => ("SteerBench", "answer", "LSteerBench$Fraction;", true)
def tyX10 : Nat → FieldType := fun k => match k with
  | 0 => .array (.object "SteerBench$Steps")
  | 1 => .int
  | 2 => .array .long
  | 3 => .array .long
  | 4 => .int
  | 5 => .object "SteerBench$Trace"
  | 6 => .array (.object "SteerBench$Sheet")
  | 7 => .object "SteerBench$Look"
  | 8 => .object "SteerBench$Look"
  | 9 => .object "SteerBench$Energy"
  | _ => .object "SteerBench$Fraction"
abbrev wsX100 : List Cond := u_ws RX10 TX10 11
theorem nmX10 : ∀ a, a < 11 → ∀ b, b < 11 → a ≠ b → (TX10 a).2.1 ≠ (TX10 b).2.1 := by decide +kernel
theorem tyX10_ok : ∀ k, k < 11 → parseFieldDescriptor (TX10 k).2.2.1 = some (tyX10 k) := by decide +kernel
abbrev cX10_init : ByteArray := prog_1_method_1_code
def yX10_init : MethodName := ⟨RX10, "<init>", "()V"⟩
abbrev cX10_machine : ByteArray := prog_1_method_2_code
def yX10_machine : MethodName := ⟨RX10, "machine", "(III)I"⟩
abbrev cX10_set : ByteArray := prog_1_method_3_code
def yX10_set : MethodName := ⟨RX10, "set", "(IIIII)I"⟩
abbrev cX10_series : ByteArray := prog_1_method_4_code
def yX10_series : MethodName := ⟨RX10, "series", "(II)I"⟩
abbrev cX10_side : ByteArray := prog_1_method_5_code
def yX10_side : MethodName := ⟨RX10, "side", "(II)I"⟩
abbrev cX10_back : ByteArray := prog_1_method_6_code
def yX10_back : MethodName := ⟨RX10, "back", "(II)I"⟩
abbrev cX10_part : ByteArray := prog_1_method_7_code
def yX10_part : MethodName := ⟨RX10, "part", "(II)I"⟩
abbrev cX10_drop : ByteArray := prog_1_method_8_code
def yX10_drop : MethodName := ⟨RX10, "drop", "()I"⟩
abbrev cX10_machineTold : ByteArray := prog_1_method_9_code
def yX10_machineTold : MethodName := ⟨RX10, "machineTold", "(II)I"⟩
abbrev cX10_table : ByteArray := prog_1_method_10_code
def yX10_table : MethodName := ⟨RX10, "table", "(IIII)I"⟩
abbrev cX10_own : ByteArray := prog_1_method_11_code
def yX10_own : MethodName := ⟨RX10, "own", "(III)J"⟩
abbrev cX10_pulse : ByteArray := prog_1_method_12_code
def yX10_pulse : MethodName := ⟨RX10, "pulse", "(III)J"⟩
abbrev cX10_run : ByteArray := prog_1_method_13_code
def yX10_run : MethodName := ⟨RX10, "run", "(IIII)J"⟩
abbrev cX10_like : ByteArray := prog_1_method_14_code
def yX10_like : MethodName := ⟨RX10, "like", "(II)I"⟩
abbrev cX10_gain : ByteArray := prog_1_method_15_code
def yX10_gain : MethodName := ⟨RX10, "gain", "(IIIIII)J"⟩
abbrev cX10_soonest : ByteArray := prog_1_method_16_code
def yX10_soonest : MethodName := ⟨RX10, "soonest", "(IIII)I"⟩
abbrev cX10_energy : ByteArray := prog_1_method_17_code
def yX10_energy : MethodName := ⟨RX10, "energy", "(IIII)J"⟩
abbrev cX10_write : ByteArray := prog_1_method_18_code
def yX10_write : MethodName := ⟨RX10, "write", "(I)I"⟩
abbrev cX10_row : ByteArray := prog_1_method_19_code
def yX10_row : MethodName := ⟨RX10, "row", "(I)J"⟩
abbrev cX10_forge : ByteArray := prog_1_method_20_code
def yX10_forge : MethodName := ⟨RX10, "forge", "(IJ)I"⟩
abbrev cX10_check : ByteArray := prog_1_method_21_code
def yX10_check : MethodName := ⟨RX10, "check", "(I)I"⟩
abbrev cX10_act : ByteArray := prog_1_method_22_code
def yX10_act : MethodName := ⟨RX10, "act", "(III)I"⟩
abbrev cX10_trace : ByteArray := prog_1_method_23_code
def yX10_trace : MethodName := ⟨RX10, "trace", "(I)I"⟩
abbrev cX10_count : ByteArray := prog_1_method_24_code
def yX10_count : MethodName := ⟨RX10, "count", "(I)I"⟩
abbrev cX10_sheet : ByteArray := prog_1_method_25_code
def yX10_sheet : MethodName := ⟨RX10, "sheet", "(III)I"⟩
abbrev cX10_cell : ByteArray := prog_1_method_26_code
def yX10_cell : MethodName := ⟨RX10, "cell", "(III)I"⟩
abbrev cX10_lay : ByteArray := prog_1_method_27_code
def yX10_lay : MethodName := ⟨RX10, "lay", "(IIII)I"⟩
abbrev cX10_copy : ByteArray := prog_1_method_28_code
def yX10_copy : MethodName := ⟨RX10, "copy", "(IIIII)I"⟩
abbrev cX10_taken : ByteArray := prog_1_method_29_code
def yX10_taken : MethodName := ⟨RX10, "taken", "(II)I"⟩
abbrev cX10_isWithin : ByteArray := prog_1_method_30_code
def yX10_isWithin : MethodName := ⟨RX10, "isWithin", "(III)Z"⟩
abbrev cX10_areWithin : ByteArray := prog_1_method_31_code
def yX10_areWithin : MethodName := ⟨RX10, "areWithin", "(IIIII)Z"⟩
abbrev cX10_power : ByteArray := prog_1_method_32_code
def yX10_power : MethodName := ⟨RX10, "power", "(II)J"⟩
abbrev cX10_isSheet : ByteArray := prog_1_method_33_code
def yX10_isSheet : MethodName := ⟨RX10, "isSheet", "(I)Z"⟩
abbrev cX10_isFull : ByteArray := prog_1_method_34_code
def yX10_isFull : MethodName := ⟨RX10, "isFull", "()Z"⟩
abbrev cX10_machineAt : ByteArray := prog_1_method_35_code
def yX10_machineAt : MethodName := ⟨RX10, "machineAt", "(I)LSteerBench$Steps;"⟩
abbrev cX10_isOfKind : ByteArray := prog_1_method_36_code
def yX10_isOfKind : MethodName := ⟨RX10, "isOfKind", "(LSteerBench$Steps;I)Z"⟩
abbrev cX10_placeIn : ByteArray := prog_1_method_37_code
def yX10_placeIn : MethodName := ⟨RX10, "placeIn", "(LSteerBench$Steps;III)I"⟩
abbrev cX10_kept : ByteArray := prog_1_method_38_code
def yX10_kept : MethodName := ⟨RX10, "kept", "(LSteerBench$Steps;)I"⟩
abbrev cX10_keptIfSmall : ByteArray := prog_1_method_39_code
def yX10_keptIfSmall : MethodName := ⟨RX10, "keptIfSmall", "(LSteerBench$Loop;)I"⟩
abbrev cX10_joined : ByteArray := prog_1_method_40_code
def yX10_joined : MethodName := ⟨RX10, "joined", "(IIZ)I"⟩
abbrev cX10_putBlock : ByteArray := prog_1_method_41_code
def yX10_putBlock : MethodName := ⟨RX10, "putBlock", "(LSteerBench$Loop;ILSteerBench$Steps;II)V"⟩
abbrev cX10_putCrossing : ByteArray := prog_1_method_42_code
def yX10_putCrossing : MethodName := ⟨RX10, "putCrossing", "(LSteerBench$Loop;LSteerBench$Steps;LSteerBench$Steps;)V"⟩
abbrev cX10_fillRow : ByteArray := prog_1_method_43_code
def yX10_fillRow : MethodName := ⟨RX10, "fillRow", "(LSteerBench$Part;ILSteerBench$Steps;II)V"⟩
abbrev cX10_proofInto : ByteArray := prog_1_method_44_code
def yX10_proofInto : MethodName := ⟨RX10, "proofInto", "([JLSteerBench$Steps;)I"⟩
def RX11 : String := "SteerBenchModel"
def TX11 : u_T := fun k => match k with
  | 0 => ("SteerBenchModel", "machines", "I", false)
  | 1 => ("SteerBenchModel", "kind", "[I", true)
  | 2 => ("SteerBenchModel", "n", "[I", true)
  | 3 => ("SteerBenchModel", "unit", "[I", true)
  | 4 => ("SteerBenchModel", "d", "[I", true)
  | 5 => ("SteerBenchModel", "a", "[I", true)
  | 6 => ("SteerBenchModel", "b", "[I", true)
  | 7 => ("SteerBenchModel", "c", "[I", true)
  | 8 => ("SteerBenchModel", "na", "[I", true)
  | 9 => ("SteerBenchModel", "nb", "[I", true)
  | 10 => ("SteerBenchModel", "nc", "[I", true)
  | 11 => ("SteerBenchModel", "rows", "[J", true)
  | 12 => ("SteerBenchModel", "fresh", "[J", true)
  | 13 => ("SteerBenchModel", "rowN", "I", false)
  | 14 => ("SteerBenchModel", "freshN", "I", false)
  | 15 => ("SteerBenchModel", "sheetSort", "[I", true)
  | 16 => ("SteerBenchModel", "sheetSize", "[I", true)
  | 17 => ("SteerBenchModel", "cells", "[J", true)
  | 18 => ("SteerBenchModel", "moved", "[J", true)
  | 19 => ("SteerBenchModel", "traced", "[I", true)
  | 20 => ("SteerBenchModel", "bodies", "I", false)
  | 21 => ("SteerBenchModel", "own", "[J", true)
  | 22 => ("SteerBenchModel", "poly", "[J", true)
  | 23 => ("SteerBenchModel", "peel", "[J", true)
  | 24 => ("SteerBenchModel", "mat", "[J", true)
  | 25 => ("SteerBenchModel", "sub", "[J", true)
  | 26 => ("SteerBenchModel", "vec", "[J", true)
  | 27 => ("SteerBenchModel", "oth", "[J", true)
  | 28 => ("SteerBenchModel", "above", "J", false)
  | _ => ("SteerBenchModel", "below", "J", false)
def tyX11 : Nat → FieldType := fun k => match k with
  | 0 => .int
  | 1 => .array .int
  | 2 => .array .int
  | 3 => .array .int
  | 4 => .array .int
  | 5 => .array .int
  | 6 => .array .int
  | 7 => .array .int
  | 8 => .array .int
  | 9 => .array .int
  | 10 => .array .int
  | 11 => .array .long
  | 12 => .array .long
  | 13 => .int
  | 14 => .int
  | 15 => .array .int
  | 16 => .array .int
  | 17 => .array .long
  | 18 => .array .long
  | 19 => .array .int
  | 20 => .int
  | 21 => .array .long
  | 22 => .array .long
  | 23 => .array .long
  | 24 => .array .long
  | 25 => .array .long
  | 26 => .array .long
  | 27 => .array .long
  | 28 => .long
  | _ => .long
abbrev wsX110 : List Cond := u_ws RX11 TX11 30
theorem nmX11 : ∀ a, a < 30 → ∀ b, b < 30 → a ≠ b → (TX11 a).2.1 ≠ (TX11 b).2.1 := by decide +kernel
theorem tyX11_ok : ∀ k, k < 30 → parseFieldDescriptor (TX11 k).2.2.1 = some (tyX11 k) := by decide +kernel
abbrev cX11_init : ByteArray := prog_13_method_1_code
def yX11_init : MethodName := ⟨RX11, "<init>", "()V"⟩
abbrev cX11_is : ByteArray := prog_13_method_2_code
def yX11_is : MethodName := ⟨RX11, "is", "(I)Z"⟩
abbrev cX11_at : ByteArray := prog_13_method_3_code
def yX11_at : MethodName := ⟨RX11, "at", "(III)I"⟩
abbrev cX11_common : ByteArray := prog_13_method_4_code
def yX11_common : MethodName := ⟨RX11, "common", "(JJ)J"⟩
abbrev cX11_lowest : ByteArray := prog_13_method_5_code
def yX11_lowest : MethodName := ⟨RX11, "lowest", "(JJ)V"⟩
abbrev cX11_told : ByteArray := prog_13_method_6_code
def yX11_told : MethodName := ⟨RX11, "told", "(I)J"⟩
abbrev cX11_makes : ByteArray := prog_13_method_7_code
def yX11_makes : MethodName := ⟨RX11, "makes", "(III)I"⟩
abbrev cX11_machine : ByteArray := prog_13_method_8_code
def yX11_machine : MethodName := ⟨RX11, "machine", "(III)I"⟩
abbrev cX11_isPlace : ByteArray := prog_13_method_9_code
def yX11_isPlace : MethodName := ⟨RX11, "isPlace", "(IIII)Z"⟩
abbrev cX11_number : ByteArray := prog_13_method_10_code
def yX11_number : MethodName := ⟨RX11, "number", "(IIII)I"⟩
abbrev cX11_set : ByteArray := prog_13_method_11_code
def yX11_set : MethodName := ⟨RX11, "set", "(IIIII)I"⟩
abbrev cX11_table : ByteArray := prog_13_method_12_code
def yX11_table : MethodName := ⟨RX11, "table", "(IIII)I"⟩
abbrev cX11_fits : ByteArray := prog_13_method_13_code
def yX11_fits : MethodName := ⟨RX11, "fits", "(I)Z"⟩
abbrev cX11_keeps : ByteArray := prog_13_method_14_code
def yX11_keeps : MethodName := ⟨RX11, "keeps", "(IIII)I"⟩
abbrev cX11_joins : ByteArray := prog_13_method_15_code
def yX11_joins : MethodName := ⟨RX11, "joins", "(IIZ)I"⟩
abbrev cX11_series : ByteArray := prog_13_method_16_code
def yX11_series : MethodName := ⟨RX11, "series", "(II)I"⟩
abbrev cX11_side : ByteArray := prog_13_method_17_code
def yX11_side : MethodName := ⟨RX11, "side", "(II)I"⟩
abbrev cX11_back : ByteArray := prog_13_method_18_code
def yX11_back : MethodName := ⟨RX11, "back", "(II)I"⟩
abbrev cX11_part : ByteArray := prog_13_method_19_code
def yX11_part : MethodName := ⟨RX11, "part", "(II)I"⟩
abbrev cX11_drop : ByteArray := prog_13_method_20_code
def yX11_drop : MethodName := ⟨RX11, "drop", "()I"⟩
abbrev cX11_beat : ByteArray := prog_13_method_21_code
def yX11_beat : MethodName := ⟨RX11, "beat", "(II)J"⟩
abbrev cX11_turnsOn : ByteArray := prog_13_method_22_code
def yX11_turnsOn : MethodName := ⟨RX11, "turnsOn", "(I)V"⟩
abbrev cX11_minor : ByteArray := prog_13_method_23_code
def yX11_minor : MethodName := ⟨RX11, "minor", "(III)J"⟩
abbrev cX11_owns : ByteArray := prog_13_method_24_code
def yX11_owns : MethodName := ⟨RX11, "owns", "(I)V"⟩
abbrev cX11_isWithin : ByteArray := prog_13_method_25_code
def yX11_isWithin : MethodName := ⟨RX11, "isWithin", "(I)Z"⟩
abbrev cX11_isSteady : ByteArray := prog_13_method_26_code
def yX11_isSteady : MethodName := ⟨RX11, "isSteady", "(I)Z"⟩
abbrev cX11_rank : ByteArray := prog_13_method_27_code
def yX11_rank : MethodName := ⟨RX11, "rank", "(I)I"⟩
abbrev cX11_reaches : ByteArray := prog_13_method_28_code
def yX11_reaches : MethodName := ⟨RX11, "reaches", "(II)V"⟩
abbrev cX11_reached : ByteArray := prog_13_method_29_code
def yX11_reached : MethodName := ⟨RX11, "reached", "(I)I"⟩
abbrev cX11_seen : ByteArray := prog_13_method_30_code
def yX11_seen : MethodName := ⟨RX11, "seen", "(I)I"⟩
abbrev cX11_least : ByteArray := prog_13_method_31_code
def yX11_least : MethodName := ⟨RX11, "least", "(I)I"⟩
abbrev cX11_machineTold : ByteArray := prog_13_method_32_code
def yX11_machineTold : MethodName := ⟨RX11, "machineTold", "(II)I"⟩
abbrev cX11_own : ByteArray := prog_13_method_33_code
def yX11_own : MethodName := ⟨RX11, "own", "(III)J"⟩
abbrev cX11_power : ByteArray := prog_13_method_34_code
def yX11_power : MethodName := ⟨RX11, "power", "(JI)J"⟩
abbrev cX11_pulse : ByteArray := prog_13_method_35_code
def yX11_pulse : MethodName := ⟨RX11, "pulse", "(III)J"⟩
abbrev cX11_run : ByteArray := prog_13_method_36_code
def yX11_run : MethodName := ⟨RX11, "run", "(IIII)J"⟩
abbrev cX11_like : ByteArray := prog_13_method_37_code
def yX11_like : MethodName := ⟨RX11, "like", "(II)I"⟩
abbrev cX11_worth : ByteArray := prog_13_method_38_code
def yX11_worth : MethodName := ⟨RX11, "worth", "(II)J"⟩
abbrev cX11_gain : ByteArray := prog_13_method_39_code
def yX11_gain : MethodName := ⟨RX11, "gain", "(IIIIII)J"⟩
abbrev cX11_soonest : ByteArray := prog_13_method_40_code
def yX11_soonest : MethodName := ⟨RX11, "soonest", "(IIII)I"⟩
abbrev cX11_lays : ByteArray := prog_13_method_41_code
def yX11_lays : MethodName := ⟨RX11, "lays", "(I)I"⟩
abbrev cX11_hasEnergy : ByteArray := prog_13_method_42_code
def yX11_hasEnergy : MethodName := ⟨RX11, "hasEnergy", "(I)Z"⟩
abbrev cX11_energy : ByteArray := prog_13_method_43_code
def yX11_energy : MethodName := ⟨RX11, "energy", "(IIII)J"⟩
abbrev cX11_writes : ByteArray := prog_13_method_44_code
def yX11_writes : MethodName := ⟨RX11, "writes", "(I)V"⟩
abbrev cX11_write : ByteArray := prog_13_method_45_code
def yX11_write : MethodName := ⟨RX11, "write", "(I)I"⟩
abbrev cX11_row : ByteArray := prog_13_method_46_code
def yX11_row : MethodName := ⟨RX11, "row", "(I)J"⟩
abbrev cX11_forge : ByteArray := prog_13_method_47_code
def yX11_forge : MethodName := ⟨RX11, "forge", "(IJ)I"⟩
abbrev cX11_check : ByteArray := prog_13_method_48_code
def yX11_check : MethodName := ⟨RX11, "check", "(I)I"⟩
abbrev cX11_ran : ByteArray := prog_13_method_49_code
def yX11_ran : MethodName := ⟨RX11, "ran", "(I)V"⟩
abbrev cX11_goesSteps : ByteArray := prog_13_method_50_code
def yX11_goesSteps : MethodName := ⟨RX11, "goesSteps", "(II)I"⟩
abbrev cX11_goes : ByteArray := prog_13_method_51_code
def yX11_goes : MethodName := ⟨RX11, "goes", "(II)I"⟩
abbrev cX11_leadsSteps : ByteArray := prog_13_method_52_code
def yX11_leadsSteps : MethodName := ⟨RX11, "leadsSteps", "(II)I"⟩
abbrev cX11_leads : ByteArray := prog_13_method_53_code
def yX11_leads : MethodName := ⟨RX11, "leads", "(II)I"⟩
abbrev cX11_showsSteps : ByteArray := prog_13_method_54_code
def yX11_showsSteps : MethodName := ⟨RX11, "showsSteps", "(II)I"⟩
abbrev cX11_showsLoop : ByteArray := prog_13_method_55_code
def yX11_showsLoop : MethodName := ⟨RX11, "showsLoop", "(II)I"⟩
abbrev cX11_shows : ByteArray := prog_13_method_56_code
def yX11_shows : MethodName := ⟨RX11, "shows", "(II)I"⟩
abbrev cX11_act : ByteArray := prog_13_method_57_code
def yX11_act : MethodName := ⟨RX11, "act", "(III)I"⟩
abbrev cX11_trace : ByteArray := prog_13_method_58_code
def yX11_trace : MethodName := ⟨RX11, "trace", "(I)I"⟩
abbrev cX11_count : ByteArray := prog_13_method_59_code
def yX11_count : MethodName := ⟨RX11, "count", "(I)I"⟩
abbrev cX11_isSheet : ByteArray := prog_13_method_60_code
def yX11_isSheet : MethodName := ⟨RX11, "isSheet", "(I)Z"⟩
abbrev cX11_sheet : ByteArray := prog_13_method_61_code
def yX11_sheet : MethodName := ⟨RX11, "sheet", "(III)I"⟩
abbrev cX11_cell : ByteArray := prog_13_method_62_code
def yX11_cell : MethodName := ⟨RX11, "cell", "(III)I"⟩
abbrev cX11_lay : ByteArray := prog_13_method_63_code
def yX11_lay : MethodName := ⟨RX11, "lay", "(IIII)I"⟩
abbrev cX11_copy : ByteArray := prog_13_method_64_code
def yX11_copy : MethodName := ⟨RX11, "copy", "(IIIII)I"⟩
abbrev cX11_taken : ByteArray := prog_13_method_65_code
def yX11_taken : MethodName := ⟨RX11, "taken", "(II)I"⟩
def RJ6 : String := "java/lang/Integer"
def TJ6 : u_T := fun k => match k with
  | _ => ("", "", "", false)
def tyJ6 : Nat → FieldType := fun k => match k with
  | _ => .int
abbrev wsJ60 : List Cond := u_ws RJ6 TJ6 0
theorem nmJ6 : ∀ a, a < 0 → ∀ b, b < 0 → a ≠ b → (TJ6 a).2.1 ≠ (TJ6 b).2.1 := by decide +kernel
theorem tyJ6_ok : ∀ k, k < 0 → parseFieldDescriptor (TJ6 k).2.2.1 = some (tyJ6 k) := by decide +kernel
abbrev cJ6_bitCount_0f7a4 : ByteArray := prog_14_method_49_code
def yJ6_bitCount_0f7a4 : MethodName := ⟨RJ6, "bitCount", "(I)I"⟩
def RJ9 : String := "java/lang/Math"
def TJ9 : u_T := fun k => match k with
  | _ => ("", "", "", false)
def tyJ9 : Nat → FieldType := fun k => match k with
  | _ => .int
abbrev wsJ90 : List Cond := u_ws RJ9 TJ9 0
theorem nmJ9 : ∀ a, a < 0 → ∀ b, b < 0 → a ≠ b → (TJ9 a).2.1 ≠ (TJ9 b).2.1 := by decide +kernel
theorem tyJ9_ok : ∀ k, k < 0 → parseFieldDescriptor (TJ9 k).2.2.1 = some (tyJ9 k) := by decide +kernel
abbrev cJ9_abs_067f4 : ByteArray := prog_15_method_61_code
def yJ9_abs_067f4 : MethodName := ⟨RJ9, "abs", "(J)J"⟩
abbrev cJ9_max_7cf53 : ByteArray := prog_15_method_65_code
def yJ9_max_7cf53 : MethodName := ⟨RJ9, "max", "(II)I"⟩
abbrev cJ9_min_7cf53 : ByteArray := prog_15_method_69_code
def yJ9_min_7cf53 : MethodName := ⟨RJ9, "min", "(II)I"⟩
def RJ10 : String := "java/lang/System"
def TJ10 : u_T := fun k => match k with
  | _ => ("", "", "", false)
def tyJ10 : Nat → FieldType := fun k => match k with
  | _ => .int
abbrev wsJ100 : List Cond := u_ws RJ10 TJ10 0
theorem nmJ10 : ∀ a, a < 0 → ∀ b, b < 0 → a ≠ b → (TJ10 a).2.1 ≠ (TJ10 b).2.1 := by decide +kernel
theorem tyJ10_ok : ∀ k, k < 0 → parseFieldDescriptor (TJ10 k).2.2.1 = some (tyJ10 k) := by decide +kernel
def RL : String := "SteerBenchLaw"
abbrev cL_law : ByteArray := code
def yL_law : MethodName := ⟨RL, "law", "([I)Z"⟩
abbrev vwCl : List vw_C := [(RX0, TX0, 6), (RX1, TX1, 7), (RX2, TX2, 2), (RX3, TX3, 9), (RX4, TX4, 7), (RX6, TX6, 7), (RX7, TX7, 2), (RX8, TX8, 7), (RX9, TX9, 2), (RX10, TX10, 11), (RX11, TX11, 30)]
