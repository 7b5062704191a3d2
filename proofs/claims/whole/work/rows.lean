section
-- ===== PART A: goes FIRST, ahead of the names: the tables' words, and 'selects' of the private methods out of them =====
/-- a private method of a class that the tables say can be made, by its rows of tables_1 -/
def lw_okq (q : MethodName × Nat) : Prop := (q.1.cls ≠ "java/lang/invoke/MethodHandle" ∧ q.1.cls ≠ "java/lang/invoke/VarHandle") ∧ Cond.instantiable q.1.cls q.2 ∈ tables_1 ∧ Cond.privateMethod q.1 ∈ tables_1 ∧ Cond.instanceMethod q.1 ∈ tables_1
theorem lw_p0 : lw_okq (⟨"SteerBench", "isFull", "()Z"⟩, 11) := ⟨⟨by decide +kernel, by decide +kernel⟩, List.mem_of_getElem? (i := 17) (by decide +kernel), List.mem_of_getElem? (i := 239) (by decide +kernel), List.mem_of_getElem? (i := 240) (by decide +kernel)⟩
theorem lw_p1 : lw_okq (⟨"SteerBench", "kept", "(LSteerBench$Steps;)I"⟩, 11) := ⟨⟨by decide +kernel, by decide +kernel⟩, List.mem_of_getElem? (i := 17) (by decide +kernel), List.mem_of_getElem? (i := 258) (by decide +kernel), List.mem_of_getElem? (i := 259) (by decide +kernel)⟩
theorem lw_p2 : lw_okq (⟨"SteerBench", "machineAt", "(I)LSteerBench$Steps;"⟩, 11) := ⟨⟨by decide +kernel, by decide +kernel⟩, List.mem_of_getElem? (i := 17) (by decide +kernel), List.mem_of_getElem? (i := 266) (by decide +kernel), List.mem_of_getElem? (i := 267) (by decide +kernel)⟩
theorem lw_p3 : lw_okq (⟨"SteerBench", "joined", "(IIZ)I"⟩, 11) := ⟨⟨by decide +kernel, by decide +kernel⟩, List.mem_of_getElem? (i := 17) (by decide +kernel), List.mem_of_getElem? (i := 286) (by decide +kernel), List.mem_of_getElem? (i := 287) (by decide +kernel)⟩
theorem lw_p4 : lw_okq (⟨"SteerBench", "keptIfSmall", "(LSteerBench$Loop;)I"⟩, 11) := ⟨⟨by decide +kernel, by decide +kernel⟩, List.mem_of_getElem? (i := 17) (by decide +kernel), List.mem_of_getElem? (i := 312) (by decide +kernel), List.mem_of_getElem? (i := 313) (by decide +kernel)⟩
theorem lw_p5 : lw_okq (⟨"SteerBench$Look", "columnInto", "([J[J)V"⟩, 9) := ⟨⟨by decide +kernel, by decide +kernel⟩, List.mem_of_getElem? (i := 54) (by decide +kernel), List.mem_of_getElem? (i := 368) (by decide +kernel), List.mem_of_getElem? (i := 369) (by decide +kernel)⟩
theorem lw_p6 : lw_okq (⟨"SteerBench$Look", "rowInto", "([J[J)V"⟩, 9) := ⟨⟨by decide +kernel, by decide +kernel⟩, List.mem_of_getElem? (i := 54) (by decide +kernel), List.mem_of_getElem? (i := 372) (by decide +kernel), List.mem_of_getElem? (i := 373) (by decide +kernel)⟩
theorem lw_p7 : lw_okq (⟨"SteerBench$Look", "fillOwn", "()V"⟩, 9) := ⟨⟨by decide +kernel, by decide +kernel⟩, List.mem_of_getElem? (i := 54) (by decide +kernel), List.mem_of_getElem? (i := 376) (by decide +kernel), List.mem_of_getElem? (i := 377) (by decide +kernel)⟩
theorem lw_p8 : lw_okq (⟨"SteerBench$Look", "putOwn", "(IJ)V"⟩, 9) := ⟨⟨by decide +kernel, by decide +kernel⟩, List.mem_of_getElem? (i := 54) (by decide +kernel), List.mem_of_getElem? (i := 380) (by decide +kernel), List.mem_of_getElem? (i := 381) (by decide +kernel)⟩
theorem lw_p9 : lw_okq (⟨"SteerBench$Look", "pairMinor", "(II)J"⟩, 9) := ⟨⟨by decide +kernel, by decide +kernel⟩, List.mem_of_getElem? (i := 54) (by decide +kernel), List.mem_of_getElem? (i := 384) (by decide +kernel), List.mem_of_getElem? (i := 385) (by decide +kernel)⟩
theorem lw_p10 : lw_okq (⟨"SteerBench$Energy", "fillFlow", "(JJJJJ)V"⟩, 6) := ⟨⟨by decide +kernel, by decide +kernel⟩, List.mem_of_getElem? (i := 156) (by decide +kernel), List.mem_of_getElem? (i := 396) (by decide +kernel), List.mem_of_getElem? (i := 397) (by decide +kernel)⟩
theorem lw_p11 : lw_okq (⟨"SteerBench$Energy", "fill", "(IJJJ)V"⟩, 6) := ⟨⟨by decide +kernel, by decide +kernel⟩, List.mem_of_getElem? (i := 156) (by decide +kernel), List.mem_of_getElem? (i := 401) (by decide +kernel), List.mem_of_getElem? (i := 402) (by decide +kernel)⟩
theorem lw_p12 : lw_okq (⟨"SteerBench$Energy", "fillSides", "(J)V"⟩, 6) := ⟨⟨by decide +kernel, by decide +kernel⟩, List.mem_of_getElem? (i := 156) (by decide +kernel), List.mem_of_getElem? (i := 405) (by decide +kernel), List.mem_of_getElem? (i := 406) (by decide +kernel)⟩
theorem lw_p13 : lw_okq (⟨"SteerBench$Energy", "fillTicks", "(JJJJJ)V"⟩, 6) := ⟨⟨by decide +kernel, by decide +kernel⟩, List.mem_of_getElem? (i := 156) (by decide +kernel), List.mem_of_getElem? (i := 409) (by decide +kernel), List.mem_of_getElem? (i := 410) (by decide +kernel)⟩
theorem lw_p14 : lw_okq (⟨"SteerBench$Energy", "leaveOut", "(I)V"⟩, 6) := ⟨⟨by decide +kernel, by decide +kernel⟩, List.mem_of_getElem? (i := 156) (by decide +kernel), List.mem_of_getElem? (i := 414) (by decide +kernel), List.mem_of_getElem? (i := 415) (by decide +kernel)⟩
theorem lw_p15 : lw_okq (⟨"SteerBench$Look", "rootsAreLeftOfZero", "()Z"⟩, 9) := ⟨⟨by decide +kernel, by decide +kernel⟩, List.mem_of_getElem? (i := 54) (by decide +kernel), List.mem_of_getElem? (i := 438) (by decide +kernel), List.mem_of_getElem? (i := 439) (by decide +kernel)⟩
def lw_privs_1 : List (MethodName × Nat) := [(⟨"SteerBench", "isFull", "()Z"⟩, 11), (⟨"SteerBench", "kept", "(LSteerBench$Steps;)I"⟩, 11), (⟨"SteerBench", "machineAt", "(I)LSteerBench$Steps;"⟩, 11), (⟨"SteerBench", "joined", "(IIZ)I"⟩, 11), (⟨"SteerBench", "keptIfSmall", "(LSteerBench$Loop;)I"⟩, 11), (⟨"SteerBench$Look", "columnInto", "([J[J)V"⟩, 9), (⟨"SteerBench$Look", "rowInto", "([J[J)V"⟩, 9), (⟨"SteerBench$Look", "fillOwn", "()V"⟩, 9), (⟨"SteerBench$Look", "putOwn", "(IJ)V"⟩, 9), (⟨"SteerBench$Look", "pairMinor", "(II)J"⟩, 9), (⟨"SteerBench$Energy", "fillFlow", "(JJJJJ)V"⟩, 6), (⟨"SteerBench$Energy", "fill", "(IJJJ)V"⟩, 6), (⟨"SteerBench$Energy", "fillSides", "(J)V"⟩, 6), (⟨"SteerBench$Energy", "fillTicks", "(JJJJJ)V"⟩, 6), (⟨"SteerBench$Energy", "leaveOut", "(I)V"⟩, 6), (⟨"SteerBench$Look", "rootsAreLeftOfZero", "()Z"⟩, 9)]
theorem lw_r1 : ∀ q ∈ lw_privs_1, lw_okq q := List.forall_mem_cons.mpr ⟨lw_p0, List.forall_mem_cons.mpr ⟨lw_p1, List.forall_mem_cons.mpr ⟨lw_p2, List.forall_mem_cons.mpr ⟨lw_p3, List.forall_mem_cons.mpr ⟨lw_p4, List.forall_mem_cons.mpr ⟨lw_p5, List.forall_mem_cons.mpr ⟨lw_p6, List.forall_mem_cons.mpr ⟨lw_p7, List.forall_mem_cons.mpr ⟨lw_p8, List.forall_mem_cons.mpr ⟨lw_p9, List.forall_mem_cons.mpr ⟨lw_p10, List.forall_mem_cons.mpr ⟨lw_p11, List.forall_mem_cons.mpr ⟨lw_p12, List.forall_mem_cons.mpr ⟨lw_p13, List.forall_mem_cons.mpr ⟨lw_p14, List.forall_mem_cons.mpr ⟨lw_p15, fun _ h => absurd h List.not_mem_nil⟩⟩⟩⟩⟩⟩⟩⟩⟩⟩⟩⟩⟩⟩⟩⟩
theorem lw_p16 : lw_okq (⟨"SteerBench$Look", "rootsAreWithinCircle", "()Z"⟩, 9) := ⟨⟨by decide +kernel, by decide +kernel⟩, List.mem_of_getElem? (i := 54) (by decide +kernel), List.mem_of_getElem? (i := 442) (by decide +kernel), List.mem_of_getElem? (i := 443) (by decide +kernel)⟩
theorem lw_p17 : lw_okq (⟨"SteerBench$Look", "plainPulse", "(I)J"⟩, 9) := ⟨⟨by decide +kernel, by decide +kernel⟩, List.mem_of_getElem? (i := 54) (by decide +kernel), List.mem_of_getElem? (i := 480) (by decide +kernel), List.mem_of_getElem? (i := 481) (by decide +kernel)⟩
theorem lw_p18 : lw_okq (⟨"SteerBench$Look", "leadInto", "([J)V"⟩, 9) := ⟨⟨by decide +kernel, by decide +kernel⟩, List.mem_of_getElem? (i := 54) (by decide +kernel), List.mem_of_getElem? (i := 546) (by decide +kernel), List.mem_of_getElem? (i := 547) (by decide +kernel)⟩
theorem lw_p19 : lw_okq (⟨"SteerBench", "proofInto", "([JLSteerBench$Steps;)I"⟩, 11) := ⟨⟨by decide +kernel, by decide +kernel⟩, List.mem_of_getElem? (i := 17) (by decide +kernel), List.mem_of_getElem? (i := 571) (by decide +kernel), List.mem_of_getElem? (i := 572) (by decide +kernel)⟩
theorem lw_p20 : lw_okq (⟨"SteerBenchModel", "makes", "(III)I"⟩, 30) := ⟨⟨by decide +kernel, by decide +kernel⟩, List.mem_of_getElem? (i := 700) (by decide +kernel), List.mem_of_getElem? (i := 801) (by decide +kernel), List.mem_of_getElem? (i := 802) (by decide +kernel)⟩
theorem lw_p21 : lw_okq (⟨"SteerBenchModel", "is", "(I)Z"⟩, 30) := ⟨⟨by decide +kernel, by decide +kernel⟩, List.mem_of_getElem? (i := 700) (by decide +kernel), List.mem_of_getElem? (i := 809) (by decide +kernel), List.mem_of_getElem? (i := 810) (by decide +kernel)⟩
theorem lw_p22 : lw_okq (⟨"SteerBenchModel", "isPlace", "(IIII)Z"⟩, 30) := ⟨⟨by decide +kernel, by decide +kernel⟩, List.mem_of_getElem? (i := 700) (by decide +kernel), List.mem_of_getElem? (i := 813) (by decide +kernel), List.mem_of_getElem? (i := 814) (by decide +kernel)⟩
theorem lw_p23 : lw_okq (⟨"SteerBenchModel", "number", "(IIII)I"⟩, 30) := ⟨⟨by decide +kernel, by decide +kernel⟩, List.mem_of_getElem? (i := 700) (by decide +kernel), List.mem_of_getElem? (i := 817) (by decide +kernel), List.mem_of_getElem? (i := 818) (by decide +kernel)⟩
theorem lw_p24 : lw_okq (⟨"SteerBenchModel", "at", "(III)I"⟩, 30) := ⟨⟨by decide +kernel, by decide +kernel⟩, List.mem_of_getElem? (i := 700) (by decide +kernel), List.mem_of_getElem? (i := 821) (by decide +kernel), List.mem_of_getElem? (i := 822) (by decide +kernel)⟩
theorem lw_p25 : lw_okq (⟨"SteerBenchModel", "joins", "(IIZ)I"⟩, 30) := ⟨⟨by decide +kernel, by decide +kernel⟩, List.mem_of_getElem? (i := 700) (by decide +kernel), List.mem_of_getElem? (i := 834) (by decide +kernel), List.mem_of_getElem? (i := 835) (by decide +kernel)⟩
theorem lw_p26 : lw_okq (⟨"SteerBenchModel", "keeps", "(IIII)I"⟩, 30) := ⟨⟨by decide +kernel, by decide +kernel⟩, List.mem_of_getElem? (i := 700) (by decide +kernel), List.mem_of_getElem? (i := 838) (by decide +kernel), List.mem_of_getElem? (i := 839) (by decide +kernel)⟩
theorem lw_p27 : lw_okq (⟨"SteerBenchModel", "isSteady", "(I)Z"⟩, 30) := ⟨⟨by decide +kernel, by decide +kernel⟩, List.mem_of_getElem? (i := 700) (by decide +kernel), List.mem_of_getElem? (i := 865) (by decide +kernel), List.mem_of_getElem? (i := 866) (by decide +kernel)⟩
theorem lw_p28 : lw_okq (⟨"SteerBenchModel", "owns", "(I)V"⟩, 30) := ⟨⟨by decide +kernel, by decide +kernel⟩, List.mem_of_getElem? (i := 700) (by decide +kernel), List.mem_of_getElem? (i := 869) (by decide +kernel), List.mem_of_getElem? (i := 870) (by decide +kernel)⟩
theorem lw_p29 : lw_okq (⟨"SteerBenchModel", "minor", "(III)J"⟩, 30) := ⟨⟨by decide +kernel, by decide +kernel⟩, List.mem_of_getElem? (i := 700) (by decide +kernel), List.mem_of_getElem? (i := 873) (by decide +kernel), List.mem_of_getElem? (i := 874) (by decide +kernel)⟩
theorem lw_p30 : lw_okq (⟨"SteerBenchModel", "isWithin", "(I)Z"⟩, 30) := ⟨⟨by decide +kernel, by decide +kernel⟩, List.mem_of_getElem? (i := 700) (by decide +kernel), List.mem_of_getElem? (i := 877) (by decide +kernel), List.mem_of_getElem? (i := 878) (by decide +kernel)⟩
theorem lw_p31 : lw_okq (⟨"SteerBenchModel", "reached", "(I)I"⟩, 30) := ⟨⟨by decide +kernel, by decide +kernel⟩, List.mem_of_getElem? (i := 700) (by decide +kernel), List.mem_of_getElem? (i := 884) (by decide +kernel), List.mem_of_getElem? (i := 885) (by decide +kernel)⟩
def lw_privs_2 : List (MethodName × Nat) := [(⟨"SteerBench$Look", "rootsAreWithinCircle", "()Z"⟩, 9), (⟨"SteerBench$Look", "plainPulse", "(I)J"⟩, 9), (⟨"SteerBench$Look", "leadInto", "([J)V"⟩, 9), (⟨"SteerBench", "proofInto", "([JLSteerBench$Steps;)I"⟩, 11), (⟨"SteerBenchModel", "makes", "(III)I"⟩, 30), (⟨"SteerBenchModel", "is", "(I)Z"⟩, 30), (⟨"SteerBenchModel", "isPlace", "(IIII)Z"⟩, 30), (⟨"SteerBenchModel", "number", "(IIII)I"⟩, 30), (⟨"SteerBenchModel", "at", "(III)I"⟩, 30), (⟨"SteerBenchModel", "joins", "(IIZ)I"⟩, 30), (⟨"SteerBenchModel", "keeps", "(IIII)I"⟩, 30), (⟨"SteerBenchModel", "isSteady", "(I)Z"⟩, 30), (⟨"SteerBenchModel", "owns", "(I)V"⟩, 30), (⟨"SteerBenchModel", "minor", "(III)J"⟩, 30), (⟨"SteerBenchModel", "isWithin", "(I)Z"⟩, 30), (⟨"SteerBenchModel", "reached", "(I)I"⟩, 30)]
theorem lw_r2 : ∀ q ∈ lw_privs_2, lw_okq q := List.forall_mem_cons.mpr ⟨lw_p16, List.forall_mem_cons.mpr ⟨lw_p17, List.forall_mem_cons.mpr ⟨lw_p18, List.forall_mem_cons.mpr ⟨lw_p19, List.forall_mem_cons.mpr ⟨lw_p20, List.forall_mem_cons.mpr ⟨lw_p21, List.forall_mem_cons.mpr ⟨lw_p22, List.forall_mem_cons.mpr ⟨lw_p23, List.forall_mem_cons.mpr ⟨lw_p24, List.forall_mem_cons.mpr ⟨lw_p25, List.forall_mem_cons.mpr ⟨lw_p26, List.forall_mem_cons.mpr ⟨lw_p27, List.forall_mem_cons.mpr ⟨lw_p28, List.forall_mem_cons.mpr ⟨lw_p29, List.forall_mem_cons.mpr ⟨lw_p30, List.forall_mem_cons.mpr ⟨lw_p31, fun _ h => absurd h List.not_mem_nil⟩⟩⟩⟩⟩⟩⟩⟩⟩⟩⟩⟩⟩⟩⟩⟩
theorem lw_p32 : lw_okq (⟨"SteerBenchModel", "reaches", "(II)V"⟩, 30) := ⟨⟨by decide +kernel, by decide +kernel⟩, List.mem_of_getElem? (i := 700) (by decide +kernel), List.mem_of_getElem? (i := 888) (by decide +kernel), List.mem_of_getElem? (i := 889) (by decide +kernel)⟩
theorem lw_p33 : lw_okq (⟨"SteerBenchModel", "turnsOn", "(I)V"⟩, 30) := ⟨⟨by decide +kernel, by decide +kernel⟩, List.mem_of_getElem? (i := 700) (by decide +kernel), List.mem_of_getElem? (i := 892) (by decide +kernel), List.mem_of_getElem? (i := 893) (by decide +kernel)⟩
theorem lw_p34 : lw_okq (⟨"SteerBenchModel", "rank", "(I)I"⟩, 30) := ⟨⟨by decide +kernel, by decide +kernel⟩, List.mem_of_getElem? (i := 700) (by decide +kernel), List.mem_of_getElem? (i := 896) (by decide +kernel), List.mem_of_getElem? (i := 897) (by decide +kernel)⟩
theorem lw_p35 : lw_okq (⟨"SteerBenchModel", "seen", "(I)I"⟩, 30) := ⟨⟨by decide +kernel, by decide +kernel⟩, List.mem_of_getElem? (i := 700) (by decide +kernel), List.mem_of_getElem? (i := 900) (by decide +kernel), List.mem_of_getElem? (i := 901) (by decide +kernel)⟩
theorem lw_p36 : lw_okq (⟨"SteerBenchModel", "least", "(I)I"⟩, 30) := ⟨⟨by decide +kernel, by decide +kernel⟩, List.mem_of_getElem? (i := 700) (by decide +kernel), List.mem_of_getElem? (i := 904) (by decide +kernel), List.mem_of_getElem? (i := 905) (by decide +kernel)⟩
theorem lw_p37 : lw_okq (⟨"SteerBenchModel", "beat", "(II)J"⟩, 30) := ⟨⟨by decide +kernel, by decide +kernel⟩, List.mem_of_getElem? (i := 700) (by decide +kernel), List.mem_of_getElem? (i := 908) (by decide +kernel), List.mem_of_getElem? (i := 909) (by decide +kernel)⟩
theorem lw_p38 : lw_okq (⟨"SteerBenchModel", "hasEnergy", "(I)Z"⟩, 30) := ⟨⟨by decide +kernel, by decide +kernel⟩, List.mem_of_getElem? (i := 700) (by decide +kernel), List.mem_of_getElem? (i := 912) (by decide +kernel), List.mem_of_getElem? (i := 913) (by decide +kernel)⟩
theorem lw_p39 : lw_okq (⟨"SteerBenchModel", "lays", "(I)I"⟩, 30) := ⟨⟨by decide +kernel, by decide +kernel⟩, List.mem_of_getElem? (i := 700) (by decide +kernel), List.mem_of_getElem? (i := 916) (by decide +kernel), List.mem_of_getElem? (i := 917) (by decide +kernel)⟩
theorem lw_p40 : lw_okq (⟨"SteerBenchModel", "worth", "(II)J"⟩, 30) := ⟨⟨by decide +kernel, by decide +kernel⟩, List.mem_of_getElem? (i := 700) (by decide +kernel), List.mem_of_getElem? (i := 921) (by decide +kernel), List.mem_of_getElem? (i := 922) (by decide +kernel)⟩
theorem lw_p41 : lw_okq (⟨"SteerBenchModel", "lowest", "(JJ)V"⟩, 30) := ⟨⟨by decide +kernel, by decide +kernel⟩, List.mem_of_getElem? (i := 700) (by decide +kernel), List.mem_of_getElem? (i := 934) (by decide +kernel), List.mem_of_getElem? (i := 935) (by decide +kernel)⟩
theorem lw_p42 : lw_okq (⟨"SteerBenchModel", "told", "(I)J"⟩, 30) := ⟨⟨by decide +kernel, by decide +kernel⟩, List.mem_of_getElem? (i := 700) (by decide +kernel), List.mem_of_getElem? (i := 941) (by decide +kernel), List.mem_of_getElem? (i := 942) (by decide +kernel)⟩
theorem lw_p43 : lw_okq (⟨"SteerBenchModel", "writes", "(I)V"⟩, 30) := ⟨⟨by decide +kernel, by decide +kernel⟩, List.mem_of_getElem? (i := 700) (by decide +kernel), List.mem_of_getElem? (i := 970) (by decide +kernel), List.mem_of_getElem? (i := 971) (by decide +kernel)⟩
theorem lw_p44 : lw_okq (⟨"SteerBenchModel", "goes", "(II)I"⟩, 30) := ⟨⟨by decide +kernel, by decide +kernel⟩, List.mem_of_getElem? (i := 700) (by decide +kernel), List.mem_of_getElem? (i := 993) (by decide +kernel), List.mem_of_getElem? (i := 994) (by decide +kernel)⟩
theorem lw_p45 : lw_okq (⟨"SteerBenchModel", "ran", "(I)V"⟩, 30) := ⟨⟨by decide +kernel, by decide +kernel⟩, List.mem_of_getElem? (i := 700) (by decide +kernel), List.mem_of_getElem? (i := 997) (by decide +kernel), List.mem_of_getElem? (i := 998) (by decide +kernel)⟩
theorem lw_p46 : lw_okq (⟨"SteerBenchModel", "goesSteps", "(II)I"⟩, 30) := ⟨⟨by decide +kernel, by decide +kernel⟩, List.mem_of_getElem? (i := 700) (by decide +kernel), List.mem_of_getElem? (i := 1001) (by decide +kernel), List.mem_of_getElem? (i := 1002) (by decide +kernel)⟩
theorem lw_p47 : lw_okq (⟨"SteerBenchModel", "leads", "(II)I"⟩, 30) := ⟨⟨by decide +kernel, by decide +kernel⟩, List.mem_of_getElem? (i := 700) (by decide +kernel), List.mem_of_getElem? (i := 1005) (by decide +kernel), List.mem_of_getElem? (i := 1006) (by decide +kernel)⟩
def lw_privs_3 : List (MethodName × Nat) := [(⟨"SteerBenchModel", "reaches", "(II)V"⟩, 30), (⟨"SteerBenchModel", "turnsOn", "(I)V"⟩, 30), (⟨"SteerBenchModel", "rank", "(I)I"⟩, 30), (⟨"SteerBenchModel", "seen", "(I)I"⟩, 30), (⟨"SteerBenchModel", "least", "(I)I"⟩, 30), (⟨"SteerBenchModel", "beat", "(II)J"⟩, 30), (⟨"SteerBenchModel", "hasEnergy", "(I)Z"⟩, 30), (⟨"SteerBenchModel", "lays", "(I)I"⟩, 30), (⟨"SteerBenchModel", "worth", "(II)J"⟩, 30), (⟨"SteerBenchModel", "lowest", "(JJ)V"⟩, 30), (⟨"SteerBenchModel", "told", "(I)J"⟩, 30), (⟨"SteerBenchModel", "writes", "(I)V"⟩, 30), (⟨"SteerBenchModel", "goes", "(II)I"⟩, 30), (⟨"SteerBenchModel", "ran", "(I)V"⟩, 30), (⟨"SteerBenchModel", "goesSteps", "(II)I"⟩, 30), (⟨"SteerBenchModel", "leads", "(II)I"⟩, 30)]
theorem lw_r3 : ∀ q ∈ lw_privs_3, lw_okq q := List.forall_mem_cons.mpr ⟨lw_p32, List.forall_mem_cons.mpr ⟨lw_p33, List.forall_mem_cons.mpr ⟨lw_p34, List.forall_mem_cons.mpr ⟨lw_p35, List.forall_mem_cons.mpr ⟨lw_p36, List.forall_mem_cons.mpr ⟨lw_p37, List.forall_mem_cons.mpr ⟨lw_p38, List.forall_mem_cons.mpr ⟨lw_p39, List.forall_mem_cons.mpr ⟨lw_p40, List.forall_mem_cons.mpr ⟨lw_p41, List.forall_mem_cons.mpr ⟨lw_p42, List.forall_mem_cons.mpr ⟨lw_p43, List.forall_mem_cons.mpr ⟨lw_p44, List.forall_mem_cons.mpr ⟨lw_p45, List.forall_mem_cons.mpr ⟨lw_p46, List.forall_mem_cons.mpr ⟨lw_p47, fun _ h => absurd h List.not_mem_nil⟩⟩⟩⟩⟩⟩⟩⟩⟩⟩⟩⟩⟩⟩⟩⟩
theorem lw_p48 : lw_okq (⟨"SteerBenchModel", "leadsSteps", "(II)I"⟩, 30) := ⟨⟨by decide +kernel, by decide +kernel⟩, List.mem_of_getElem? (i := 700) (by decide +kernel), List.mem_of_getElem? (i := 1009) (by decide +kernel), List.mem_of_getElem? (i := 1010) (by decide +kernel)⟩
theorem lw_p49 : lw_okq (⟨"SteerBenchModel", "shows", "(II)I"⟩, 30) := ⟨⟨by decide +kernel, by decide +kernel⟩, List.mem_of_getElem? (i := 700) (by decide +kernel), List.mem_of_getElem? (i := 1013) (by decide +kernel), List.mem_of_getElem? (i := 1014) (by decide +kernel)⟩
theorem lw_p50 : lw_okq (⟨"SteerBenchModel", "showsSteps", "(II)I"⟩, 30) := ⟨⟨by decide +kernel, by decide +kernel⟩, List.mem_of_getElem? (i := 700) (by decide +kernel), List.mem_of_getElem? (i := 1017) (by decide +kernel), List.mem_of_getElem? (i := 1018) (by decide +kernel)⟩
theorem lw_p51 : lw_okq (⟨"SteerBenchModel", "showsLoop", "(II)I"⟩, 30) := ⟨⟨by decide +kernel, by decide +kernel⟩, List.mem_of_getElem? (i := 700) (by decide +kernel), List.mem_of_getElem? (i := 1021) (by decide +kernel), List.mem_of_getElem? (i := 1022) (by decide +kernel)⟩
def lw_privs_4 : List (MethodName × Nat) := [(⟨"SteerBenchModel", "leadsSteps", "(II)I"⟩, 30), (⟨"SteerBenchModel", "shows", "(II)I"⟩, 30), (⟨"SteerBenchModel", "showsSteps", "(II)I"⟩, 30), (⟨"SteerBenchModel", "showsLoop", "(II)I"⟩, 30)]
theorem lw_r4 : ∀ q ∈ lw_privs_4, lw_okq q := List.forall_mem_cons.mpr ⟨lw_p48, List.forall_mem_cons.mpr ⟨lw_p49, List.forall_mem_cons.mpr ⟨lw_p50, List.forall_mem_cons.mpr ⟨lw_p51, fun _ h => absurd h List.not_mem_nil⟩⟩⟩⟩
def lw_privs : List (MethodName × Nat) := lw_privs_1 ++ (lw_privs_2 ++ (lw_privs_3 ++ (lw_privs_4)))
def lw_tbl : List Cond := k2_sels lw_privs ++ tables_1
theorem lw_privs_ok : ∀ q ∈ lw_privs, lw_okq q := by
  show ∀ q ∈ lw_privs_1 ++ (lw_privs_2 ++ (lw_privs_3 ++ (lw_privs_4))), lw_okq q
  exact List.forall_mem_append.mpr ⟨lw_r1, List.forall_mem_append.mpr ⟨lw_r2, List.forall_mem_append.mpr ⟨lw_r3, lw_r4⟩⟩⟩
def RX0 : String := "SteerBench$Energy"
def TX0 : u_T := fun k => match k with
  | 0 => ("SteerBench$Energy", "columns", "[[J", true)
  | 1 => ("SteerBench$Energy", "sides", "[J", true)
  | 2 => ("SteerBench$Energy", "above", "[J", true)
  | 3 => ("SteerBench$Energy", "below", "J", false)
  | 4 => ("SteerBench$Energy", "states", "I", false)
  | _ => ("SteerBench$Energy", "isThere", "Z", false)
def tyX0 : Nat → FieldType := fun k => match k with
  | 0 => .array (.array .long)
  | 1 => .array .long
  | 2 => .array .long
  | 3 => .long
  | 4 => .int
  | _ => .boolean
abbrev wsX00 : List Cond := u_ws RX0 TX0 6
theorem nmX0 : ∀ a, a < 6 → ∀ b, b < 6 → a ≠ b → (TX0 a).2.1 ≠ (TX0 b).2.1 := by decide +kernel
theorem tyX0_ok : ∀ k, k < 6 → parseFieldDescriptor (TX0 k).2.2.1 = some (tyX0 k) := by decide +kernel
abbrev cX0_init : ByteArray := prog_2_method_1_code
def yX0_init : MethodName := ⟨RX0, "<init>", "()V"⟩
abbrev cX0_at : ByteArray := prog_2_method_2_code
def yX0_at : MethodName := ⟨RX0, "at", "(LSteerBench$Steps;)V"⟩
abbrev cX0_fillTicks : ByteArray := prog_2_method_3_code
def yX0_fillTicks : MethodName := ⟨RX0, "fillTicks", "(JJJJJ)V"⟩
abbrev cX0_fillFlow : ByteArray := prog_2_method_4_code
def yX0_fillFlow : MethodName := ⟨RX0, "fillFlow", "(JJJJJ)V"⟩
abbrev cX0_fill : ByteArray := prog_2_method_5_code
def yX0_fill : MethodName := ⟨RX0, "fill", "(IJJJ)V"⟩
abbrev cX0_fillSides : ByteArray := prog_2_method_6_code
def yX0_fillSides : MethodName := ⟨RX0, "fillSides", "(J)V"⟩
abbrev cX0_leaveOut : ByteArray := prog_2_method_7_code
def yX0_leaveOut : MethodName := ⟨RX0, "leaveOut", "(I)V"⟩
abbrev cX0_numberInto : ByteArray := prog_2_method_8_code
def yX0_numberInto : MethodName := ⟨RX0, "numberInto", "(LSteerBench$Fraction;I)V"⟩
abbrev cX0_isAboveZero : ByteArray := prog_2_method_9_code
def yX0_isAboveZero : MethodName := ⟨RX0, "isAboveZero", "()Z"⟩
def RX1 : String := "SteerBench$Flow"
def TX1 : u_T := fun k => match k with
  | 0 => ("SteerBench$Steps", "number", "I", true)
  | 1 => ("SteerBench$Steps", "states", "I", true)
  | 2 => ("SteerBench$Steps", "unit", "I", true)
  | 3 => ("SteerBench$Steps", "a", "[I", true)
  | 4 => ("SteerBench$Steps", "b", "[I", true)
  | 5 => ("SteerBench$Steps", "c", "[I", true)
  | _ => ("SteerBench$Steps", "d", "[I", true)
def tyX1 : Nat → FieldType := fun k => match k with
  | 0 => .int
  | 1 => .int
  | 2 => .int
  | 3 => .array .int
  | 4 => .array .int
  | 5 => .array .int
  | _ => .array .int
abbrev wsX10 : List Cond := u_ws RX1 TX1 7
theorem nmX1 : ∀ a, a < 7 → ∀ b, b < 7 → a ≠ b → (TX1 a).2.1 ≠ (TX1 b).2.1 := by decide +kernel
theorem tyX1_ok : ∀ k, k < 7 → parseFieldDescriptor (TX1 k).2.2.1 = some (tyX1 k) := by decide +kernel
abbrev cX1_init : ByteArray := prog_3_method_1_code
def yX1_init : MethodName := ⟨RX1, "<init>", "(III)V"⟩
abbrev cX1_kind : ByteArray := prog_3_method_2_code
def yX1_kind : MethodName := ⟨RX1, "kind", "()I"⟩
abbrev cX1_goes : ByteArray := prog_3_method_3_code
def yX1_goes : MethodName := ⟨RX1, "goes", "(ILSteerBench$Trace;)I"⟩
def RX2 : String := "SteerBench$Fraction"
def TX2 : u_T := fun k => match k with
  | 0 => ("SteerBench$Fraction", "above", "J", false)
  | _ => ("SteerBench$Fraction", "below", "J", false)
def tyX2 : Nat → FieldType := fun k => match k with
  | 0 => .long
  | _ => .long
abbrev wsX20 : List Cond := u_ws RX2 TX2 2
theorem nmX2 : ∀ a, a < 2 → ∀ b, b < 2 → a ≠ b → (TX2 a).2.1 ≠ (TX2 b).2.1 := by decide +kernel
theorem tyX2_ok : ∀ k, k < 2 → parseFieldDescriptor (TX2 k).2.2.1 = some (tyX2 k) := by decide +kernel
abbrev cX2_init : ByteArray := prog_4_method_1_code
def yX2_init : MethodName := ⟨RX2, "<init>", "()V"⟩
abbrev cX2_put : ByteArray := prog_4_method_2_code
def yX2_put : MethodName := ⟨RX2, "put", "(JJ)V"⟩
abbrev cX2_told : ByteArray := prog_4_method_3_code
def yX2_told : MethodName := ⟨RX2, "told", "(I)J"⟩
abbrev cX2_sharedDivisor : ByteArray := prog_4_method_4_code
def yX2_sharedDivisor : MethodName := ⟨RX2, "sharedDivisor", "(JJ)J"⟩
def RX3 : String := "SteerBench$Look"
def TX3 : u_T := fun k => match k with
  | 0 => ("SteerBench$Look", "machine", "LSteerBench$Steps;", false)
  | 1 => ("SteerBench$Look", "columns", "[[J", true)
  | 2 => ("SteerBench$Look", "rows", "[[J", true)
  | 3 => ("SteerBench$Look", "own", "[J", true)
  | 4 => ("SteerBench$Look", "some", "[[J", true)
  | 5 => ("SteerBench$Look", "scaled", "[J", true)
  | 6 => ("SteerBench$Look", "lower", "[J", true)
  | 7 => ("SteerBench$Look", "now", "[J", true)
  | _ => ("SteerBench$Look", "next", "[J", true)
def tyX3 : Nat → FieldType := fun k => match k with
  | 0 => .object "SteerBench$Steps"
  | 1 => .array (.array .long)
  | 2 => .array (.array .long)
  | 3 => .array .long
  | 4 => .array (.array .long)
  | 5 => .array .long
  | 6 => .array .long
  | 7 => .array .long
  | _ => .array .long
abbrev wsX30 : List Cond := u_ws RX3 TX3 9
theorem nmX3 : ∀ a, a < 9 → ∀ b, b < 9 → a ≠ b → (TX3 a).2.1 ≠ (TX3 b).2.1 := by decide +kernel
theorem tyX3_ok : ∀ k, k < 9 → parseFieldDescriptor (TX3 k).2.2.1 = some (tyX3 k) := by decide +kernel
abbrev cX3_init : ByteArray := prog_5_method_1_code
def yX3_init : MethodName := ⟨RX3, "<init>", "()V"⟩
abbrev cX3_at : ByteArray := prog_5_method_2_code
def yX3_at : MethodName := ⟨RX3, "at", "(LSteerBench$Steps;)V"⟩
abbrev cX3_columnInto : ByteArray := prog_5_method_3_code
def yX3_columnInto : MethodName := ⟨RX3, "columnInto", "([J[J)V"⟩
abbrev cX3_rowInto : ByteArray := prog_5_method_4_code
def yX3_rowInto : MethodName := ⟨RX3, "rowInto", "([J[J)V"⟩
abbrev cX3_fillOwn : ByteArray := prog_5_method_5_code
def yX3_fillOwn : MethodName := ⟨RX3, "fillOwn", "()V"⟩
abbrev cX3_putOwn : ByteArray := prog_5_method_6_code
def yX3_putOwn : MethodName := ⟨RX3, "putOwn", "(IJ)V"⟩
abbrev cX3_pairMinor : ByteArray := prog_5_method_7_code
def yX3_pairMinor : MethodName := ⟨RX3, "pairMinor", "(II)J"⟩
abbrev cX3_plainPulse : ByteArray := prog_5_method_8_code
def yX3_plainPulse : MethodName := ⟨RX3, "plainPulse", "(I)J"⟩
abbrev cX3_above : ByteArray := prog_5_method_9_code
def yX3_above : MethodName := ⟨RX3, "above", "(I)J"⟩
abbrev cX3_isSteady : ByteArray := prog_5_method_10_code
def yX3_isSteady : MethodName := ⟨RX3, "isSteady", "()Z"⟩
abbrev cX3_rootsAreLeftOfZero : ByteArray := prog_5_method_11_code
def yX3_rootsAreLeftOfZero : MethodName := ⟨RX3, "rootsAreLeftOfZero", "()Z"⟩
abbrev cX3_rootsAreWithinCircle : ByteArray := prog_5_method_12_code
def yX3_rootsAreWithinCircle : MethodName := ⟨RX3, "rootsAreWithinCircle", "()Z"⟩
abbrev cX3_reached : ByteArray := prog_5_method_13_code
def yX3_reached : MethodName := ⟨RX3, "reached", "()I"⟩
abbrev cX3_seen : ByteArray := prog_5_method_14_code
def yX3_seen : MethodName := ⟨RX3, "seen", "()I"⟩
abbrev cX3_least : ByteArray := prog_5_method_15_code
def yX3_least : MethodName := ⟨RX3, "least", "()I"⟩
abbrev cX3_pulseInto : ByteArray := prog_5_method_16_code
def yX3_pulseInto : MethodName := ⟨RX3, "pulseInto", "(LSteerBench$Fraction;I)V"⟩
abbrev cX3_outputInto : ByteArray := prog_5_method_17_code
def yX3_outputInto : MethodName := ⟨RX3, "outputInto", "(LSteerBench$Fraction;II)V"⟩
abbrev cX3_pulsesAreAlike : ByteArray := prog_5_method_18_code
def yX3_pulsesAreAlike : MethodName := ⟨RX3, "pulsesAreAlike", "(LSteerBench$Look;)Z"⟩
abbrev cX3_gainInto : ByteArray := prog_5_method_19_code
def yX3_gainInto : MethodName := ⟨RX3, "gainInto", "(LSteerBench$Fraction;IIII)V"⟩
abbrev cX3_leadInto : ByteArray := prog_5_method_20_code
def yX3_leadInto : MethodName := ⟨RX3, "leadInto", "([J)V"⟩
abbrev cX3_soonestRest : ByteArray := prog_5_method_21_code
def yX3_soonestRest : MethodName := ⟨RX3, "soonestRest", "(III)I"⟩
def RX4 : String := "SteerBench$Loop"
def TX4 : u_T := fun k => match k with
  | 0 => ("SteerBench$Steps", "number", "I", true)
  | 1 => ("SteerBench$Steps", "states", "I", true)
  | 2 => ("SteerBench$Steps", "unit", "I", true)
  | 3 => ("SteerBench$Steps", "a", "[I", true)
  | 4 => ("SteerBench$Steps", "b", "[I", true)
  | 5 => ("SteerBench$Steps", "c", "[I", true)
  | _ => ("SteerBench$Steps", "d", "[I", true)
def tyX4 : Nat → FieldType := fun k => match k with
  | 0 => .int
  | 1 => .int
  | 2 => .int
  | 3 => .array .int
  | 4 => .array .int
  | 5 => .array .int
  | _ => .array .int
abbrev wsX40 : List Cond := u_ws RX4 TX4 7
theorem nmX4 : ∀ a, a < 7 → ∀ b, b < 7 → a ≠ b → (TX4 a).2.1 ≠ (TX4 b).2.1 := by decide +kernel
theorem tyX4_ok : ∀ k, k < 7 → parseFieldDescriptor (TX4 k).2.2.1 = some (tyX4 k) := by decide +kernel
abbrev cX4_init : ByteArray := prog_6_method_1_code
def yX4_init : MethodName := ⟨RX4, "<init>", "(III)V"⟩
abbrev cX4_kind : ByteArray := prog_6_method_2_code
def yX4_kind : MethodName := ⟨RX4, "kind", "()I"⟩
abbrev cX4_leads : ByteArray := prog_6_method_3_code
def yX4_leads : MethodName := ⟨RX4, "leads", "(ILSteerBench$Trace;)I"⟩
abbrev cX4_shows : ByteArray := prog_6_method_4_code
def yX4_shows : MethodName := ⟨RX4, "shows", "(ILSteerBench$Trace;)I"⟩
def RX5 : String := "SteerBench$Minors"
def TX5 : u_T := fun k => match k with
  | _ => ("", "", "", false)
def tyX5 : Nat → FieldType := fun k => match k with
  | _ => .int
abbrev wsX50 : List Cond := u_ws RX5 TX5 0
theorem nmX5 : ∀ a, a < 0 → ∀ b, b < 0 → a ≠ b → (TX5 a).2.1 ≠ (TX5 b).2.1 := by decide +kernel
theorem tyX5_ok : ∀ k, k < 0 → parseFieldDescriptor (TX5 k).2.2.1 = some (tyX5 k) := by decide +kernel
abbrev cX5_whole : ByteArray := prog_7_method_2_code
def yX5_whole : MethodName := ⟨RX5, "whole", "([J[J[J)J"⟩
abbrev cX5_areFree : ByteArray := prog_7_method_3_code
def yX5_areFree : MethodName := ⟨RX5, "areFree", "([J[J)Z"⟩
abbrev cX5_isFree : ByteArray := prog_7_method_4_code
def yX5_isFree : MethodName := ⟨RX5, "isFree", "([J)Z"⟩
abbrev cX5_rank : ByteArray := prog_7_method_5_code
def yX5_rank : MethodName := ⟨RX5, "rank", "([[JI)I"⟩
def RX6 : String := "SteerBench$Part"
def TX6 : u_T := fun k => match k with
  | 0 => ("SteerBench$Steps", "number", "I", true)
  | 1 => ("SteerBench$Steps", "states", "I", true)
  | 2 => ("SteerBench$Steps", "unit", "I", true)
  | 3 => ("SteerBench$Steps", "a", "[I", true)
  | 4 => ("SteerBench$Steps", "b", "[I", true)
  | 5 => ("SteerBench$Steps", "c", "[I", true)
  | _ => ("SteerBench$Steps", "d", "[I", true)
def tyX6 : Nat → FieldType := fun k => match k with
  | 0 => .int
  | 1 => .int
  | 2 => .int
  | 3 => .array .int
  | 4 => .array .int
  | 5 => .array .int
  | _ => .array .int
abbrev wsX60 : List Cond := u_ws RX6 TX6 7
theorem nmX6 : ∀ a, a < 7 → ∀ b, b < 7 → a ≠ b → (TX6 a).2.1 ≠ (TX6 b).2.1 := by decide +kernel
theorem tyX6_ok : ∀ k, k < 7 → parseFieldDescriptor (TX6 k).2.2.1 = some (tyX6 k) := by decide +kernel
abbrev cX6_init : ByteArray := prog_8_method_1_code
def yX6_init : MethodName := ⟨RX6, "<init>", "(III)V"⟩
abbrev cX6_kind : ByteArray := prog_8_method_2_code
def yX6_kind : MethodName := ⟨RX6, "kind", "()I"⟩
abbrev cX6_goes : ByteArray := prog_8_method_3_code
def yX6_goes : MethodName := ⟨RX6, "goes", "(ILSteerBench$Trace;)I"⟩
abbrev cX6_shows : ByteArray := prog_8_method_4_code
def yX6_shows : MethodName := ⟨RX6, "shows", "(ILSteerBench$Trace;)I"⟩
def RX7 : String := "SteerBench$Sheet"
def TX7 : u_T := fun k => match k with
  | 0 => ("SteerBench$Sheet", "sort", "I", true)
  | _ => ("SteerBench$Sheet", "items", "[J", true)
def tyX7 : Nat → FieldType := fun k => match k with
  | 0 => .int
  | _ => .array .long
abbrev wsX70 : List Cond := u_ws RX7 TX7 2
theorem nmX7 : ∀ a, a < 2 → ∀ b, b < 2 → a ≠ b → (TX7 a).2.1 ≠ (TX7 b).2.1 := by decide +kernel
theorem tyX7_ok : ∀ k, k < 2 → parseFieldDescriptor (TX7 k).2.2.1 = some (tyX7 k) := by decide +kernel
abbrev cX7_init : ByteArray := prog_9_method_1_code
def yX7_init : MethodName := ⟨RX7, "<init>", "(II)V"⟩
abbrev cX7_has : ByteArray := prog_9_method_2_code
def yX7_has : MethodName := ⟨RX7, "has", "(II)Z"⟩
def RX8 : String := "SteerBench$Steps"
def TX8 : u_T := fun k => match k with
  | 0 => ("SteerBench$Steps", "number", "I", true)
  | 1 => ("SteerBench$Steps", "states", "I", true)
  | 2 => ("SteerBench$Steps", "unit", "I", true)
  | 3 => ("SteerBench$Steps", "a", "[I", true)
  | 4 => ("SteerBench$Steps", "b", "[I", true)
  | 5 => ("SteerBench$Steps", "c", "[I", true)
  | _ => ("SteerBench$Steps", "d", "[I", true)
def tyX8 : Nat → FieldType := fun k => match k with
  | 0 => .int
  | 1 => .int
  | 2 => .int
  | 3 => .array .int
  | 4 => .array .int
  | 5 => .array .int
  | _ => .array .int
abbrev wsX80 : List Cond := u_ws RX8 TX8 7
theorem nmX8 : ∀ a, a < 7 → ∀ b, b < 7 → a ≠ b → (TX8 a).2.1 ≠ (TX8 b).2.1 := by decide +kernel
theorem tyX8_ok : ∀ k, k < 7 → parseFieldDescriptor (TX8 k).2.2.1 = some (tyX8 k) := by decide +kernel
abbrev cX8_init : ByteArray := prog_10_method_1_code
def yX8_init : MethodName := ⟨RX8, "<init>", "(III)V"⟩
abbrev cX8_kind : ByteArray := prog_10_method_2_code
def yX8_kind : MethodName := ⟨RX8, "kind", "()I"⟩
abbrev cX8_numbersOf : ByteArray := prog_10_method_3_code
def yX8_numbersOf : MethodName := ⟨RX8, "numbersOf", "(I)[I"⟩
abbrev cX8_goes : ByteArray := prog_10_method_4_code
def yX8_goes : MethodName := ⟨RX8, "goes", "(ILSteerBench$Trace;)I"⟩
abbrev cX8_leads : ByteArray := prog_10_method_5_code
def yX8_leads : MethodName := ⟨RX8, "leads", "(ILSteerBench$Trace;)I"⟩
abbrev cX8_shows : ByteArray := prog_10_method_6_code
def yX8_shows : MethodName := ⟨RX8, "shows", "(ILSteerBench$Trace;)I"⟩
def RX9 : String := "SteerBench$Trace"
def TX9 : u_T := fun k => match k with
  | 0 => ("SteerBench$Trace", "kept", "[I", true)
  | _ => ("SteerBench$Trace", "ran", "I", false)
def tyX9 : Nat → FieldType := fun k => match k with
  | 0 => .array .int
  | _ => .int
abbrev wsX90 : List Cond := u_ws RX9 TX9 2
theorem nmX9 : ∀ a, a < 2 → ∀ b, b < 2 → a ≠ b → (TX9 a).2.1 ≠ (TX9 b).2.1 := by decide +kernel
theorem tyX9_ok : ∀ k, k < 2 → parseFieldDescriptor (TX9 k).2.2.1 = some (tyX9 k) := by decide +kernel
abbrev cX9_init : ByteArray := prog_11_method_1_code
def yX9_init : MethodName := ⟨RX9, "<init>", "()V"⟩
def RX10 : String := "SteerBench"
def TX10 : u_T := fun k => match k with
  | 0 => ("SteerBench", "machines", "[LSteerBench$Steps;", true)
  | 1 => ("SteerBench", "machineCount", "I", false)
  | 2 => ("SteerBench", "rows", "[J", true)
  | 3 => ("SteerBench", "dueRows", "[J", true)
  | 4 => ("SteerBench", "rowCount", "I", false)
  | 5 => ("SteerBench", "latest", "LSteerBench$Trace;", true)
  | 6 => ("SteerBench", "sheets", "[LSteerBench$Sheet;", true)
  | 7 => ("SteerBench", "look", "LSteerBench$Look;", true)
  | 8 => ("SteerBench", "otherLook", "LSteerBench$Look;", true)
  | 9 => ("SteerBench", "energies", "LSteerBench$Energy;", true)
  | _ => ("SteerBench", "answer", "LSteerBench$Fraction;", true)
def tyX10 : Nat → FieldType := fun k => match k with
  | 0 => .array (.object "SteerBench$Steps")
  | 1 => .int
  | 2 => .array .long
  | 3 => .array .long
  | 4 => .int
  | 5 => .object "SteerBench$Trace"
  | 6 => .array (.object "SteerBench$Sheet")
  | 7 => .object "SteerBench$Look"
  | 8 => .object "SteerBench$Look"
  | 9 => .object "SteerBench$Energy"
  | _ => .object "SteerBench$Fraction"
abbrev wsX100 : List Cond := u_ws RX10 TX10 11
theorem nmX10 : ∀ a, a < 11 → ∀ b, b < 11 → a ≠ b → (TX10 a).2.1 ≠ (TX10 b).2.1 := by decide +kernel
theorem tyX10_ok : ∀ k, k < 11 → parseFieldDescriptor (TX10 k).2.2.1 = some (tyX10 k) := by decide +kernel
abbrev cX10_init : ByteArray := prog_1_method_1_code
def yX10_init : MethodName := ⟨RX10, "<init>", "()V"⟩
abbrev cX10_machine : ByteArray := prog_1_method_2_code
def yX10_machine : MethodName := ⟨RX10, "machine", "(III)I"⟩
abbrev cX10_set : ByteArray := prog_1_method_3_code
def yX10_set : MethodName := ⟨RX10, "set", "(IIIII)I"⟩
abbrev cX10_series : ByteArray := prog_1_method_4_code
def yX10_series : MethodName := ⟨RX10, "series", "(II)I"⟩
abbrev cX10_side : ByteArray := prog_1_method_5_code
def yX10_side : MethodName := ⟨RX10, "side", "(II)I"⟩
abbrev cX10_back : ByteArray := prog_1_method_6_code
def yX10_back : MethodName := ⟨RX10, "back", "(II)I"⟩
abbrev cX10_part : ByteArray := prog_1_method_7_code
def yX10_part : MethodName := ⟨RX10, "part", "(II)I"⟩
abbrev cX10_drop : ByteArray := prog_1_method_8_code
def yX10_drop : MethodName := ⟨RX10, "drop", "()I"⟩
abbrev cX10_machineTold : ByteArray := prog_1_method_9_code
def yX10_machineTold : MethodName := ⟨RX10, "machineTold", "(II)I"⟩
abbrev cX10_table : ByteArray := prog_1_method_10_code
def yX10_table : MethodName := ⟨RX10, "table", "(IIII)I"⟩
abbrev cX10_own : ByteArray := prog_1_method_11_code
def yX10_own : MethodName := ⟨RX10, "own", "(III)J"⟩
abbrev cX10_pulse : ByteArray := prog_1_method_12_code
def yX10_pulse : MethodName := ⟨RX10, "pulse", "(III)J"⟩
abbrev cX10_run : ByteArray := prog_1_method_13_code
def yX10_run : MethodName := ⟨RX10, "run", "(IIII)J"⟩
abbrev cX10_like : ByteArray := prog_1_method_14_code
def yX10_like : MethodName := ⟨RX10, "like", "(II)I"⟩
abbrev cX10_gain : ByteArray := prog_1_method_15_code
def yX10_gain : MethodName := ⟨RX10, "gain", "(IIIIII)J"⟩
abbrev cX10_soonest : ByteArray := prog_1_method_16_code
def yX10_soonest : MethodName := ⟨RX10, "soonest", "(IIII)I"⟩
abbrev cX10_energy : ByteArray := prog_1_method_17_code
def yX10_energy : MethodName := ⟨RX10, "energy", "(IIII)J"⟩
abbrev cX10_write : ByteArray := prog_1_method_18_code
def yX10_write : MethodName := ⟨RX10, "write", "(I)I"⟩
abbrev cX10_row : ByteArray := prog_1_method_19_code
def yX10_row : MethodName := ⟨RX10, "row", "(I)J"⟩
abbrev cX10_forge : ByteArray := prog_1_method_20_code
def yX10_forge : MethodName := ⟨RX10, "forge", "(IJ)I"⟩
abbrev cX10_check : ByteArray := prog_1_method_21_code
def yX10_check : MethodName := ⟨RX10, "check", "(I)I"⟩
abbrev cX10_act : ByteArray := prog_1_method_22_code
def yX10_act : MethodName := ⟨RX10, "act", "(III)I"⟩
abbrev cX10_trace : ByteArray := prog_1_method_23_code
def yX10_trace : MethodName := ⟨RX10, "trace", "(I)I"⟩
abbrev cX10_count : ByteArray := prog_1_method_24_code
def yX10_count : MethodName := ⟨RX10, "count", "(I)I"⟩
abbrev cX10_sheet : ByteArray := prog_1_method_25_code
def yX10_sheet : MethodName := ⟨RX10, "sheet", "(III)I"⟩
abbrev cX10_cell : ByteArray := prog_1_method_26_code
def yX10_cell : MethodName := ⟨RX10, "cell", "(III)I"⟩
abbrev cX10_lay : ByteArray := prog_1_method_27_code
def yX10_lay : MethodName := ⟨RX10, "lay", "(IIII)I"⟩
abbrev cX10_copy : ByteArray := prog_1_method_28_code
def yX10_copy : MethodName := ⟨RX10, "copy", "(IIIII)I"⟩
abbrev cX10_taken : ByteArray := prog_1_method_29_code
def yX10_taken : MethodName := ⟨RX10, "taken", "(II)I"⟩
abbrev cX10_isWithin : ByteArray := prog_1_method_30_code
def yX10_isWithin : MethodName := ⟨RX10, "isWithin", "(III)Z"⟩
abbrev cX10_areWithin : ByteArray := prog_1_method_31_code
def yX10_areWithin : MethodName := ⟨RX10, "areWithin", "(IIIII)Z"⟩
abbrev cX10_power : ByteArray := prog_1_method_32_code
def yX10_power : MethodName := ⟨RX10, "power", "(II)J"⟩
abbrev cX10_isSheet : ByteArray := prog_1_method_33_code
def yX10_isSheet : MethodName := ⟨RX10, "isSheet", "(I)Z"⟩
abbrev cX10_isFull : ByteArray := prog_1_method_34_code
def yX10_isFull : MethodName := ⟨RX10, "isFull", "()Z"⟩
abbrev cX10_machineAt : ByteArray := prog_1_method_35_code
def yX10_machineAt : MethodName := ⟨RX10, "machineAt", "(I)LSteerBench$Steps;"⟩
abbrev cX10_isOfKind : ByteArray := prog_1_method_36_code
def yX10_isOfKind : MethodName := ⟨RX10, "isOfKind", "(LSteerBench$Steps;I)Z"⟩
abbrev cX10_placeIn : ByteArray := prog_1_method_37_code
def yX10_placeIn : MethodName := ⟨RX10, "placeIn", "(LSteerBench$Steps;III)I"⟩
abbrev cX10_kept : ByteArray := prog_1_method_38_code
def yX10_kept : MethodName := ⟨RX10, "kept", "(LSteerBench$Steps;)I"⟩
abbrev cX10_keptIfSmall : ByteArray := prog_1_method_39_code
def yX10_keptIfSmall : MethodName := ⟨RX10, "keptIfSmall", "(LSteerBench$Loop;)I"⟩
abbrev cX10_joined : ByteArray := prog_1_method_40_code
def yX10_joined : MethodName := ⟨RX10, "joined", "(IIZ)I"⟩
abbrev cX10_putBlock : ByteArray := prog_1_method_41_code
def yX10_putBlock : MethodName := ⟨RX10, "putBlock", "(LSteerBench$Loop;ILSteerBench$Steps;II)V"⟩
abbrev cX10_putCrossing : ByteArray := prog_1_method_42_code
def yX10_putCrossing : MethodName := ⟨RX10, "putCrossing", "(LSteerBench$Loop;LSteerBench$Steps;LSteerBench$Steps;)V"⟩
abbrev cX10_fillRow : ByteArray := prog_1_method_43_code
def yX10_fillRow : MethodName := ⟨RX10, "fillRow", "(LSteerBench$Part;ILSteerBench$Steps;II)V"⟩
abbrev cX10_proofInto : ByteArray := prog_1_method_44_code
def yX10_proofInto : MethodName := ⟨RX10, "proofInto", "([JLSteerBench$Steps;)I"⟩
def RX11 : String := "SteerBenchModel"
def TX11 : u_T := fun k => match k with
  | 0 => ("SteerBenchModel", "machines", "I", false)
  | 1 => ("SteerBenchModel", "kind", "[I", true)
  | 2 => ("SteerBenchModel", "n", "[I", true)
  | 3 => ("SteerBenchModel", "unit", "[I", true)
  | 4 => ("SteerBenchModel", "d", "[I", true)
  | 5 => ("SteerBenchModel", "a", "[I", true)
  | 6 => ("SteerBenchModel", "b", "[I", true)
  | 7 => ("SteerBenchModel", "c", "[I", true)
  | 8 => ("SteerBenchModel", "na", "[I", true)
  | 9 => ("SteerBenchModel", "nb", "[I", true)
  | 10 => ("SteerBenchModel", "nc", "[I", true)
  | 11 => ("SteerBenchModel", "rows", "[J", true)
  | 12 => ("SteerBenchModel", "fresh", "[J", true)
  | 13 => ("SteerBenchModel", "rowN", "I", false)
  | 14 => ("SteerBenchModel", "freshN", "I", false)
  | 15 => ("SteerBenchModel", "sheetSort", "[I", true)
  | 16 => ("SteerBenchModel", "sheetSize", "[I", true)
  | 17 => ("SteerBenchModel", "cells", "[J", true)
  | 18 => ("SteerBenchModel", "moved", "[J", true)
  | 19 => ("SteerBenchModel", "traced", "[I", true)
  | 20 => ("SteerBenchModel", "bodies", "I", false)
  | 21 => ("SteerBenchModel", "own", "[J", true)
  | 22 => ("SteerBenchModel", "poly", "[J", true)
  | 23 => ("SteerBenchModel", "peel", "[J", true)
  | 24 => ("SteerBenchModel", "mat", "[J", true)
  | 25 => ("SteerBenchModel", "sub", "[J", true)
  | 26 => ("SteerBenchModel", "vec", "[J", true)
  | 27 => ("SteerBenchModel", "oth", "[J", true)
  | 28 => ("SteerBenchModel", "above", "J", false)
  | _ => ("SteerBenchModel", "below", "J", false)
def tyX11 : Nat → FieldType := fun k => match k with
  | 0 => .int
  | 1 => .array .int
  | 2 => .array .int
  | 3 => .array .int
  | 4 => .array .int
  | 5 => .array .int
  | 6 => .array .int
  | 7 => .array .int
  | 8 => .array .int
  | 9 => .array .int
  | 10 => .array .int
  | 11 => .array .long
  | 12 => .array .long
  | 13 => .int
  | 14 => .int
  | 15 => .array .int
  | 16 => .array .int
  | 17 => .array .long
  | 18 => .array .long
  | 19 => .array .int
  | 20 => .int
  | 21 => .array .long
  | 22 => .array .long
  | 23 => .array .long
  | 24 => .array .long
  | 25 => .array .long
  | 26 => .array .long
  | 27 => .array .long
  | 28 => .long
  | _ => .long
abbrev wsX110 : List Cond := u_ws RX11 TX11 30
theorem nmX11 : ∀ a, a < 30 → ∀ b, b < 30 → a ≠ b → (TX11 a).2.1 ≠ (TX11 b).2.1 := by decide +kernel
theorem tyX11_ok : ∀ k, k < 30 → parseFieldDescriptor (TX11 k).2.2.1 = some (tyX11 k) := by decide +kernel
abbrev cX11_init : ByteArray := prog_13_method_1_code
def yX11_init : MethodName := ⟨RX11, "<init>", "()V"⟩
abbrev cX11_is : ByteArray := prog_13_method_2_code
def yX11_is : MethodName := ⟨RX11, "is", "(I)Z"⟩
abbrev cX11_at : ByteArray := prog_13_method_3_code
def yX11_at : MethodName := ⟨RX11, "at", "(III)I"⟩
abbrev cX11_common : ByteArray := prog_13_method_4_code
def yX11_common : MethodName := ⟨RX11, "common", "(JJ)J"⟩
abbrev cX11_lowest : ByteArray := prog_13_method_5_code
def yX11_lowest : MethodName := ⟨RX11, "lowest", "(JJ)V"⟩
abbrev cX11_told : ByteArray := prog_13_method_6_code
def yX11_told : MethodName := ⟨RX11, "told", "(I)J"⟩
abbrev cX11_makes : ByteArray := prog_13_method_7_code
def yX11_makes : MethodName := ⟨RX11, "makes", "(III)I"⟩
abbrev cX11_machine : ByteArray := prog_13_method_8_code
def yX11_machine : MethodName := ⟨RX11, "machine", "(III)I"⟩
abbrev cX11_isPlace : ByteArray := prog_13_method_9_code
def yX11_isPlace : MethodName := ⟨RX11, "isPlace", "(IIII)Z"⟩
abbrev cX11_number : ByteArray := prog_13_method_10_code
def yX11_number : MethodName := ⟨RX11, "number", "(IIII)I"⟩
abbrev cX11_set : ByteArray := prog_13_method_11_code
def yX11_set : MethodName := ⟨RX11, "set", "(IIIII)I"⟩
abbrev cX11_table : ByteArray := prog_13_method_12_code
def yX11_table : MethodName := ⟨RX11, "table", "(IIII)I"⟩
abbrev cX11_fits : ByteArray := prog_13_method_13_code
def yX11_fits : MethodName := ⟨RX11, "fits", "(I)Z"⟩
abbrev cX11_keeps : ByteArray := prog_13_method_14_code
def yX11_keeps : MethodName := ⟨RX11, "keeps", "(IIII)I"⟩
abbrev cX11_joins : ByteArray := prog_13_method_15_code
def yX11_joins : MethodName := ⟨RX11, "joins", "(IIZ)I"⟩
abbrev cX11_series : ByteArray := prog_13_method_16_code
def yX11_series : MethodName := ⟨RX11, "series", "(II)I"⟩
abbrev cX11_side : ByteArray := prog_13_method_17_code
def yX11_side : MethodName := ⟨RX11, "side", "(II)I"⟩
abbrev cX11_back : ByteArray := prog_13_method_18_code
def yX11_back : MethodName := ⟨RX11, "back", "(II)I"⟩
abbrev cX11_part : ByteArray := prog_13_method_19_code
def yX11_part : MethodName := ⟨RX11, "part", "(II)I"⟩
abbrev cX11_drop : ByteArray := prog_13_method_20_code
def yX11_drop : MethodName := ⟨RX11, "drop", "()I"⟩
abbrev cX11_beat : ByteArray := prog_13_method_21_code
def yX11_beat : MethodName := ⟨RX11, "beat", "(II)J"⟩
abbrev cX11_turnsOn : ByteArray := prog_13_method_22_code
def yX11_turnsOn : MethodName := ⟨RX11, "turnsOn", "(I)V"⟩
abbrev cX11_minor : ByteArray := prog_13_method_23_code
def yX11_minor : MethodName := ⟨RX11, "minor", "(III)J"⟩
abbrev cX11_owns : ByteArray := prog_13_method_24_code
def yX11_owns : MethodName := ⟨RX11, "owns", "(I)V"⟩
abbrev cX11_isWithin : ByteArray := prog_13_method_25_code
def yX11_isWithin : MethodName := ⟨RX11, "isWithin", "(I)Z"⟩
abbrev cX11_isSteady : ByteArray := prog_13_method_26_code
def yX11_isSteady : MethodName := ⟨RX11, "isSteady", "(I)Z"⟩
abbrev cX11_rank : ByteArray := prog_13_method_27_code
def yX11_rank : MethodName := ⟨RX11, "rank", "(I)I"⟩
abbrev cX11_reaches : ByteArray := prog_13_method_28_code
def yX11_reaches : MethodName := ⟨RX11, "reaches", "(II)V"⟩
abbrev cX11_reached : ByteArray := prog_13_method_29_code
def yX11_reached : MethodName := ⟨RX11, "reached", "(I)I"⟩
abbrev cX11_seen : ByteArray := prog_13_method_30_code
def yX11_seen : MethodName := ⟨RX11, "seen", "(I)I"⟩
abbrev cX11_least : ByteArray := prog_13_method_31_code
def yX11_least : MethodName := ⟨RX11, "least", "(I)I"⟩
abbrev cX11_machineTold : ByteArray := prog_13_method_32_code
def yX11_machineTold : MethodName := ⟨RX11, "machineTold", "(II)I"⟩
abbrev cX11_own : ByteArray := prog_13_method_33_code
def yX11_own : MethodName := ⟨RX11, "own", "(III)J"⟩
abbrev cX11_power : ByteArray := prog_13_method_34_code
def yX11_power : MethodName := ⟨RX11, "power", "(JI)J"⟩
abbrev cX11_pulse : ByteArray := prog_13_method_35_code
def yX11_pulse : MethodName := ⟨RX11, "pulse", "(III)J"⟩
abbrev cX11_run : ByteArray := prog_13_method_36_code
def yX11_run : MethodName := ⟨RX11, "run", "(IIII)J"⟩
abbrev cX11_like : ByteArray := prog_13_method_37_code
def yX11_like : MethodName := ⟨RX11, "like", "(II)I"⟩
abbrev cX11_worth : ByteArray := prog_13_method_38_code
def yX11_worth : MethodName := ⟨RX11, "worth", "(II)J"⟩
abbrev cX11_gain : ByteArray := prog_13_method_39_code
def yX11_gain : MethodName := ⟨RX11, "gain", "(IIIIII)J"⟩
abbrev cX11_soonest : ByteArray := prog_13_method_40_code
def yX11_soonest : MethodName := ⟨RX11, "soonest", "(IIII)I"⟩
abbrev cX11_lays : ByteArray := prog_13_method_41_code
def yX11_lays : MethodName := ⟨RX11, "lays", "(I)I"⟩
abbrev cX11_hasEnergy : ByteArray := prog_13_method_42_code
def yX11_hasEnergy : MethodName := ⟨RX11, "hasEnergy", "(I)Z"⟩
abbrev cX11_energy : ByteArray := prog_13_method_43_code
def yX11_energy : MethodName := ⟨RX11, "energy", "(IIII)J"⟩
abbrev cX11_writes : ByteArray := prog_13_method_44_code
def yX11_writes : MethodName := ⟨RX11, "writes", "(I)V"⟩
abbrev cX11_write : ByteArray := prog_13_method_45_code
def yX11_write : MethodName := ⟨RX11, "write", "(I)I"⟩
abbrev cX11_row : ByteArray := prog_13_method_46_code
def yX11_row : MethodName := ⟨RX11, "row", "(I)J"⟩
abbrev cX11_forge : ByteArray := prog_13_method_47_code
def yX11_forge : MethodName := ⟨RX11, "forge", "(IJ)I"⟩
abbrev cX11_check : ByteArray := prog_13_method_48_code
def yX11_check : MethodName := ⟨RX11, "check", "(I)I"⟩
abbrev cX11_ran : ByteArray := prog_13_method_49_code
def yX11_ran : MethodName := ⟨RX11, "ran", "(I)V"⟩
abbrev cX11_goesSteps : ByteArray := prog_13_method_50_code
def yX11_goesSteps : MethodName := ⟨RX11, "goesSteps", "(II)I"⟩
abbrev cX11_goes : ByteArray := prog_13_method_51_code
def yX11_goes : MethodName := ⟨RX11, "goes", "(II)I"⟩
abbrev cX11_leadsSteps : ByteArray := prog_13_method_52_code
def yX11_leadsSteps : MethodName := ⟨RX11, "leadsSteps", "(II)I"⟩
abbrev cX11_leads : ByteArray := prog_13_method_53_code
def yX11_leads : MethodName := ⟨RX11, "leads", "(II)I"⟩
abbrev cX11_showsSteps : ByteArray := prog_13_method_54_code
def yX11_showsSteps : MethodName := ⟨RX11, "showsSteps", "(II)I"⟩
abbrev cX11_showsLoop : ByteArray := prog_13_method_55_code
def yX11_showsLoop : MethodName := ⟨RX11, "showsLoop", "(II)I"⟩
abbrev cX11_shows : ByteArray := prog_13_method_56_code
def yX11_shows : MethodName := ⟨RX11, "shows", "(II)I"⟩
abbrev cX11_act : ByteArray := prog_13_method_57_code
def yX11_act : MethodName := ⟨RX11, "act", "(III)I"⟩
abbrev cX11_trace : ByteArray := prog_13_method_58_code
def yX11_trace : MethodName := ⟨RX11, "trace", "(I)I"⟩
abbrev cX11_count : ByteArray := prog_13_method_59_code
def yX11_count : MethodName := ⟨RX11, "count", "(I)I"⟩
abbrev cX11_isSheet : ByteArray := prog_13_method_60_code
def yX11_isSheet : MethodName := ⟨RX11, "isSheet", "(I)Z"⟩
abbrev cX11_sheet : ByteArray := prog_13_method_61_code
def yX11_sheet : MethodName := ⟨RX11, "sheet", "(III)I"⟩
abbrev cX11_cell : ByteArray := prog_13_method_62_code
def yX11_cell : MethodName := ⟨RX11, "cell", "(III)I"⟩
abbrev cX11_lay : ByteArray := prog_13_method_63_code
def yX11_lay : MethodName := ⟨RX11, "lay", "(IIII)I"⟩
abbrev cX11_copy : ByteArray := prog_13_method_64_code
def yX11_copy : MethodName := ⟨RX11, "copy", "(IIIII)I"⟩
abbrev cX11_taken : ByteArray := prog_13_method_65_code
def yX11_taken : MethodName := ⟨RX11, "taken", "(II)I"⟩
def RJ6 : String := "java/lang/Integer"
def TJ6 : u_T := fun k => match k with
  | _ => ("", "", "", false)
def tyJ6 : Nat → FieldType := fun k => match k with
  | _ => .int
abbrev wsJ60 : List Cond := u_ws RJ6 TJ6 0
theorem nmJ6 : ∀ a, a < 0 → ∀ b, b < 0 → a ≠ b → (TJ6 a).2.1 ≠ (TJ6 b).2.1 := by decide +kernel
theorem tyJ6_ok : ∀ k, k < 0 → parseFieldDescriptor (TJ6 k).2.2.1 = some (tyJ6 k) := by decide +kernel
abbrev cJ6_bitCount_0f7a4 : ByteArray := prog_14_method_49_code
def yJ6_bitCount_0f7a4 : MethodName := ⟨RJ6, "bitCount", "(I)I"⟩
def RJ9 : String := "java/lang/Math"
def TJ9 : u_T := fun k => match k with
  | _ => ("", "", "", false)
def tyJ9 : Nat → FieldType := fun k => match k with
  | _ => .int
abbrev wsJ90 : List Cond := u_ws RJ9 TJ9 0
theorem nmJ9 : ∀ a, a < 0 → ∀ b, b < 0 → a ≠ b → (TJ9 a).2.1 ≠ (TJ9 b).2.1 := by decide +kernel
theorem tyJ9_ok : ∀ k, k < 0 → parseFieldDescriptor (TJ9 k).2.2.1 = some (tyJ9 k) := by decide +kernel
abbrev cJ9_abs_067f4 : ByteArray := prog_15_method_61_code
def yJ9_abs_067f4 : MethodName := ⟨RJ9, "abs", "(J)J"⟩
abbrev cJ9_max_7cf53 : ByteArray := prog_15_method_65_code
def yJ9_max_7cf53 : MethodName := ⟨RJ9, "max", "(II)I"⟩
abbrev cJ9_min_7cf53 : ByteArray := prog_15_method_69_code
def yJ9_min_7cf53 : MethodName := ⟨RJ9, "min", "(II)I"⟩
def RJ10 : String := "java/lang/System"
def TJ10 : u_T := fun k => match k with
  | _ => ("", "", "", false)
def tyJ10 : Nat → FieldType := fun k => match k with
  | _ => .int
abbrev wsJ100 : List Cond := u_ws RJ10 TJ10 0
theorem nmJ10 : ∀ a, a < 0 → ∀ b, b < 0 → a ≠ b → (TJ10 a).2.1 ≠ (TJ10 b).2.1 := by decide +kernel
theorem tyJ10_ok : ∀ k, k < 0 → parseFieldDescriptor (TJ10 k).2.2.1 = some (tyJ10 k) := by decide +kernel
def RL : String := "SteerBenchLaw"
abbrev cL_law : ByteArray := code
def yL_law : MethodName := ⟨RL, "law", "([I)Z"⟩
abbrev vwCl : List vw_C := [(RX0, TX0, 6), (RX1, TX1, 7), (RX2, TX2, 2), (RX3, TX3, 9), (RX4, TX4, 7), (RX6, TX6, 7), (RX7, TX7, 2), (RX8, TX8, 7), (RX9, TX9, 2), (RX10, TX10, 11), (RX11, TX11, 30)]
end
section
/-! the tables of the program: methods, fields, classes, constants, calls -/
def mdf : Nat × MethodName × ByteArray × Nat × Option FieldType × Nat × Nat := (99, ⟨"", "", ""⟩, ⟨#[]⟩, 0, none, 0, 0)
def mtab_0 : List (Nat × MethodName × ByteArray × Nat × Option FieldType × Nat × Nat) := [(0, yX0_init, cX0_init, 1, none, 1, 20), (0, yX0_at, cX0_at, 3, none, 2, 57), (0, yX0_fillTicks, cX0_fillTicks, 11, none, 1, 27), (0, yX0_fillFlow, cX0_fillFlow, 11, none, 1, 27), (0, yX0_fill, cX0_fill, 8, none, 0, 0), (0, yX0_fillSides, cX0_fillSides, 3, none, 0, 0), (0, yX0_leaveOut, cX0_leaveOut, 2, none, 1, 27), (0, yX0_numberInto, cX0_numberInto, 3, none, 3, 79), (0, yX0_isAboveZero, cX0_isAboveZero, 1, (some .boolean), 0, 0), (1, yX1_init, cX1_init, 4, none, 2, 43), (1, yX1_kind, cX1_kind, 1, (some .int), 0, 0), (1, yX1_goes, cX1_goes, 3, (some .int), 1, 22), (2, yX2_init, cX2_init, 1, none, 1, 20), (2, yX2_put, cX2_put, 9, none, 2, 51), (2, yX2_told, cX2_told, 2, (some .long), 0, 0), (2, yX2_sharedDivisor, cX2_sharedDivisor, 11, (some .long), 1, 21), (3, yX3_init, cX3_init, 1, none, 2, 43), (3, yX3_at, cX3_at, 3, none, 2, 45), (3, yX3_columnInto, cX3_columnInto, 7, none, 0, 0), (3, yX3_rowInto, cX3_rowInto, 7, none, 0, 0), (3, yX3_fillOwn, cX3_fillOwn, 3, none, 1, 23), (3, yX3_putOwn, cX3_putOwn, 4, none, 0, 0), (3, yX3_pairMinor, cX3_pairMinor, 3, (some .long), 0, 0), (3, yX3_plainPulse, cX3_plainPulse, 5, (some .long), 0, 0), (3, yX3_above, cX3_above, 5, (some .long), 1, 24), (3, yX3_isSteady, cX3_isSteady, 1, (some .boolean), 2, 74), (3, yX3_rootsAreLeftOfZero, cX3_rootsAreLeftOfZero, 2, (some .boolean), 0, 0), (3, yX3_rootsAreWithinCircle, cX3_rootsAreWithinCircle, 7, (some .boolean), 1, 48), (3, yX3_reached, cX3_reached, 1, (some .int), 2, 47), (3, yX3_seen, cX3_seen, 1, (some .int), 2, 47)]
def mtab_1 : List (Nat × MethodName × ByteArray × Nat × Option FieldType × Nat × Nat) := [(3, yX3_least, cX3_least, 3, (some .int), 2, 47), (3, yX3_pulseInto, cX3_pulseInto, 3, none, 3, 79), (3, yX3_outputInto, cX3_outputInto, 9, none, 3, 79), (3, yX3_pulsesAreAlike, cX3_pulsesAreAlike, 7, (some .boolean), 1, 24), (3, yX3_gainInto, cX3_gainInto, 12, none, 3, 79), (3, yX3_leadInto, cX3_leadInto, 6, none, 0, 0), (3, yX3_soonestRest, cX3_soonestRest, 5, (some .int), 2, 48), (4, yX4_init, cX4_init, 4, none, 2, 43), (4, yX4_kind, cX4_kind, 1, (some .int), 0, 0), (4, yX4_leads, cX4_leads, 3, (some .int), 3, 66), (4, yX4_shows, cX4_shows, 3, (some .int), 5, 110), (5, yX5_whole, cX5_whole, 3, (some .long), 0, 0), (5, yX5_areFree, cX5_areFree, 2, (some .boolean), 0, 0), (5, yX5_isFree, cX5_isFree, 1, (some .boolean), 0, 0), (5, yX5_rank, cX5_rank, 6, (some .int), 1, 22), (6, yX6_init, cX6_init, 4, none, 3, 66), (6, yX6_kind, cX6_kind, 1, (some .int), 0, 0), (6, yX6_goes, cX6_goes, 3, (some .int), 0, 0), (6, yX6_shows, cX6_shows, 3, (some .int), 6, 132), (7, yX7_init, cX7_init, 3, none, 1, 21), (7, yX7_has, cX7_has, 3, (some .boolean), 0, 0), (8, yX8_init, cX8_init, 4, none, 1, 20), (8, yX8_kind, cX8_kind, 1, (some .int), 0, 0), (8, yX8_numbersOf, cX8_numbersOf, 2, (some (.array .int)), 0, 0), (8, yX8_goes, cX8_goes, 3, (some .int), 0, 0), (8, yX8_leads, cX8_leads, 3, (some .int), 2, 44), (8, yX8_shows, cX8_shows, 3, (some .int), 4, 88), (9, yX9_init, cX9_init, 1, none, 1, 20), (10, yX10_init, cX10_init, 1, none, 3, 63), (10, yX10_machine, cX10_machine, 5, (some .int), 3, 66)]
def mtab_2 : List (Nat × MethodName × ByteArray × Nat × Option FieldType × Nat × Nat) := [(10, yX10_set, cX10_set, 10, (some .int), 2, 45), (10, yX10_series, cX10_series, 3, (some .int), 4, 94), (10, yX10_side, cX10_side, 3, (some .int), 4, 94), (10, yX10_back, cX10_back, 8, (some .int), 3, 67), (10, yX10_part, cX10_part, 7, (some .int), 4, 89), (10, yX10_drop, cX10_drop, 1, (some .int), 0, 0), (10, yX10_machineTold, cX10_machineTold, 4, (some .int), 3, 94), (10, yX10_table, cX10_table, 7, (some .int), 2, 45), (10, yX10_own, cX10_own, 5, (some .long), 3, 67), (10, yX10_pulse, cX10_pulse, 5, (some .long), 4, 101), (10, yX10_run, cX10_run, 6, (some .long), 4, 107), (10, yX10_like, cX10_like, 5, (some .int), 3, 67), (10, yX10_gain, cX10_gain, 8, (some .long), 4, 110), (10, yX10_soonest, cX10_soonest, 6, (some .int), 3, 72), (10, yX10_energy, cX10_energy, 6, (some .long), 4, 101), (10, yX10_write, cX10_write, 3, (some .int), 5, 127), (10, yX10_row, cX10_row, 2, (some .long), 1, 22), (10, yX10_forge, cX10_forge, 4, (some .int), 1, 22), (10, yX10_check, cX10_check, 6, (some .int), 5, 127), (10, yX10_act, cX10_act, 5, (some .int), 7, 154), (10, yX10_trace, cX10_trace, 2, (some .int), 1, 22), (10, yX10_count, cX10_count, 2, (some .int), 0, 0), (10, yX10_sheet, cX10_sheet, 4, (some .int), 2, 43), (10, yX10_cell, cX10_cell, 5, (some .int), 2, 42), (10, yX10_lay, cX10_lay, 9, (some .int), 2, 43), (10, yX10_copy, cX10_copy, 8, (some .int), 2, 48), (10, yX10_taken, cX10_taken, 4, (some .int), 2, 43), (10, yX10_isWithin, cX10_isWithin, 3, (some .boolean), 0, 0), (10, yX10_areWithin, cX10_areWithin, 5, (some .boolean), 1, 22), (10, yX10_power, cX10_power, 5, (some .long), 0, 0)]
def mtab_3 : List (Nat × MethodName × ByteArray × Nat × Option FieldType × Nat × Nat) := [(10, yX10_isSheet, cX10_isSheet, 1, (some .boolean), 1, 22), (10, yX10_isFull, cX10_isFull, 1, (some .boolean), 0, 0), (10, yX10_machineAt, cX10_machineAt, 2, (some (.object "SteerBench$Steps")), 1, 22), (10, yX10_isOfKind, cX10_isOfKind, 2, (some .boolean), 0, 0), (10, yX10_placeIn, cX10_placeIn, 4, (some .int), 1, 22), (10, yX10_kept, cX10_kept, 2, (some .int), 1, 20), (10, yX10_keptIfSmall, cX10_keptIfSmall, 7, (some .int), 2, 41), (10, yX10_joined, cX10_joined, 8, (some .int), 3, 67), (10, yX10_putBlock, cX10_putBlock, 8, none, 1, 21), (10, yX10_putCrossing, cX10_putCrossing, 5, none, 0, 0), (10, yX10_fillRow, cX10_fillRow, 7, none, 0, 0), (10, yX10_proofInto, cX10_proofInto, 7, (some .int), 4, 101), (11, yX11_init, cX11_init, 2, none, 1, 20), (11, yX11_is, cX11_is, 2, (some .boolean), 0, 0), (11, yX11_at, cX11_at, 4, (some .int), 0, 0), (11, yX11_common, cX11_common, 10, (some .long), 0, 0), (11, yX11_lowest, cX11_lowest, 7, none, 1, 29), (11, yX11_told, cX11_told, 2, (some .long), 0, 0), (11, yX11_makes, cX11_makes, 6, (some .int), 0, 0), (11, yX11_machine, cX11_machine, 4, (some .int), 1, 25), (11, yX11_isPlace, cX11_isPlace, 5, (some .boolean), 0, 0), (11, yX11_number, cX11_number, 5, (some .int), 1, 23), (11, yX11_set, cX11_set, 7, (some .int), 2, 47), (11, yX11_table, cX11_table, 5, (some .int), 2, 47), (11, yX11_fits, cX11_fits, 1, (some .boolean), 0, 0), (11, yX11_keeps, cX11_keeps, 9, (some .int), 1, 25), (11, yX11_joins, cX11_joins, 10, (some .int), 2, 53), (11, yX11_series, cX11_series, 3, (some .int), 3, 82), (11, yX11_side, cX11_side, 3, (some .int), 3, 82), (11, yX11_back, cX11_back, 5, (some .int), 2, 53)]
def mtab_4 : List (Nat × MethodName × ByteArray × Nat × Option FieldType × Nat × Nat) := [(11, yX11_part, cX11_part, 7, (some .int), 2, 53), (11, yX11_drop, cX11_drop, 1, (some .int), 0, 0), (11, yX11_beat, cX11_beat, 6, (some .long), 2, 46), (11, yX11_turnsOn, cX11_turnsOn, 4, none, 1, 23), (11, yX11_minor, cX11_minor, 4, (some .long), 1, 23), (11, yX11_owns, cX11_owns, 13, none, 2, 46), (11, yX11_isWithin, cX11_isWithin, 10, (some .boolean), 1, 29), (11, yX11_isSteady, cX11_isSteady, 6, (some .boolean), 3, 78), (11, yX11_rank, cX11_rank, 11, (some .int), 1, 29), (11, yX11_reaches, cX11_reaches, 5, none, 2, 46), (11, yX11_reached, cX11_reached, 2, (some .int), 3, 70), (11, yX11_seen, cX11_seen, 7, (some .int), 2, 59), (11, yX11_least, cX11_least, 4, (some .int), 3, 71), (11, yX11_machineTold, cX11_machineTold, 3, (some .int), 4, 103), (11, yX11_own, cX11_own, 7, (some .long), 3, 78), (11, yX11_power, cX11_power, 6, (some .long), 0, 0), (11, yX11_pulse, cX11_pulse, 4, (some .long), 3, 71), (11, yX11_run, cX11_run, 12, (some .long), 3, 71), (11, yX11_like, cX11_like, 4, (some .int), 3, 71), (11, yX11_worth, cX11_worth, 5, (some .long), 0, 0), (11, yX11_gain, cX11_gain, 11, (some .long), 4, 91), (11, yX11_soonest, cX11_soonest, 9, (some .int), 3, 70), (11, yX11_lays, cX11_lays, 16, (some .int), 1, 23), (11, yX11_hasEnergy, cX11_hasEnergy, 3, (some .boolean), 2, 58), (11, yX11_energy, cX11_energy, 5, (some .long), 3, 80), (11, yX11_writes, cX11_writes, 5, none, 4, 104), (11, yX11_write, cX11_write, 3, (some .int), 5, 128), (11, yX11_row, cX11_row, 2, (some .long), 0, 0), (11, yX11_forge, cX11_forge, 4, (some .int), 0, 0), (11, yX11_check, cX11_check, 10, (some .int), 5, 128)]
def mtab_5 : List (Nat × MethodName × ByteArray × Nat × Option FieldType × Nat × Nat) := [(11, yX11_ran, cX11_ran, 2, none, 0, 0), (11, yX11_goesSteps, cX11_goesSteps, 3, (some .int), 1, 21), (11, yX11_goes, cX11_goes, 3, (some .int), 2, 43), (11, yX11_leadsSteps, cX11_leadsSteps, 3, (some .int), 3, 65), (11, yX11_leads, cX11_leads, 3, (some .int), 4, 87), (11, yX11_showsSteps, cX11_showsSteps, 4, (some .int), 5, 109), (11, yX11_showsLoop, cX11_showsLoop, 3, (some .int), 6, 132), (11, yX11_shows, cX11_shows, 4, (some .int), 7, 154), (11, yX11_act, cX11_act, 4, (some .int), 8, 177), (11, yX11_trace, cX11_trace, 2, (some .int), 0, 0), (11, yX11_count, cX11_count, 2, (some .int), 0, 0), (11, yX11_isSheet, cX11_isSheet, 1, (some .boolean), 0, 0), (11, yX11_sheet, cX11_sheet, 5, (some .int), 1, 20), (11, yX11_cell, cX11_cell, 4, (some .int), 1, 20), (11, yX11_lay, cX11_lay, 9, (some .int), 1, 21), (11, yX11_copy, cX11_copy, 7, (some .int), 1, 20), (11, yX11_taken, cX11_taken, 4, (some .int), 1, 21), (12, yJ6_bitCount_0f7a4, cJ6_bitCount_0f7a4, 1, (some .int), 0, 0)]
def mtab : List (Nat × MethodName × ByteArray × Nat × Option FieldType × Nat × Nat) := mtab_0 ++ (mtab_1 ++ (mtab_2 ++ (mtab_3 ++ (mtab_4 ++ (mtab_5)))))
def mOw (k : Nat) : Nat := (mtab.getD k mdf).1
def mNm (k : Nat) : MethodName := (mtab.getD k mdf).2.1
def byt (k : Nat) : ByteArray := (mtab.getD k mdf).2.2.1
def mxl (k : Nat) : Nat := (mtab.getD k mdf).2.2.2.1
def mRt (k : Nat) : Option FieldType := (mtab.getD k mdf).2.2.2.2.1
def mFr (k : Nat) : Nat := (mtab.getD k mdf).2.2.2.2.2.1
def mLo (k : Nat) : Nat := (mtab.getD k mdf).2.2.2.2.2.2
def ows : List String := [RX0, RX1, RX2, RX3, RX4, RX5, RX6, RX7, RX8, RX9, RX10, RX11, RJ6]
def ow (o : Nat) : String := ows.getD o ""
def tcode (t : FieldType) : Nat := match t with | .int => 0 | .long => 1 | .boolean => 3 | .object _ => 2 | .array _ => 2 | _ => 9
def tyF : List (Nat → FieldType) := [tyX0, tyX1, tyX2, tyX3, tyX4, tyX6, tyX7, tyX8, tyX9, tyX10, tyX11]
def tyc (c k : Nat) : Nat := tcode ((tyF.getD c (fun _ => .int)) k)
def fam (g : Nat) : List Nat := if g = 7 then [1, 4, 5, 7] else [g]
def inG (g c : Nat) : Bool := if g = 7 then (c == 8 || c == 2 || c == 5 || c == 6) else c == g + 1
def look {α : Type} : List (Nat × α) → Nat → Option α
  | [], _ => none
  | (j, v) :: t, i => if j = i then some v else look t i
def ftb : Nat → List (Nat × Nat × Nat × Nat × Bool × String × Nat × Nat)
  | 0 => [(11, 0, 0, 2, true, "SteerBench$Energy", 214, 0), (16, 0, 1, 2, true, "SteerBench$Energy", 215, 0), (20, 0, 2, 2, true, "SteerBench$Energy", 216, 0), (23, 0, 3, 1, false, "SteerBench$Energy", 217, 0), (27, 0, 4, 0, false, "SteerBench$Energy", 218, 0), (31, 0, 5, 3, false, "SteerBench$Energy", 219, 0), (35, 7, 1, 0, true, "SteerBench$Steps", 121, 0), (40, 7, 3, 2, true, "SteerBench$Steps", 133, 0), (44, 7, 2, 0, true, "SteerBench$Steps", 127, 0)]
  | 1 => [(9, 8, 1, 0, false, "SteerBench$Trace", 91, 0), (15, 8, 0, 2, true, "SteerBench$Trace", 85, 0), (23, 7, 2, 0, true, "SteerBench$Flow", 128, 129)]
  | 2 => [(7, 2, 0, 1, false, "SteerBench$Fraction", 240, 0), (13, 2, 1, 1, false, "SteerBench$Fraction", 242, 0)]
  | 3 => [(14, 3, 0, 2, false, "SteerBench$Look", 178, 0), (22, 3, 1, 2, true, "SteerBench$Look", 179, 0), (25, 3, 2, 2, true, "SteerBench$Look", 180, 0), (28, 3, 3, 2, true, "SteerBench$Look", 181, 0), (32, 3, 4, 2, true, "SteerBench$Look", 183, 0), (35, 3, 5, 2, true, "SteerBench$Look", 184, 0), (38, 3, 6, 2, true, "SteerBench$Look", 185, 0), (41, 3, 7, 2, true, "SteerBench$Look", 186, 0), (44, 3, 8, 2, true, "SteerBench$Look", 187, 0), (47, 7, 4, 2, true, "SteerBench$Steps", 141, 0), (51, 7, 5, 2, true, "SteerBench$Steps", 148, 0), (64, 7, 3, 2, true, "SteerBench$Steps", 134, 0), (81, 7, 1, 0, true, "SteerBench$Steps", 122, 0), (85, 7, 6, 2, true, "SteerBench$Steps", 158, 0), (88, 7, 2, 0, true, "SteerBench$Steps", 131, 0)]
  | 4 => [(9, 8, 1, 0, false, "SteerBench$Trace", 93, 0), (15, 8, 0, 2, true, "SteerBench$Trace", 87, 0)]
  | 6 => [(9, 8, 1, 0, false, "SteerBench$Trace", 92, 0), (15, 8, 0, 2, true, "SteerBench$Trace", 86, 0), (23, 7, 0, 0, true, "SteerBench$Part", 118, 119)]
  | 7 => [(7, 6, 0, 0, true, "SteerBench$Sheet", 716, 0), (19, 6, 1, 2, true, "SteerBench$Sheet", 718, 0)]
  | 8 => [(9, 7, 3, 2, true, "SteerBench$Steps", 132, 0), (15, 7, 4, 2, true, "SteerBench$Steps", 140, 0), (18, 7, 5, 2, true, "SteerBench$Steps", 147, 0), (21, 7, 6, 2, true, "SteerBench$Steps", 154, 0), (24, 7, 0, 0, true, "SteerBench$Steps", 117, 0), (28, 7, 1, 0, true, "SteerBench$Steps", 120, 0), (31, 7, 2, 0, true, "SteerBench$Steps", 126, 0), (34, 8, 1, 0, false, "SteerBench$Trace", 94, 0), (39, 8, 0, 2, true, "SteerBench$Trace", 88, 0)]
  | 9 => [(9, 8, 0, 2, true, "SteerBench$Trace", 84, 0), (15, 8, 1, 0, false, "SteerBench$Trace", 90, 0)]
  | 10 => [(11, 9, 0, 2, true, "SteerBench", 249, 0), (15, 9, 1, 0, false, "SteerBench", 250, 0), (19, 9, 2, 2, true, "SteerBench", 251, 0), (23, 9, 3, 2, true, "SteerBench", 252, 0), (26, 9, 4, 0, false, "SteerBench", 253, 0), (32, 9, 5, 2, true, "SteerBench", 254, 0), (38, 9, 6, 2, true, "SteerBench", 255, 0), (45, 9, 7, 2, true, "SteerBench", 256, 0), (49, 9, 8, 2, true, "SteerBench", 257, 0), (55, 9, 9, 2, true, "SteerBench", 258, 0), (62, 9, 10, 2, true, "SteerBench", 259, 0), (102, 7, 6, 2, true, "SteerBench$Steps", 155, 0), (106, 7, 1, 0, true, "SteerBench$Steps", 123, 0), (109, 7, 2, 0, true, "SteerBench$Steps", 130, 0), (113, 7, 3, 2, true, "SteerBench$Loop", 135, 136), (116, 7, 3, 2, true, "SteerBench$Steps", 137, 0), (117, 7, 4, 2, true, "SteerBench$Steps", 142, 0), (120, 7, 5, 2, true, "SteerBench$Steps", 149, 0), (123, 7, 4, 2, true, "SteerBench$Loop", 143, 144), (124, 7, 5, 2, true, "SteerBench$Loop", 150, 151), (142, 7, 6, 2, true, "SteerBench$Part", 156, 157), (164, 0, 5, 3, false, "SteerBench$Energy", 220, 0), (171, 3, 3, 2, true, "SteerBench$Look", 182, 0), (229, 8, 1, 0, false, "SteerBench$Trace", 95, 0), (242, 8, 0, 2, true, "SteerBench$Trace", 89, 0), (251, 6, 1, 2, true, "SteerBench$Sheet", 719, 0), (254, 6, 0, 0, true, "SteerBench$Sheet", 717, 0), (284, 7, 6, 2, true, "SteerBench$Loop", 159, 160), (285, 7, 1, 0, true, "SteerBench$Loop", 124, 125), (286, 7, 3, 2, true, "SteerBench$Part", 138, 139), (287, 7, 4, 2, true, "SteerBench$Part", 145, 146), (288, 7, 5, 2, true, "SteerBench$Part", 152, 153), (289, 2, 0, 1, false, "SteerBench$Fraction", 241, 0), (292, 2, 1, 1, false, "SteerBench$Fraction", 243, 0)]
  | 11 => [(7, 10, 1, 2, true, "SteerBenchModel", 758, 0), (13, 10, 2, 2, true, "SteerBenchModel", 759, 0), (16, 10, 3, 2, true, "SteerBenchModel", 760, 0), (19, 10, 4, 2, true, "SteerBenchModel", 761, 0), (22, 10, 5, 2, true, "SteerBenchModel", 762, 0), (25, 10, 6, 2, true, "SteerBenchModel", 763, 0), (28, 10, 7, 2, true, "SteerBenchModel", 764, 0), (31, 10, 8, 2, true, "SteerBenchModel", 765, 0), (34, 10, 9, 2, true, "SteerBenchModel", 766, 0), (37, 10, 10, 2, true, "SteerBenchModel", 767, 0), (40, 10, 11, 2, true, "SteerBenchModel", 768, 0), (44, 10, 12, 2, true, "SteerBenchModel", 769, 0), (47, 10, 15, 2, true, "SteerBenchModel", 772, 0), (50, 10, 16, 2, true, "SteerBenchModel", 773, 0), (53, 10, 17, 2, true, "SteerBenchModel", 774, 0), (56, 10, 18, 2, true, "SteerBenchModel", 775, 0), (59, 10, 19, 2, true, "SteerBenchModel", 776, 0), (62, 10, 21, 2, true, "SteerBenchModel", 778, 0), (65, 10, 22, 2, true, "SteerBenchModel", 779, 0), (68, 10, 23, 2, true, "SteerBenchModel", 780, 0), (71, 10, 24, 2, true, "SteerBenchModel", 781, 0), (74, 10, 25, 2, true, "SteerBenchModel", 782, 0), (77, 10, 26, 2, true, "SteerBenchModel", 783, 0), (80, 10, 27, 2, true, "SteerBenchModel", 784, 0), (83, 10, 0, 0, false, "SteerBenchModel", 757, 0), (91, 10, 28, 1, false, "SteerBenchModel", 785, 0), (95, 10, 29, 1, false, "SteerBenchModel", 786, 0), (193, 10, 14, 0, false, "SteerBenchModel", 771, 0), (203, 10, 13, 0, false, "SteerBenchModel", 770, 0), (210, 10, 20, 0, false, "SteerBenchModel", 777, 0)]
  | _ => []
def ctb : Nat → List (Nat × Nat × Nat)
  | 0 => [(9, 23, 213), (38, 1, 446)]
  | 3 => [(9, 7, 111), (20, 23, 176), (95, 1, 488)]
  | 10 => [(9, 7, 76), (29, 8, 78), (36, 6, 103), (42, 3, 105), (52, 0, 207), (59, 2, 234), (74, 1, 294), (92, 4, 324), (129, 5, 384)]
  | _ => []
def ltb : Nat → List (Nat × Int64 × Nat)
  | 0 => [(68, (-2), 464), (74, (2), 451)]
  | 10 => [(169, (-4611686018427387904), 544), (216, (-1000000000), 634), (218, (1000000000), 635), (261, (-3), 737), (263, (3), 738)]
  | 11 => [(169, (-4611686018427387904), 980), (183, (7), 1000), (188, (2), 971), (206, (-1000000000), 1034), (208, (1000000000), 1035), (241, (-3), 1099), (243, (3), 1100)]
  | _ => []
def itb : Nat → List (Nat × Int32 × Nat)
  | 10 => [(168, (-100000), 539)]
  | 11 => [(117, (-100000), 880)]
  | 12 => [(265, (1431655765), 389), (266, (858993459), 390), (267, (252645135), 391)]
  | _ => []
def vtb : Nat → List (Nat × Nat × Nat × MethodName × String × List (Nat × Nat × List Nat) × List Nat)
  | 0 => [(3, 5, 0, ⟨"java/lang/Object", "<init>", "()V"⟩, "", [], [212, 74, 75]), (47, 2, 5, ⟨"SteerBench$Energy", "fillFlow", "(JJJJJ)V"⟩, "", [(1, 3, [])], [447, 449, 10]), (51, 2, 5, ⟨"SteerBench$Energy", "fillTicks", "(JJJJJ)V"⟩, "", [(1, 2, [])], [460, 462, 13]), (54, 2, 1, ⟨"SteerBench$Energy", "leaveOut", "(I)V"⟩, "", [(1, 6, [])], [465, 467, 14]), (58, 0, 3, ⟨"SteerBench$Minors", "whole", "([J[J[J)J"⟩, "", [(0, 41, [])], [469, 440]), (64, 2, 4, ⟨"SteerBench$Energy", "fill", "(IJJJ)V"⟩, "", [(1, 4, [])], [452, 454, 11]), (70, 2, 1, ⟨"SteerBench$Energy", "fillSides", "(J)V"⟩, "", [(1, 5, [])], [456, 458, 12]), (76, 2, 2, ⟨"SteerBench$Fraction", "put", "(JJ)V"⟩, "", [(3, 13, [])], [617, 558, 559])]
  | 1 => [(3, 1, 3, ⟨"SteerBench$Steps", "<init>", "(III)V"⟩, "", [(0, 51, [])], [299, 114]), (19, 4, 2, ⟨"SteerBench$Steps", "goes", "(ILSteerBench$Trace;)I"⟩, "", [(0, 54, [])], [655, 651, 307, 649])]
  | 2 => [(1, 5, 0, ⟨"java/lang/Object", "<init>", "()V"⟩, "", [], [239, 74, 75]), (16, 0, 2, ⟨"SteerBench$Fraction", "sharedDivisor", "(JJ)J"⟩, "", [(0, 15, [])], [561, 562]), (20, 12, 1, ⟨"java/lang/Math", "abs", "(J)J"⟩, "", [], [564, 501, 62, 502])]
  | 3 => [(3, 5, 0, ⟨"java/lang/Object", "<init>", "()V"⟩, "", [], [110, 74, 75]), (11, 1, 3, ⟨"SteerBench$Steps", "<init>", "(III)V"⟩, "", [(0, 51, [])], [113, 114]), (54, 2, 2, ⟨"SteerBench$Look", "columnInto", "([J[J)V"⟩, "", [(4, 18, [])], [419, 421, 5]), (58, 2, 2, ⟨"SteerBench$Look", "rowInto", "([J[J)V"⟩, "", [(4, 19, [])], [423, 425, 6]), (61, 2, 0, ⟨"SteerBench$Look", "fillOwn", "()V"⟩, "", [(4, 20, [])], [427, 429, 7]), (67, 2, 2, ⟨"SteerBench$Look", "putOwn", "(IJ)V"⟩, "", [(4, 21, [])], [431, 433, 8]), (71, 2, 2, ⟨"SteerBench$Look", "pairMinor", "(II)J"⟩, "", [(4, 22, [])], [435, 437, 9]), (75, 0, 3, ⟨"SteerBench$Minors", "whole", "([J[J[J)J"⟩, "", [(0, 41, [])], [439, 440]), (91, 2, 1, ⟨"SteerBench$Look", "plainPulse", "(I)J"⟩, "", [(4, 23, [])], [531, 533, 17]), (97, 2, 0, ⟨"SteerBench$Look", "rootsAreLeftOfZero", "()Z"⟩, "", [(4, 26, [])], [489, 491, 15]), (101, 2, 0, ⟨"SteerBench$Look", "rootsAreWithinCircle", "()Z"⟩, "", [(4, 27, [])], [493, 495, 16]), (104, 7, 2, ⟨"SteerBench", "power", "(II)J"⟩, "", [(0, 89, [])], [497, 498]), (107, 12, 1, ⟨"java/lang/Math", "abs", "(J)J"⟩, "", [], [500, 501, 62, 502]), (113, 6, 5, ⟨"java/lang/System", "arraycopy", "(Ljava/lang/Object;ILjava/lang/Object;II)V"⟩, "", [], [503, 505, 504, 66]), (119, 0, 2, ⟨"SteerBench$Minors", "rank", "([[JI)I"⟩, "", [(0, 44, [])], [510, 511]), (123, 2, 2, ⟨"SteerBench$Fraction", "put", "(JJ)V"⟩, "", [(3, 13, [])], [557, 558, 559]), (129, 2, 1, ⟨"SteerBench$Look", "leadInto", "([J)V"⟩, "", [(4, 35, [])], [597, 599, 18])]
  | 4 => [(3, 1, 3, ⟨"SteerBench$Steps", "<init>", "(III)V"⟩, "", [(0, 51, [])], [345, 114]), (19, 4, 2, ⟨"SteerBench$Steps", "leads", "(ILSteerBench$Trace;)I"⟩, "", [(0, 55, [])], [672, 667, 353, 665]), (23, 4, 2, ⟨"SteerBench$Steps", "shows", "(ILSteerBench$Trace;)I"⟩, "", [(0, 56, [])], [684, 679, 353, 677])]
  | 5 => [(7, 0, 1, ⟨"SteerBench$Minors", "isFree", "([J)Z"⟩, "", [(0, 43, [])], [513, 514]), (13, 10, 2, ⟨"java/lang/Math", "max", "(II)I"⟩, "", [], [516, 517, 62, 518]), (19, 0, 2, ⟨"SteerBench$Minors", "areFree", "([J[J)Z"⟩, "", [(0, 42, [])], [519, 520]), (23, 0, 3, ⟨"SteerBench$Minors", "whole", "([J[J[J)J"⟩, "", [(0, 41, [])], [522, 440])]
  | 6 => [(3, 1, 3, ⟨"SteerBench$Loop", "<init>", "(III)V"⟩, "", [(0, 37, [])], [395, 343]), (19, 9, 2, ⟨"SteerBench$Loop", "goes", "(ILSteerBench$Trace;)I"⟩, "SteerBench$Steps", [(0, 54, [])], [660, 661, 403, 353, 649]), (28, 3, 2, ⟨"SteerBench$Part", "leads", "(ILSteerBench$Trace;)I"⟩, "SteerBench$Loop", [(6, 39, [691, 670])], [688, 689, 670, 39]), (31, 4, 2, ⟨"SteerBench$Loop", "shows", "(ILSteerBench$Trace;)I"⟩, "", [(0, 40, [])], [692, 1110, 403, 682])]
  | 7 => [(1, 5, 0, ⟨"java/lang/Object", "<init>", "()V"⟩, "", [], [714, 74, 75]), (13, 10, 2, ⟨"java/lang/Math", "max", "(II)I"⟩, "", [], [715, 517, 62, 518])]
  | 8 => [(3, 5, 0, ⟨"java/lang/Object", "<init>", "()V"⟩, "", [], [116, 74, 75]), (42, 3, 2, ⟨"SteerBench$Steps", "goes", "(ILSteerBench$Trace;)I"⟩, "SteerBench$Steps", [(2, 11, [652, 653]), (5, 54, [656, 649]), (6, 47, [657, 658]), (8, 54, [650, 649])], [675, 651, 649, 54]), (46, 3, 2, ⟨"SteerBench$Steps", "leads", "(ILSteerBench$Trace;)I"⟩, "SteerBench$Steps", [(2, 55, [668, 665]), (5, 39, [669, 670]), (6, 39, [673, 670]), (8, 55, [666, 665])], [694, 667, 665, 55])]
  | 9 => [(3, 5, 0, ⟨"java/lang/Object", "<init>", "()V"⟩, "", [], [83, 74, 75])]
  | 10 => [(1, 5, 0, ⟨"java/lang/Object", "<init>", "()V"⟩, "", [], [73, 74, 75]), (31, 8, 0, ⟨"SteerBench$Trace", "<init>", "()V"⟩, "", [(0, 57, [])], [80, 81]), (44, 8, 0, ⟨"SteerBench$Look", "<init>", "()V"⟩, "", [(0, 16, [])], [107, 108]), (54, 8, 0, ⟨"SteerBench$Energy", "<init>", "()V"⟩, "", [(0, 0, [])], [209, 210]), (61, 8, 0, ⟨"SteerBench$Fraction", "<init>", "()V"⟩, "", [(0, 12, [])], [236, 237]), (66, 0, 3, ⟨"SteerBench", "isWithin", "(III)Z"⟩, "", [(0, 87, [])], [287, 288]), (70, 2, 0, ⟨"SteerBench", "isFull", "()Z"⟩, "", [(10, 91, [])], [290, 292, 0]), (76, 1, 3, ⟨"SteerBench$Flow", "<init>", "(III)V"⟩, "", [(0, 9, [])], [296, 297]), (79, 1, 3, ⟨"SteerBench$Steps", "<init>", "(III)V"⟩, "", [(0, 51, [])], [308, 114]), (80, 2, 1, ⟨"SteerBench", "kept", "(LSteerBench$Steps;)I"⟩, "", [(10, 95, [])], [309, 311, 1]), (84, 2, 1, ⟨"SteerBench", "machineAt", "(I)LSteerBench$Steps;"⟩, "", [(10, 92, [])], [317, 319, 2]), (88, 0, 4, ⟨"SteerBench", "placeIn", "(LSteerBench$Steps;III)I"⟩, "", [(0, 94, [])], [321, 322]), (94, 3, 1, ⟨"SteerBench$Steps", "numbersOf", "(I)[I"⟩, "SteerBench$Steps", [(2, 53, [329, 326]), (5, 53, [330, 326]), (6, 53, [331, 326]), (8, 53, [327, 326])], [325, 328, 326, 53]), (98, 2, 3, ⟨"SteerBench", "joined", "(IIZ)I"⟩, "", [(10, 97, [])], [337, 339, 3]), (112, 1, 3, ⟨"SteerBench$Loop", "<init>", "(III)V"⟩, "", [(0, 37, [])], [342, 343]), (125, 2, 1, ⟨"SteerBench", "keptIfSmall", "(LSteerBench$Loop;)I"⟩, "", [(10, 96, [])], [363, 365, 4]), (131, 0, 1, ⟨"java/lang/Integer", "bitCount", "(I)I"⟩, "", [(0, 167, [])], [386, 387]), (137, 1, 3, ⟨"SteerBench$Part", "<init>", "(III)V"⟩, "", [(0, 45, [])], [392, 393]), (138, 0, 5, ⟨"SteerBench", "fillRow", "(LSteerBench$Part;ILSteerBench$Steps;II)V"⟩, "", [(0, 100, [])], [404, 405]), (143, 2, 1, ⟨"SteerBench$Look", "at", "(LSteerBench$Steps;)V"⟩, "", [(4, 17, [])], [415, 416, 417]), (147, 2, 1, ⟨"SteerBench$Energy", "at", "(LSteerBench$Steps;)V"⟩, "", [(1, 1, [])], [442, 443, 444]), (148, 3, 0, ⟨"SteerBench$Steps", "kind", "()I"⟩, "SteerBench$Steps", [(2, 10, [474, 475]), (5, 38, [477, 478]), (6, 46, [480, 481]), (8, 52, [472, 471])], [470, 473, 471, 52]), (152, 2, 0, ⟨"SteerBench$Look", "isSteady", "()Z"⟩, "", [(4, 25, [])], [484, 485, 486]), (155, 2, 0, ⟨"SteerBench$Look", "reached", "()I"⟩, "", [(4, 28, [])], [506, 507, 508]), (158, 2, 0, ⟨"SteerBench$Look", "seen", "()I"⟩, "", [(4, 29, [])], [523, 524, 525]), (161, 2, 0, ⟨"SteerBench$Look", "least", "()I"⟩, "", [(4, 30, [])], [527, 528, 529]), (174, 2, 1, ⟨"SteerBench$Look", "above", "(I)J"⟩, "", [(4, 24, [])], [545, 546, 547]), (178, 2, 2, ⟨"SteerBench$Look", "pulseInto", "(LSteerBench$Fraction;I)V"⟩, "", [(4, 31, [])], [553, 554, 555]), (182, 2, 1, ⟨"SteerBench$Fraction", "told", "(I)J"⟩, "", [(3, 14, [])], [565, 566, 567]), (185, 0, 2, ⟨"SteerBench", "power", "(II)J"⟩, "", [(0, 89, [])], [573, 498]), (189, 2, 3, ⟨"SteerBench$Look", "outputInto", "(LSteerBench$Fraction;II)V"⟩, "", [(4, 32, [])], [574, 575, 576]), (193, 2, 1, ⟨"SteerBench$Look", "pulsesAreAlike", "(LSteerBench$Look;)Z"⟩, "", [(4, 33, [])], [582, 583, 584]), (197, 0, 5, ⟨"SteerBench", "areWithin", "(IIIII)Z"⟩, "", [(0, 88, [])], [590, 591]), (201, 2, 5, ⟨"SteerBench$Look", "gainInto", "(LSteerBench$Fraction;IIII)V"⟩, "", [(4, 34, [])], [593, 594, 595]), (205, 2, 3, ⟨"SteerBench$Look", "soonestRest", "(III)I"⟩, "", [(4, 36, [])], [605, 606, 607]), (209, 2, 2, ⟨"SteerBench$Energy", "numberInto", "(LSteerBench$Fraction;I)V"⟩, "", [(1, 7, [])], [613, 614, 615]), (212, 2, 2, ⟨"SteerBench", "proofInto", "([JLSteerBench$Steps;)I"⟩, "", [(10, 101, [])], [622, 624, 19]), (220, 11, 2, ⟨"java/lang/Math", "min", "(II)I"⟩, "", [], [357, 358, 62, 359]), (226, 2, 0, ⟨"SteerBench$Energy", "isAboveZero", "()Z"⟩, "", [(1, 8, [])], [640, 641, 642]), (232, 3, 2, ⟨"SteerBench$Steps", "goes", "(ILSteerBench$Trace;)I"⟩, "SteerBench$Steps", [(2, 11, [652, 653]), (5, 54, [656, 649]), (6, 47, [657, 658]), (8, 54, [650, 649])], [648, 651, 649, 54]), (236, 3, 2, ⟨"SteerBench$Steps", "leads", "(ILSteerBench$Trace;)I"⟩, "SteerBench$Steps", [(2, 55, [668, 665]), (5, 39, [669, 670]), (6, 39, [673, 670]), (8, 55, [666, 665])], [664, 667, 665, 55]), (239, 3, 2, ⟨"SteerBench$Steps", "shows", "(ILSteerBench$Trace;)I"⟩, "SteerBench$Steps", [(2, 56, [680, 677]), (5, 40, [681, 682]), (6, 48, [685, 686]), (8, 56, [678, 677])], [676, 679, 677, 56]), (244, 0, 1, ⟨"SteerBench", "isSheet", "(I)Z"⟩, "", [(0, 90, [])], [707, 708]), (248, 1, 2, ⟨"SteerBench$Sheet", "<init>", "(II)V"⟩, "", [(0, 49, [])], [711, 712]), (257, 2, 2, ⟨"SteerBench$Sheet", "has", "(II)Z"⟩, "", [(7, 50, [])], [733, 734, 735]), (265, 6, 5, ⟨"java/lang/System", "arraycopy", "(Ljava/lang/Object;ILjava/lang/Object;II)V"⟩, "", [], [743, 505, 504, 66]), (271, 0, 2, ⟨"SteerBench", "isOfKind", "(LSteerBench$Steps;I)Z"⟩, "", [(0, 93, [])], [748, 749]), (275, 3, 1, ⟨"SteerBench$Loop", "numbersOf", "(I)[I"⟩, "SteerBench$Steps", [(5, 53, [370, 326]), (6, 53, [371, 326])], [367, 368, 326, 53]), (276, 0, 5, ⟨"SteerBench", "putBlock", "(LSteerBench$Loop;ILSteerBench$Steps;II)V"⟩, "", [(0, 98, [])], [354, 355]), (280, 0, 3, ⟨"SteerBench", "putCrossing", "(LSteerBench$Loop;LSteerBench$Steps;LSteerBench$Steps;)V"⟩, "", [(0, 99, [])], [360, 361])]
  | 11 => [(1, 5, 0, ⟨"java/lang/Object", "<init>", "()V"⟩, "", [], [756, 74, 75]), (87, 0, 2, ⟨"SteerBenchModel", "common", "(JJ)J"⟩, "", [(0, 105, [])], [932, 933]), (98, 2, 3, ⟨"SteerBenchModel", "makes", "(III)I"⟩, "", [(11, 108, [])], [852, 854, 20]), (102, 2, 3, ⟨"SteerBenchModel", "at", "(III)I"⟩, "", [(11, 104, [])], [872, 874, 24]), (105, 2, 1, ⟨"SteerBenchModel", "is", "(I)Z"⟩, "", [(11, 103, [])], [860, 862, 21]), (109, 2, 4, ⟨"SteerBenchModel", "isPlace", "(IIII)Z"⟩, "", [(11, 110, [])], [864, 866, 22]), (113, 2, 4, ⟨"SteerBenchModel", "number", "(IIII)I"⟩, "", [(11, 111, [])], [868, 870, 23]), (118, 0, 1, ⟨"SteerBenchModel", "fits", "(I)Z"⟩, "", [(0, 114, [])], [893, 894]), (121, 2, 4, ⟨"SteerBenchModel", "keeps", "(IIII)I"⟩, "", [(11, 115, [])], [889, 891, 26]), (124, 2, 3, ⟨"SteerBenchModel", "joins", "(IIZ)I"⟩, "", [(11, 116, [])], [885, 887, 25]), (128, 2, 1, ⟨"SteerBenchModel", "turnsOn", "(I)V"⟩, "", [(11, 123, [])], [943, 945, 33]), (132, 2, 3, ⟨"SteerBenchModel", "minor", "(III)J"⟩, "", [(11, 124, [])], [924, 926, 29]), (136, 2, 1, ⟨"SteerBenchModel", "owns", "(I)V"⟩, "", [(11, 125, [])], [920, 922, 28]), (139, 2, 1, ⟨"SteerBenchModel", "isWithin", "(I)Z"⟩, "", [(11, 126, [])], [928, 930, 30]), (142, 2, 2, ⟨"SteerBenchModel", "reaches", "(II)V"⟩, "", [(11, 129, [])], [939, 941, 32]), (146, 2, 1, ⟨"SteerBenchModel", "rank", "(I)I"⟩, "", [(11, 128, [])], [947, 949, 34]), (150, 2, 2, ⟨"SteerBenchModel", "beat", "(II)J"⟩, "", [(11, 122, [])], [959, 961, 37]), (154, 2, 1, ⟨"SteerBenchModel", "isSteady", "(I)Z"⟩, "", [(11, 127, [])], [916, 918, 27]), (157, 2, 1, ⟨"SteerBenchModel", "reached", "(I)I"⟩, "", [(11, 130, [])], [935, 937, 31]), (160, 2, 1, ⟨"SteerBenchModel", "seen", "(I)I"⟩, "", [(11, 131, [])], [951, 953, 35]), (163, 2, 1, ⟨"SteerBenchModel", "least", "(I)I"⟩, "", [(11, 132, [])], [955, 957, 36]), (166, 2, 1, ⟨"SteerBenchModel", "hasEnergy", "(I)Z"⟩, "", [(11, 143, [])], [963, 965, 38]), (171, 2, 2, ⟨"SteerBenchModel", "lowest", "(JJ)V"⟩, "", [(11, 106, [])], [985, 987, 41]), (175, 0, 2, ⟨"SteerBenchModel", "power", "(JI)J"⟩, "", [(0, 135, [])], [989, 990]), (179, 2, 1, ⟨"SteerBenchModel", "told", "(I)J"⟩, "", [(11, 107, [])], [992, 994, 42]), (185, 2, 2, ⟨"SteerBenchModel", "worth", "(II)J"⟩, "", [(11, 139, [])], [972, 974, 40]), (190, 2, 1, ⟨"SteerBenchModel", "lays", "(I)I"⟩, "", [(11, 142, [])], [967, 969, 39]), (196, 2, 4, ⟨"SteerBenchModel", "energy", "(IIII)J"⟩, "", [(11, 144, [])], [1025, 1014, 1015]), (200, 2, 1, ⟨"SteerBenchModel", "writes", "(I)V"⟩, "", [(11, 145, [])], [1021, 1023, 43]), (213, 2, 1, ⟨"SteerBenchModel", "ran", "(I)V"⟩, "", [(11, 150, [])], [1048, 1050, 45]), (216, 2, 2, ⟨"SteerBenchModel", "goesSteps", "(II)I"⟩, "", [(11, 151, [])], [1052, 1054, 46]), (220, 2, 2, ⟨"SteerBenchModel", "goes", "(II)I"⟩, "", [(11, 152, [])], [1044, 1046, 44]), (223, 2, 2, ⟨"SteerBenchModel", "leadsSteps", "(II)I"⟩, "", [(11, 153, [])], [1060, 1062, 48]), (226, 2, 2, ⟨"SteerBenchModel", "leads", "(II)I"⟩, "", [(11, 154, [])], [1056, 1058, 47]), (229, 2, 2, ⟨"SteerBenchModel", "showsSteps", "(II)I"⟩, "", [(11, 155, [])], [1068, 1070, 50]), (232, 2, 2, ⟨"SteerBenchModel", "showsLoop", "(II)I"⟩, "", [(11, 156, [])], [1072, 1074, 51]), (235, 2, 2, ⟨"SteerBenchModel", "shows", "(II)I"⟩, "", [(11, 157, [])], [1064, 1066, 49]), (238, 0, 1, ⟨"SteerBenchModel", "isSheet", "(I)Z"⟩, "", [(0, 161, [])], [1088, 1089])]
  | _ => []
end
section
theorem look_mem {α : Type} : ∀ {l : List (Nat × α)} {i : Nat} {v : α}, look l i = some v → (i, v) ∈ l
  | [], _, _, h => by cases h
  | (j, w) :: t, i, v, h => by
    unfold look at h
    by_cases e : j = i
    · rw [if_pos e] at h
      cases h
      subst e
      exact List.mem_cons_self
    · rw [if_neg e] at h
      exact List.mem_cons_of_mem _ (look_mem h)
def TB : List Cond := lw_tbl.filter goodWord
theorem TB_good {w : Cond} (h : w ∈ TB) : (w.onTables && w.keeps) = true ∨ ∃ ty, w = .arrayClass ty := good_of_word (List.mem_filter.mp h).2
theorem TB_in {w : Cond} (h : w ∈ TB) : w ∈ lw_tbl := (List.mem_filter.mp h).1
theorem TB_at {w : Cond} (i : Nat) (h : lw_tbl[i]? = some w) (g : goodWord w = true) : w ∈ TB := List.mem_filter.mpr ⟨List.mem_of_getElem? h, g⟩
def isT (i : Nat) (w : Cond) : Bool := goodWord w && decide (lw_tbl[i]? = some w)
theorem isT_TB {i : Nat} {w : Cond} (h : isT i w = true) : w ∈ TB := by
  simp only [isT, Bool.and_eq_true, decide_eq_true_eq] at h
  exact TB_at i h.2 h.1
def mP (q : Nat × MethodName × ByteArray × Nat × Option FieldType × Nat × Nat) : Prop := Cond.code q.2.1 q.2.2.1 q.2.2.2.1 q.2.2.2.2.1 ∈ TB ∧ q.2.1.cls = ow q.1 ∧ Cond.initialized q.2.1.cls ∈ TB ∧ plainName q.2.1.cls = true ∧ q.2.1.cls ≠ "java/lang/invoke/MethodHandle" ∧ q.2.1.cls ≠ "java/lang/invoke/VarHandle"
theorem iw_0 : Cond.initialized RX0 ∈ TB := TB_at 57 (by decide +kernel) rfl
theorem iw_1 : Cond.initialized RX1 ∈ TB := TB_at 60 (by decide +kernel) rfl
theorem iw_2 : Cond.initialized RX2 ∈ TB := TB_at 58 (by decide +kernel) rfl
theorem iw_3 : Cond.initialized RX3 ∈ TB := TB_at 55 (by decide +kernel) rfl
theorem iw_4 : Cond.initialized RX4 ∈ TB := TB_at 61 (by decide +kernel) rfl
theorem iw_5 : Cond.initialized RX5 ∈ TB := TB_at 65 (by decide +kernel) rfl
theorem iw_6 : Cond.initialized RX6 ∈ TB := TB_at 63 (by decide +kernel) rfl
theorem iw_7 : Cond.initialized RX7 ∈ TB := TB_at 67 (by decide +kernel) rfl
theorem iw_8 : Cond.initialized RX8 ∈ TB := TB_at 56 (by decide +kernel) rfl
theorem iw_9 : Cond.initialized RX9 ∈ TB := TB_at 54 (by decide +kernel) rfl
theorem iw_10 : Cond.initialized RX10 ∈ TB := TB_at 53 (by decide +kernel) rfl
theorem iw_11 : Cond.initialized RX11 ∈ TB := TB_at 59 (by decide +kernel) rfl
theorem iw_12 : Cond.initialized RJ6 ∈ TB := TB_at 64 (by decide +kernel) rfl
set_option maxRecDepth 100000 in
theorem mp_0 : mP (0, yX0_init, cX0_init, 1, none, 1, 20) := ⟨TB_at 211 rfl rfl, rfl, iw_0, by decide +kernel, by decide +kernel, by decide +kernel⟩
set_option maxRecDepth 100000 in
theorem mp_1 : mP (0, yX0_at, cX0_at, 3, none, 2, 57) := ⟨TB_at 445 rfl rfl, rfl, iw_0, by decide +kernel, by decide +kernel, by decide +kernel⟩
set_option maxRecDepth 100000 in
theorem mp_2 : mP (0, yX0_fillTicks, cX0_fillTicks, 11, none, 1, 27) := ⟨TB_at 463 rfl rfl, rfl, iw_0, by decide +kernel, by decide +kernel, by decide +kernel⟩
set_option maxRecDepth 100000 in
theorem mp_3 : mP (0, yX0_fillFlow, cX0_fillFlow, 11, none, 1, 27) := ⟨TB_at 450 rfl rfl, rfl, iw_0, by decide +kernel, by decide +kernel, by decide +kernel⟩
set_option maxRecDepth 100000 in
theorem mp_4 : mP (0, yX0_fill, cX0_fill, 8, none, 0, 0) := ⟨TB_at 455 rfl rfl, rfl, iw_0, by decide +kernel, by decide +kernel, by decide +kernel⟩
set_option maxRecDepth 100000 in
theorem mp_5 : mP (0, yX0_fillSides, cX0_fillSides, 3, none, 0, 0) := ⟨TB_at 459 rfl rfl, rfl, iw_0, by decide +kernel, by decide +kernel, by decide +kernel⟩
set_option maxRecDepth 100000 in
theorem mp_6 : mP (0, yX0_leaveOut, cX0_leaveOut, 2, none, 1, 27) := ⟨TB_at 468 rfl rfl, rfl, iw_0, by decide +kernel, by decide +kernel, by decide +kernel⟩
set_option maxRecDepth 100000 in
theorem mp_7 : mP (0, yX0_numberInto, cX0_numberInto, 3, none, 3, 79) := ⟨TB_at 616 rfl rfl, rfl, iw_0, by decide +kernel, by decide +kernel, by decide +kernel⟩
set_option maxRecDepth 100000 in
theorem mp_8 : mP (0, yX0_isAboveZero, cX0_isAboveZero, 1, (some .boolean), 0, 0) := ⟨TB_at 643 rfl rfl, rfl, iw_0, by decide +kernel, by decide +kernel, by decide +kernel⟩
set_option maxRecDepth 100000 in
theorem mp_9 : mP (1, yX1_init, cX1_init, 4, none, 2, 43) := ⟨TB_at 298 rfl rfl, rfl, iw_1, by decide +kernel, by decide +kernel, by decide +kernel⟩
set_option maxRecDepth 100000 in
theorem mp_10 : mP (1, yX1_kind, cX1_kind, 1, (some .int), 0, 0) := ⟨TB_at 476 rfl rfl, rfl, iw_1, by decide +kernel, by decide +kernel, by decide +kernel⟩
set_option maxRecDepth 100000 in
theorem mp_11 : mP (1, yX1_goes, cX1_goes, 3, (some .int), 1, 22) := ⟨TB_at 654 rfl rfl, rfl, iw_1, by decide +kernel, by decide +kernel, by decide +kernel⟩
set_option maxRecDepth 100000 in
theorem mp_12 : mP (2, yX2_init, cX2_init, 1, none, 1, 20) := ⟨TB_at 238 rfl rfl, rfl, iw_2, by decide +kernel, by decide +kernel, by decide +kernel⟩
set_option maxRecDepth 100000 in
theorem mp_13 : mP (2, yX2_put, cX2_put, 9, none, 2, 51) := ⟨TB_at 560 rfl rfl, rfl, iw_2, by decide +kernel, by decide +kernel, by decide +kernel⟩
set_option maxRecDepth 100000 in
theorem mp_14 : mP (2, yX2_told, cX2_told, 2, (some .long), 0, 0) := ⟨TB_at 568 rfl rfl, rfl, iw_2, by decide +kernel, by decide +kernel, by decide +kernel⟩
set_option maxRecDepth 100000 in
theorem mp_15 : mP (2, yX2_sharedDivisor, cX2_sharedDivisor, 11, (some .long), 1, 21) := ⟨TB_at 563 rfl rfl, rfl, iw_2, by decide +kernel, by decide +kernel, by decide +kernel⟩
set_option maxRecDepth 100000 in
theorem mp_16 : mP (3, yX3_init, cX3_init, 1, none, 2, 43) := ⟨TB_at 109 rfl rfl, rfl, iw_3, by decide +kernel, by decide +kernel, by decide +kernel⟩
set_option maxRecDepth 100000 in
theorem mp_17 : mP (3, yX3_at, cX3_at, 3, none, 2, 45) := ⟨TB_at 418 rfl rfl, rfl, iw_3, by decide +kernel, by decide +kernel, by decide +kernel⟩
set_option maxRecDepth 100000 in
theorem mp_18 : mP (3, yX3_columnInto, cX3_columnInto, 7, none, 0, 0) := ⟨TB_at 422 rfl rfl, rfl, iw_3, by decide +kernel, by decide +kernel, by decide +kernel⟩
set_option maxRecDepth 100000 in
theorem mp_19 : mP (3, yX3_rowInto, cX3_rowInto, 7, none, 0, 0) := ⟨TB_at 426 rfl rfl, rfl, iw_3, by decide +kernel, by decide +kernel, by decide +kernel⟩
set_option maxRecDepth 100000 in
theorem mp_20 : mP (3, yX3_fillOwn, cX3_fillOwn, 3, none, 1, 23) := ⟨TB_at 430 rfl rfl, rfl, iw_3, by decide +kernel, by decide +kernel, by decide +kernel⟩
set_option maxRecDepth 100000 in
theorem mp_21 : mP (3, yX3_putOwn, cX3_putOwn, 4, none, 0, 0) := ⟨TB_at 434 rfl rfl, rfl, iw_3, by decide +kernel, by decide +kernel, by decide +kernel⟩
set_option maxRecDepth 100000 in
theorem mp_22 : mP (3, yX3_pairMinor, cX3_pairMinor, 3, (some .long), 0, 0) := ⟨TB_at 438 rfl rfl, rfl, iw_3, by decide +kernel, by decide +kernel, by decide +kernel⟩
set_option maxRecDepth 100000 in
theorem mp_23 : mP (3, yX3_plainPulse, cX3_plainPulse, 5, (some .long), 0, 0) := ⟨TB_at 534 rfl rfl, rfl, iw_3, by decide +kernel, by decide +kernel, by decide +kernel⟩
set_option maxRecDepth 100000 in
theorem mp_24 : mP (3, yX3_above, cX3_above, 5, (some .long), 1, 24) := ⟨TB_at 548 rfl rfl, rfl, iw_3, by decide +kernel, by decide +kernel, by decide +kernel⟩
set_option maxRecDepth 100000 in
theorem mp_25 : mP (3, yX3_isSteady, cX3_isSteady, 1, (some .boolean), 2, 74) := ⟨TB_at 487 rfl rfl, rfl, iw_3, by decide +kernel, by decide +kernel, by decide +kernel⟩
set_option maxRecDepth 100000 in
theorem mp_26 : mP (3, yX3_rootsAreLeftOfZero, cX3_rootsAreLeftOfZero, 2, (some .boolean), 0, 0) := ⟨TB_at 492 rfl rfl, rfl, iw_3, by decide +kernel, by decide +kernel, by decide +kernel⟩
set_option maxRecDepth 100000 in
theorem mp_27 : mP (3, yX3_rootsAreWithinCircle, cX3_rootsAreWithinCircle, 7, (some .boolean), 1, 48) := ⟨TB_at 496 rfl rfl, rfl, iw_3, by decide +kernel, by decide +kernel, by decide +kernel⟩
set_option maxRecDepth 100000 in
theorem mp_28 : mP (3, yX3_reached, cX3_reached, 1, (some .int), 2, 47) := ⟨TB_at 509 rfl rfl, rfl, iw_3, by decide +kernel, by decide +kernel, by decide +kernel⟩
set_option maxRecDepth 100000 in
theorem mp_29 : mP (3, yX3_seen, cX3_seen, 1, (some .int), 2, 47) := ⟨TB_at 526 rfl rfl, rfl, iw_3, by decide +kernel, by decide +kernel, by decide +kernel⟩
set_option maxRecDepth 100000 in
theorem mp_30 : mP (3, yX3_least, cX3_least, 3, (some .int), 2, 47) := ⟨TB_at 530 rfl rfl, rfl, iw_3, by decide +kernel, by decide +kernel, by decide +kernel⟩
set_option maxRecDepth 100000 in
theorem mp_31 : mP (3, yX3_pulseInto, cX3_pulseInto, 3, none, 3, 79) := ⟨TB_at 556 rfl rfl, rfl, iw_3, by decide +kernel, by decide +kernel, by decide +kernel⟩
set_option maxRecDepth 100000 in
theorem mp_32 : mP (3, yX3_outputInto, cX3_outputInto, 9, none, 3, 79) := ⟨TB_at 577 rfl rfl, rfl, iw_3, by decide +kernel, by decide +kernel, by decide +kernel⟩
set_option maxRecDepth 100000 in
theorem mp_33 : mP (3, yX3_pulsesAreAlike, cX3_pulsesAreAlike, 7, (some .boolean), 1, 24) := ⟨TB_at 585 rfl rfl, rfl, iw_3, by decide +kernel, by decide +kernel, by decide +kernel⟩
set_option maxRecDepth 100000 in
theorem mp_34 : mP (3, yX3_gainInto, cX3_gainInto, 12, none, 3, 79) := ⟨TB_at 596 rfl rfl, rfl, iw_3, by decide +kernel, by decide +kernel, by decide +kernel⟩
set_option maxRecDepth 100000 in
theorem mp_35 : mP (3, yX3_leadInto, cX3_leadInto, 6, none, 0, 0) := ⟨TB_at 600 rfl rfl, rfl, iw_3, by decide +kernel, by decide +kernel, by decide +kernel⟩
set_option maxRecDepth 100000 in
theorem mp_36 : mP (3, yX3_soonestRest, cX3_soonestRest, 5, (some .int), 2, 48) := ⟨TB_at 608 rfl rfl, rfl, iw_3, by decide +kernel, by decide +kernel, by decide +kernel⟩
set_option maxRecDepth 100000 in
theorem mp_37 : mP (4, yX4_init, cX4_init, 4, none, 2, 43) := ⟨TB_at 344 rfl rfl, rfl, iw_4, by decide +kernel, by decide +kernel, by decide +kernel⟩
set_option maxRecDepth 100000 in
theorem mp_38 : mP (4, yX4_kind, cX4_kind, 1, (some .int), 0, 0) := ⟨TB_at 479 rfl rfl, rfl, iw_4, by decide +kernel, by decide +kernel, by decide +kernel⟩
set_option maxRecDepth 100000 in
theorem mp_39 : mP (4, yX4_leads, cX4_leads, 3, (some .int), 3, 66) := ⟨TB_at 671 rfl rfl, rfl, iw_4, by decide +kernel, by decide +kernel, by decide +kernel⟩
set_option maxRecDepth 100000 in
theorem mp_40 : mP (4, yX4_shows, cX4_shows, 3, (some .int), 5, 110) := ⟨TB_at 683 rfl rfl, rfl, iw_4, by decide +kernel, by decide +kernel, by decide +kernel⟩
set_option maxRecDepth 100000 in
theorem mp_41 : mP (5, yX5_whole, cX5_whole, 3, (some .long), 0, 0) := ⟨TB_at 441 rfl rfl, rfl, iw_5, by decide +kernel, by decide +kernel, by decide +kernel⟩
set_option maxRecDepth 100000 in
theorem mp_42 : mP (5, yX5_areFree, cX5_areFree, 2, (some .boolean), 0, 0) := ⟨TB_at 521 rfl rfl, rfl, iw_5, by decide +kernel, by decide +kernel, by decide +kernel⟩
set_option maxRecDepth 100000 in
theorem mp_43 : mP (5, yX5_isFree, cX5_isFree, 1, (some .boolean), 0, 0) := ⟨TB_at 515 rfl rfl, rfl, iw_5, by decide +kernel, by decide +kernel, by decide +kernel⟩
set_option maxRecDepth 100000 in
theorem mp_44 : mP (5, yX5_rank, cX5_rank, 6, (some .int), 1, 22) := ⟨TB_at 512 rfl rfl, rfl, iw_5, by decide +kernel, by decide +kernel, by decide +kernel⟩
set_option maxRecDepth 100000 in
theorem mp_45 : mP (6, yX6_init, cX6_init, 4, none, 3, 66) := ⟨TB_at 394 rfl rfl, rfl, iw_6, by decide +kernel, by decide +kernel, by decide +kernel⟩
set_option maxRecDepth 100000 in
theorem mp_46 : mP (6, yX6_kind, cX6_kind, 1, (some .int), 0, 0) := ⟨TB_at 482 rfl rfl, rfl, iw_6, by decide +kernel, by decide +kernel, by decide +kernel⟩
set_option maxRecDepth 100000 in
theorem mp_47 : mP (6, yX6_goes, cX6_goes, 3, (some .int), 0, 0) := ⟨TB_at 659 rfl rfl, rfl, iw_6, by decide +kernel, by decide +kernel, by decide +kernel⟩
set_option maxRecDepth 100000 in
theorem mp_48 : mP (6, yX6_shows, cX6_shows, 3, (some .int), 6, 132) := ⟨TB_at 687 rfl rfl, rfl, iw_6, by decide +kernel, by decide +kernel, by decide +kernel⟩
set_option maxRecDepth 100000 in
theorem mp_49 : mP (7, yX7_init, cX7_init, 3, none, 1, 21) := ⟨TB_at 713 rfl rfl, rfl, iw_7, by decide +kernel, by decide +kernel, by decide +kernel⟩
set_option maxRecDepth 100000 in
theorem mp_50 : mP (7, yX7_has, cX7_has, 3, (some .boolean), 0, 0) := ⟨TB_at 736 rfl rfl, rfl, iw_7, by decide +kernel, by decide +kernel, by decide +kernel⟩
set_option maxRecDepth 100000 in
theorem mp_51 : mP (8, yX8_init, cX8_init, 4, none, 1, 20) := ⟨TB_at 115 rfl rfl, rfl, iw_8, by decide +kernel, by decide +kernel, by decide +kernel⟩
set_option maxRecDepth 100000 in
theorem mp_52 : mP (8, yX8_kind, cX8_kind, 1, (some .int), 0, 0) := ⟨TB_at 483 rfl rfl, rfl, iw_8, by decide +kernel, by decide +kernel, by decide +kernel⟩
set_option maxRecDepth 100000 in
theorem mp_53 : mP (8, yX8_numbersOf, cX8_numbersOf, 2, (some (.array .int)), 0, 0) := ⟨TB_at 332 rfl rfl, rfl, iw_8, by decide +kernel, by decide +kernel, by decide +kernel⟩
set_option maxRecDepth 100000 in
theorem mp_54 : mP (8, yX8_goes, cX8_goes, 3, (some .int), 0, 0) := ⟨TB_at 663 rfl rfl, rfl, iw_8, by decide +kernel, by decide +kernel, by decide +kernel⟩
set_option maxRecDepth 100000 in
theorem mp_55 : mP (8, yX8_leads, cX8_leads, 3, (some .int), 2, 44) := ⟨TB_at 674 rfl rfl, rfl, iw_8, by decide +kernel, by decide +kernel, by decide +kernel⟩
set_option maxRecDepth 100000 in
theorem mp_56 : mP (8, yX8_shows, cX8_shows, 3, (some .int), 4, 88) := ⟨TB_at 693 rfl rfl, rfl, iw_8, by decide +kernel, by decide +kernel, by decide +kernel⟩
set_option maxRecDepth 100000 in
theorem mp_57 : mP (9, yX9_init, cX9_init, 1, none, 1, 20) := ⟨TB_at 82 rfl rfl, rfl, iw_9, by decide +kernel, by decide +kernel, by decide +kernel⟩
set_option maxRecDepth 100000 in
theorem mp_58 : mP (10, yX10_init, cX10_init, 1, none, 3, 63) := ⟨TB_at 72 rfl rfl, rfl, iw_10, by decide +kernel, by decide +kernel, by decide +kernel⟩
set_option maxRecDepth 100000 in
theorem mp_59 : mP (10, yX10_machine, cX10_machine, 5, (some .int), 3, 66) := ⟨TB_at 286 rfl rfl, rfl, iw_10, by decide +kernel, by decide +kernel, by decide +kernel⟩
set_option maxRecDepth 100000 in
theorem mp_60 : mP (10, yX10_set, cX10_set, 10, (some .int), 2, 45) := ⟨TB_at 316 rfl rfl, rfl, iw_10, by decide +kernel, by decide +kernel, by decide +kernel⟩
set_option maxRecDepth 100000 in
theorem mp_61 : mP (10, yX10_series, cX10_series, 3, (some .int), 4, 94) := ⟨TB_at 336 rfl rfl, rfl, iw_10, by decide +kernel, by decide +kernel, by decide +kernel⟩
set_option maxRecDepth 100000 in
theorem mp_62 : mP (10, yX10_side, cX10_side, 3, (some .int), 4, 94) := ⟨TB_at 375 rfl rfl, rfl, iw_10, by decide +kernel, by decide +kernel, by decide +kernel⟩
set_option maxRecDepth 100000 in
theorem mp_63 : mP (10, yX10_back, cX10_back, 8, (some .int), 3, 67) := ⟨TB_at 379 rfl rfl, rfl, iw_10, by decide +kernel, by decide +kernel, by decide +kernel⟩
set_option maxRecDepth 100000 in
theorem mp_64 : mP (10, yX10_part, cX10_part, 7, (some .int), 4, 89) := ⟨TB_at 383 rfl rfl, rfl, iw_10, by decide +kernel, by decide +kernel, by decide +kernel⟩
set_option maxRecDepth 100000 in
theorem mp_65 : mP (10, yX10_drop, cX10_drop, 1, (some .int), 0, 0) := ⟨TB_at 410 rfl rfl, rfl, iw_10, by decide +kernel, by decide +kernel, by decide +kernel⟩
set_option maxRecDepth 100000 in
theorem mp_66 : mP (10, yX10_machineTold, cX10_machineTold, 4, (some .int), 3, 94) := ⟨TB_at 414 rfl rfl, rfl, iw_10, by decide +kernel, by decide +kernel, by decide +kernel⟩
set_option maxRecDepth 100000 in
theorem mp_67 : mP (10, yX10_table, cX10_table, 7, (some .int), 2, 45) := ⟨TB_at 538 rfl rfl, rfl, iw_10, by decide +kernel, by decide +kernel, by decide +kernel⟩
set_option maxRecDepth 100000 in
theorem mp_68 : mP (10, yX10_own, cX10_own, 5, (some .long), 3, 67) := ⟨TB_at 543 rfl rfl, rfl, iw_10, by decide +kernel, by decide +kernel, by decide +kernel⟩
set_option maxRecDepth 100000 in
theorem mp_69 : mP (10, yX10_pulse, cX10_pulse, 5, (some .long), 4, 101) := ⟨TB_at 552 rfl rfl, rfl, iw_10, by decide +kernel, by decide +kernel, by decide +kernel⟩
set_option maxRecDepth 100000 in
theorem mp_70 : mP (10, yX10_run, cX10_run, 6, (some .long), 4, 107) := ⟨TB_at 572 rfl rfl, rfl, iw_10, by decide +kernel, by decide +kernel, by decide +kernel⟩
set_option maxRecDepth 100000 in
theorem mp_71 : mP (10, yX10_like, cX10_like, 5, (some .int), 3, 67) := ⟨TB_at 581 rfl rfl, rfl, iw_10, by decide +kernel, by decide +kernel, by decide +kernel⟩
set_option maxRecDepth 100000 in
theorem mp_72 : mP (10, yX10_gain, cX10_gain, 8, (some .long), 4, 110) := ⟨TB_at 589 rfl rfl, rfl, iw_10, by decide +kernel, by decide +kernel, by decide +kernel⟩
set_option maxRecDepth 100000 in
theorem mp_73 : mP (10, yX10_soonest, cX10_soonest, 6, (some .int), 3, 72) := ⟨TB_at 604 rfl rfl, rfl, iw_10, by decide +kernel, by decide +kernel, by decide +kernel⟩
set_option maxRecDepth 100000 in
theorem mp_74 : mP (10, yX10_energy, cX10_energy, 6, (some .long), 4, 101) := ⟨TB_at 612 rfl rfl, rfl, iw_10, by decide +kernel, by decide +kernel, by decide +kernel⟩
set_option maxRecDepth 100000 in
theorem mp_75 : mP (10, yX10_write, cX10_write, 3, (some .int), 5, 127) := ⟨TB_at 621 rfl rfl, rfl, iw_10, by decide +kernel, by decide +kernel, by decide +kernel⟩
set_option maxRecDepth 100000 in
theorem mp_76 : mP (10, yX10_row, cX10_row, 2, (some .long), 1, 22) := ⟨TB_at 629 rfl rfl, rfl, iw_10, by decide +kernel, by decide +kernel, by decide +kernel⟩
set_option maxRecDepth 100000 in
theorem mp_77 : mP (10, yX10_forge, cX10_forge, 4, (some .int), 1, 22) := ⟨TB_at 633 rfl rfl, rfl, iw_10, by decide +kernel, by decide +kernel, by decide +kernel⟩
set_option maxRecDepth 100000 in
theorem mp_78 : mP (10, yX10_check, cX10_check, 6, (some .int), 5, 127) := ⟨TB_at 639 rfl rfl, rfl, iw_10, by decide +kernel, by decide +kernel, by decide +kernel⟩
set_option maxRecDepth 100000 in
theorem mp_79 : mP (10, yX10_act, cX10_act, 5, (some .int), 7, 154) := ⟨TB_at 647 rfl rfl, rfl, iw_10, by decide +kernel, by decide +kernel, by decide +kernel⟩
set_option maxRecDepth 100000 in
theorem mp_80 : mP (10, yX10_trace, cX10_trace, 2, (some .int), 1, 22) := ⟨TB_at 698 rfl rfl, rfl, iw_10, by decide +kernel, by decide +kernel, by decide +kernel⟩
set_option maxRecDepth 100000 in
theorem mp_81 : mP (10, yX10_count, cX10_count, 2, (some .int), 0, 0) := ⟨TB_at 702 rfl rfl, rfl, iw_10, by decide +kernel, by decide +kernel, by decide +kernel⟩
set_option maxRecDepth 100000 in
theorem mp_82 : mP (10, yX10_sheet, cX10_sheet, 4, (some .int), 2, 43) := ⟨TB_at 706 rfl rfl, rfl, iw_10, by decide +kernel, by decide +kernel, by decide +kernel⟩
set_option maxRecDepth 100000 in
theorem mp_83 : mP (10, yX10_cell, cX10_cell, 5, (some .int), 2, 42) := ⟨TB_at 728 rfl rfl, rfl, iw_10, by decide +kernel, by decide +kernel, by decide +kernel⟩
set_option maxRecDepth 100000 in
theorem mp_84 : mP (10, yX10_lay, cX10_lay, 9, (some .int), 2, 43) := ⟨TB_at 732 rfl rfl, rfl, iw_10, by decide +kernel, by decide +kernel, by decide +kernel⟩
set_option maxRecDepth 100000 in
theorem mp_85 : mP (10, yX10_copy, cX10_copy, 8, (some .int), 2, 48) := ⟨TB_at 742 rfl rfl, rfl, iw_10, by decide +kernel, by decide +kernel, by decide +kernel⟩
set_option maxRecDepth 100000 in
theorem mp_86 : mP (10, yX10_taken, cX10_taken, 4, (some .int), 2, 43) := ⟨TB_at 747 rfl rfl, rfl, iw_10, by decide +kernel, by decide +kernel, by decide +kernel⟩
set_option maxRecDepth 100000 in
theorem mp_87 : mP (10, yX10_isWithin, cX10_isWithin, 3, (some .boolean), 0, 0) := ⟨TB_at 289 rfl rfl, rfl, iw_10, by decide +kernel, by decide +kernel, by decide +kernel⟩
set_option maxRecDepth 100000 in
theorem mp_88 : mP (10, yX10_areWithin, cX10_areWithin, 5, (some .boolean), 1, 22) := ⟨TB_at 592 rfl rfl, rfl, iw_10, by decide +kernel, by decide +kernel, by decide +kernel⟩
set_option maxRecDepth 100000 in
theorem mp_89 : mP (10, yX10_power, cX10_power, 5, (some .long), 0, 0) := ⟨TB_at 499 rfl rfl, rfl, iw_10, by decide +kernel, by decide +kernel, by decide +kernel⟩
set_option maxRecDepth 100000 in
theorem mp_90 : mP (10, yX10_isSheet, cX10_isSheet, 1, (some .boolean), 1, 22) := ⟨TB_at 709 rfl rfl, rfl, iw_10, by decide +kernel, by decide +kernel, by decide +kernel⟩
set_option maxRecDepth 100000 in
theorem mp_91 : mP (10, yX10_isFull, cX10_isFull, 1, (some .boolean), 0, 0) := ⟨TB_at 293 rfl rfl, rfl, iw_10, by decide +kernel, by decide +kernel, by decide +kernel⟩
set_option maxRecDepth 100000 in
theorem mp_92 : mP (10, yX10_machineAt, cX10_machineAt, 2, (some (.object "SteerBench$Steps")), 1, 22) := ⟨TB_at 320 rfl rfl, rfl, iw_10, by decide +kernel, by decide +kernel, by decide +kernel⟩
set_option maxRecDepth 100000 in
theorem mp_93 : mP (10, yX10_isOfKind, cX10_isOfKind, 2, (some .boolean), 0, 0) := ⟨TB_at 750 rfl rfl, rfl, iw_10, by decide +kernel, by decide +kernel, by decide +kernel⟩
set_option maxRecDepth 100000 in
theorem mp_94 : mP (10, yX10_placeIn, cX10_placeIn, 4, (some .int), 1, 22) := ⟨TB_at 323 rfl rfl, rfl, iw_10, by decide +kernel, by decide +kernel, by decide +kernel⟩
set_option maxRecDepth 100000 in
theorem mp_95 : mP (10, yX10_kept, cX10_kept, 2, (some .int), 1, 20) := ⟨TB_at 312 rfl rfl, rfl, iw_10, by decide +kernel, by decide +kernel, by decide +kernel⟩
set_option maxRecDepth 100000 in
theorem mp_96 : mP (10, yX10_keptIfSmall, cX10_keptIfSmall, 7, (some .int), 2, 41) := ⟨TB_at 366 rfl rfl, rfl, iw_10, by decide +kernel, by decide +kernel, by decide +kernel⟩
set_option maxRecDepth 100000 in
theorem mp_97 : mP (10, yX10_joined, cX10_joined, 8, (some .int), 3, 67) := ⟨TB_at 340 rfl rfl, rfl, iw_10, by decide +kernel, by decide +kernel, by decide +kernel⟩
set_option maxRecDepth 100000 in
theorem mp_98 : mP (10, yX10_putBlock, cX10_putBlock, 8, none, 1, 21) := ⟨TB_at 356 rfl rfl, rfl, iw_10, by decide +kernel, by decide +kernel, by decide +kernel⟩
set_option maxRecDepth 100000 in
theorem mp_99 : mP (10, yX10_putCrossing, cX10_putCrossing, 5, none, 0, 0) := ⟨TB_at 362 rfl rfl, rfl, iw_10, by decide +kernel, by decide +kernel, by decide +kernel⟩
set_option maxRecDepth 100000 in
theorem mp_100 : mP (10, yX10_fillRow, cX10_fillRow, 7, none, 0, 0) := ⟨TB_at 406 rfl rfl, rfl, iw_10, by decide +kernel, by decide +kernel, by decide +kernel⟩
set_option maxRecDepth 100000 in
theorem mp_101 : mP (10, yX10_proofInto, cX10_proofInto, 7, (some .int), 4, 101) := ⟨TB_at 625 rfl rfl, rfl, iw_10, by decide +kernel, by decide +kernel, by decide +kernel⟩
set_option maxRecDepth 100000 in
theorem mp_102 : mP (11, yX11_init, cX11_init, 2, none, 1, 20) := ⟨TB_at 755 rfl rfl, rfl, iw_11, by decide +kernel, by decide +kernel, by decide +kernel⟩
set_option maxRecDepth 100000 in
theorem mp_103 : mP (11, yX11_is, cX11_is, 2, (some .boolean), 0, 0) := ⟨TB_at 863 rfl rfl, rfl, iw_11, by decide +kernel, by decide +kernel, by decide +kernel⟩
set_option maxRecDepth 100000 in
theorem mp_104 : mP (11, yX11_at, cX11_at, 4, (some .int), 0, 0) := ⟨TB_at 875 rfl rfl, rfl, iw_11, by decide +kernel, by decide +kernel, by decide +kernel⟩
set_option maxRecDepth 100000 in
theorem mp_105 : mP (11, yX11_common, cX11_common, 10, (some .long), 0, 0) := ⟨TB_at 934 rfl rfl, rfl, iw_11, by decide +kernel, by decide +kernel, by decide +kernel⟩
set_option maxRecDepth 100000 in
theorem mp_106 : mP (11, yX11_lowest, cX11_lowest, 7, none, 1, 29) := ⟨TB_at 988 rfl rfl, rfl, iw_11, by decide +kernel, by decide +kernel, by decide +kernel⟩
set_option maxRecDepth 100000 in
theorem mp_107 : mP (11, yX11_told, cX11_told, 2, (some .long), 0, 0) := ⟨TB_at 995 rfl rfl, rfl, iw_11, by decide +kernel, by decide +kernel, by decide +kernel⟩
set_option maxRecDepth 100000 in
theorem mp_108 : mP (11, yX11_makes, cX11_makes, 6, (some .int), 0, 0) := ⟨TB_at 855 rfl rfl, rfl, iw_11, by decide +kernel, by decide +kernel, by decide +kernel⟩
set_option maxRecDepth 100000 in
theorem mp_109 : mP (11, yX11_machine, cX11_machine, 4, (some .int), 1, 25) := ⟨TB_at 851 rfl rfl, rfl, iw_11, by decide +kernel, by decide +kernel, by decide +kernel⟩
set_option maxRecDepth 100000 in
theorem mp_110 : mP (11, yX11_isPlace, cX11_isPlace, 5, (some .boolean), 0, 0) := ⟨TB_at 867 rfl rfl, rfl, iw_11, by decide +kernel, by decide +kernel, by decide +kernel⟩
set_option maxRecDepth 100000 in
theorem mp_111 : mP (11, yX11_number, cX11_number, 5, (some .int), 1, 23) := ⟨TB_at 871 rfl rfl, rfl, iw_11, by decide +kernel, by decide +kernel, by decide +kernel⟩
set_option maxRecDepth 100000 in
theorem mp_112 : mP (11, yX11_set, cX11_set, 7, (some .int), 2, 47) := ⟨TB_at 859 rfl rfl, rfl, iw_11, by decide +kernel, by decide +kernel, by decide +kernel⟩
set_option maxRecDepth 100000 in
theorem mp_113 : mP (11, yX11_table, cX11_table, 5, (some .int), 2, 47) := ⟨TB_at 879 rfl rfl, rfl, iw_11, by decide +kernel, by decide +kernel, by decide +kernel⟩
set_option maxRecDepth 100000 in
theorem mp_114 : mP (11, yX11_fits, cX11_fits, 1, (some .boolean), 0, 0) := ⟨TB_at 895 rfl rfl, rfl, iw_11, by decide +kernel, by decide +kernel, by decide +kernel⟩
set_option maxRecDepth 100000 in
theorem mp_115 : mP (11, yX11_keeps, cX11_keeps, 9, (some .int), 1, 25) := ⟨TB_at 892 rfl rfl, rfl, iw_11, by decide +kernel, by decide +kernel, by decide +kernel⟩
set_option maxRecDepth 100000 in
theorem mp_116 : mP (11, yX11_joins, cX11_joins, 10, (some .int), 2, 53) := ⟨TB_at 888 rfl rfl, rfl, iw_11, by decide +kernel, by decide +kernel, by decide +kernel⟩
set_option maxRecDepth 100000 in
theorem mp_117 : mP (11, yX11_series, cX11_series, 3, (some .int), 3, 82) := ⟨TB_at 884 rfl rfl, rfl, iw_11, by decide +kernel, by decide +kernel, by decide +kernel⟩
set_option maxRecDepth 100000 in
theorem mp_118 : mP (11, yX11_side, cX11_side, 3, (some .int), 3, 82) := ⟨TB_at 899 rfl rfl, rfl, iw_11, by decide +kernel, by decide +kernel, by decide +kernel⟩
set_option maxRecDepth 100000 in
theorem mp_119 : mP (11, yX11_back, cX11_back, 5, (some .int), 2, 53) := ⟨TB_at 903 rfl rfl, rfl, iw_11, by decide +kernel, by decide +kernel, by decide +kernel⟩
set_option maxRecDepth 100000 in
theorem mp_120 : mP (11, yX11_part, cX11_part, 7, (some .int), 2, 53) := ⟨TB_at 907 rfl rfl, rfl, iw_11, by decide +kernel, by decide +kernel, by decide +kernel⟩
set_option maxRecDepth 100000 in
theorem mp_121 : mP (11, yX11_drop, cX11_drop, 1, (some .int), 0, 0) := ⟨TB_at 911 rfl rfl, rfl, iw_11, by decide +kernel, by decide +kernel, by decide +kernel⟩
set_option maxRecDepth 100000 in
theorem mp_122 : mP (11, yX11_beat, cX11_beat, 6, (some .long), 2, 46) := ⟨TB_at 962 rfl rfl, rfl, iw_11, by decide +kernel, by decide +kernel, by decide +kernel⟩
set_option maxRecDepth 100000 in
theorem mp_123 : mP (11, yX11_turnsOn, cX11_turnsOn, 4, none, 1, 23) := ⟨TB_at 946 rfl rfl, rfl, iw_11, by decide +kernel, by decide +kernel, by decide +kernel⟩
set_option maxRecDepth 100000 in
theorem mp_124 : mP (11, yX11_minor, cX11_minor, 4, (some .long), 1, 23) := ⟨TB_at 927 rfl rfl, rfl, iw_11, by decide +kernel, by decide +kernel, by decide +kernel⟩
set_option maxRecDepth 100000 in
theorem mp_125 : mP (11, yX11_owns, cX11_owns, 13, none, 2, 46) := ⟨TB_at 923 rfl rfl, rfl, iw_11, by decide +kernel, by decide +kernel, by decide +kernel⟩
set_option maxRecDepth 100000 in
theorem mp_126 : mP (11, yX11_isWithin, cX11_isWithin, 10, (some .boolean), 1, 29) := ⟨TB_at 931 rfl rfl, rfl, iw_11, by decide +kernel, by decide +kernel, by decide +kernel⟩
set_option maxRecDepth 100000 in
theorem mp_127 : mP (11, yX11_isSteady, cX11_isSteady, 6, (some .boolean), 3, 78) := ⟨TB_at 919 rfl rfl, rfl, iw_11, by decide +kernel, by decide +kernel, by decide +kernel⟩
set_option maxRecDepth 100000 in
theorem mp_128 : mP (11, yX11_rank, cX11_rank, 11, (some .int), 1, 29) := ⟨TB_at 950 rfl rfl, rfl, iw_11, by decide +kernel, by decide +kernel, by decide +kernel⟩
set_option maxRecDepth 100000 in
theorem mp_129 : mP (11, yX11_reaches, cX11_reaches, 5, none, 2, 46) := ⟨TB_at 942 rfl rfl, rfl, iw_11, by decide +kernel, by decide +kernel, by decide +kernel⟩
set_option maxRecDepth 100000 in
theorem mp_130 : mP (11, yX11_reached, cX11_reached, 2, (some .int), 3, 70) := ⟨TB_at 938 rfl rfl, rfl, iw_11, by decide +kernel, by decide +kernel, by decide +kernel⟩
set_option maxRecDepth 100000 in
theorem mp_131 : mP (11, yX11_seen, cX11_seen, 7, (some .int), 2, 59) := ⟨TB_at 954 rfl rfl, rfl, iw_11, by decide +kernel, by decide +kernel, by decide +kernel⟩
set_option maxRecDepth 100000 in
theorem mp_132 : mP (11, yX11_least, cX11_least, 4, (some .int), 3, 71) := ⟨TB_at 958 rfl rfl, rfl, iw_11, by decide +kernel, by decide +kernel, by decide +kernel⟩
set_option maxRecDepth 100000 in
theorem mp_133 : mP (11, yX11_machineTold, cX11_machineTold, 3, (some .int), 4, 103) := ⟨TB_at 915 rfl rfl, rfl, iw_11, by decide +kernel, by decide +kernel, by decide +kernel⟩
set_option maxRecDepth 100000 in
theorem mp_134 : mP (11, yX11_own, cX11_own, 7, (some .long), 3, 78) := ⟨TB_at 979 rfl rfl, rfl, iw_11, by decide +kernel, by decide +kernel, by decide +kernel⟩
set_option maxRecDepth 100000 in
theorem mp_135 : mP (11, yX11_power, cX11_power, 6, (some .long), 0, 0) := ⟨TB_at 991 rfl rfl, rfl, iw_11, by decide +kernel, by decide +kernel, by decide +kernel⟩
set_option maxRecDepth 100000 in
theorem mp_136 : mP (11, yX11_pulse, cX11_pulse, 4, (some .long), 3, 71) := ⟨TB_at 984 rfl rfl, rfl, iw_11, by decide +kernel, by decide +kernel, by decide +kernel⟩
set_option maxRecDepth 100000 in
theorem mp_137 : mP (11, yX11_run, cX11_run, 12, (some .long), 3, 71) := ⟨TB_at 999 rfl rfl, rfl, iw_11, by decide +kernel, by decide +kernel, by decide +kernel⟩
set_option maxRecDepth 100000 in
theorem mp_138 : mP (11, yX11_like, cX11_like, 4, (some .int), 3, 71) := ⟨TB_at 1004 rfl rfl, rfl, iw_11, by decide +kernel, by decide +kernel, by decide +kernel⟩
set_option maxRecDepth 100000 in
theorem mp_139 : mP (11, yX11_worth, cX11_worth, 5, (some .long), 0, 0) := ⟨TB_at 975 rfl rfl, rfl, iw_11, by decide +kernel, by decide +kernel, by decide +kernel⟩
set_option maxRecDepth 100000 in
theorem mp_140 : mP (11, yX11_gain, cX11_gain, 11, (some .long), 4, 91) := ⟨TB_at 1008 rfl rfl, rfl, iw_11, by decide +kernel, by decide +kernel, by decide +kernel⟩
set_option maxRecDepth 100000 in
theorem mp_141 : mP (11, yX11_soonest, cX11_soonest, 9, (some .int), 3, 70) := ⟨TB_at 1012 rfl rfl, rfl, iw_11, by decide +kernel, by decide +kernel, by decide +kernel⟩
set_option maxRecDepth 100000 in
theorem mp_142 : mP (11, yX11_lays, cX11_lays, 16, (some .int), 1, 23) := ⟨TB_at 970 rfl rfl, rfl, iw_11, by decide +kernel, by decide +kernel, by decide +kernel⟩
set_option maxRecDepth 100000 in
theorem mp_143 : mP (11, yX11_hasEnergy, cX11_hasEnergy, 3, (some .boolean), 2, 58) := ⟨TB_at 966 rfl rfl, rfl, iw_11, by decide +kernel, by decide +kernel, by decide +kernel⟩
set_option maxRecDepth 100000 in
theorem mp_144 : mP (11, yX11_energy, cX11_energy, 5, (some .long), 3, 80) := ⟨TB_at 1016 rfl rfl, rfl, iw_11, by decide +kernel, by decide +kernel, by decide +kernel⟩
set_option maxRecDepth 100000 in
theorem mp_145 : mP (11, yX11_writes, cX11_writes, 5, none, 4, 104) := ⟨TB_at 1024 rfl rfl, rfl, iw_11, by decide +kernel, by decide +kernel, by decide +kernel⟩
set_option maxRecDepth 100000 in
theorem mp_146 : mP (11, yX11_write, cX11_write, 3, (some .int), 5, 128) := ⟨TB_at 1020 rfl rfl, rfl, iw_11, by decide +kernel, by decide +kernel, by decide +kernel⟩
set_option maxRecDepth 100000 in
theorem mp_147 : mP (11, yX11_row, cX11_row, 2, (some .long), 0, 0) := ⟨TB_at 1029 rfl rfl, rfl, iw_11, by decide +kernel, by decide +kernel, by decide +kernel⟩
set_option maxRecDepth 100000 in
theorem mp_148 : mP (11, yX11_forge, cX11_forge, 4, (some .int), 0, 0) := ⟨TB_at 1033 rfl rfl, rfl, iw_11, by decide +kernel, by decide +kernel, by decide +kernel⟩
set_option maxRecDepth 100000 in
theorem mp_149 : mP (11, yX11_check, cX11_check, 10, (some .int), 5, 128) := ⟨TB_at 1039 rfl rfl, rfl, iw_11, by decide +kernel, by decide +kernel, by decide +kernel⟩
set_option maxRecDepth 100000 in
theorem mp_150 : mP (11, yX11_ran, cX11_ran, 2, none, 0, 0) := ⟨TB_at 1051 rfl rfl, rfl, iw_11, by decide +kernel, by decide +kernel, by decide +kernel⟩
set_option maxRecDepth 100000 in
theorem mp_151 : mP (11, yX11_goesSteps, cX11_goesSteps, 3, (some .int), 1, 21) := ⟨TB_at 1055 rfl rfl, rfl, iw_11, by decide +kernel, by decide +kernel, by decide +kernel⟩
set_option maxRecDepth 100000 in
theorem mp_152 : mP (11, yX11_goes, cX11_goes, 3, (some .int), 2, 43) := ⟨TB_at 1047 rfl rfl, rfl, iw_11, by decide +kernel, by decide +kernel, by decide +kernel⟩
set_option maxRecDepth 100000 in
theorem mp_153 : mP (11, yX11_leadsSteps, cX11_leadsSteps, 3, (some .int), 3, 65) := ⟨TB_at 1063 rfl rfl, rfl, iw_11, by decide +kernel, by decide +kernel, by decide +kernel⟩
set_option maxRecDepth 100000 in
theorem mp_154 : mP (11, yX11_leads, cX11_leads, 3, (some .int), 4, 87) := ⟨TB_at 1059 rfl rfl, rfl, iw_11, by decide +kernel, by decide +kernel, by decide +kernel⟩
set_option maxRecDepth 100000 in
theorem mp_155 : mP (11, yX11_showsSteps, cX11_showsSteps, 4, (some .int), 5, 109) := ⟨TB_at 1071 rfl rfl, rfl, iw_11, by decide +kernel, by decide +kernel, by decide +kernel⟩
set_option maxRecDepth 100000 in
theorem mp_156 : mP (11, yX11_showsLoop, cX11_showsLoop, 3, (some .int), 6, 132) := ⟨TB_at 1075 rfl rfl, rfl, iw_11, by decide +kernel, by decide +kernel, by decide +kernel⟩
set_option maxRecDepth 100000 in
theorem mp_157 : mP (11, yX11_shows, cX11_shows, 4, (some .int), 7, 154) := ⟨TB_at 1067 rfl rfl, rfl, iw_11, by decide +kernel, by decide +kernel, by decide +kernel⟩
set_option maxRecDepth 100000 in
theorem mp_158 : mP (11, yX11_act, cX11_act, 4, (some .int), 8, 177) := ⟨TB_at 1043 rfl rfl, rfl, iw_11, by decide +kernel, by decide +kernel, by decide +kernel⟩
set_option maxRecDepth 100000 in
theorem mp_159 : mP (11, yX11_trace, cX11_trace, 2, (some .int), 0, 0) := ⟨TB_at 1079 rfl rfl, rfl, iw_11, by decide +kernel, by decide +kernel, by decide +kernel⟩
set_option maxRecDepth 100000 in
theorem mp_160 : mP (11, yX11_count, cX11_count, 2, (some .int), 0, 0) := ⟨TB_at 1083 rfl rfl, rfl, iw_11, by decide +kernel, by decide +kernel, by decide +kernel⟩
set_option maxRecDepth 100000 in
theorem mp_161 : mP (11, yX11_isSheet, cX11_isSheet, 1, (some .boolean), 0, 0) := ⟨TB_at 1090 rfl rfl, rfl, iw_11, by decide +kernel, by decide +kernel, by decide +kernel⟩
set_option maxRecDepth 100000 in
theorem mp_162 : mP (11, yX11_sheet, cX11_sheet, 5, (some .int), 1, 20) := ⟨TB_at 1087 rfl rfl, rfl, iw_11, by decide +kernel, by decide +kernel, by decide +kernel⟩
set_option maxRecDepth 100000 in
theorem mp_163 : mP (11, yX11_cell, cX11_cell, 4, (some .int), 1, 20) := ⟨TB_at 1094 rfl rfl, rfl, iw_11, by decide +kernel, by decide +kernel, by decide +kernel⟩
set_option maxRecDepth 100000 in
theorem mp_164 : mP (11, yX11_lay, cX11_lay, 9, (some .int), 1, 21) := ⟨TB_at 1098 rfl rfl, rfl, iw_11, by decide +kernel, by decide +kernel, by decide +kernel⟩
set_option maxRecDepth 100000 in
theorem mp_165 : mP (11, yX11_copy, cX11_copy, 7, (some .int), 1, 20) := ⟨TB_at 1104 rfl rfl, rfl, iw_11, by decide +kernel, by decide +kernel, by decide +kernel⟩
set_option maxRecDepth 100000 in
theorem mp_166 : mP (11, yX11_taken, cX11_taken, 4, (some .int), 1, 21) := ⟨TB_at 1108 rfl rfl, rfl, iw_11, by decide +kernel, by decide +kernel, by decide +kernel⟩
set_option maxRecDepth 100000 in
theorem mp_167 : mP (12, yJ6_bitCount_0f7a4, cJ6_bitCount_0f7a4, 1, (some .int), 0, 0) := ⟨TB_at 388 rfl rfl, rfl, iw_12, by decide +kernel, by decide +kernel, by decide +kernel⟩
theorem mpa_0 : ∀ q ∈ mtab_0, mP q := List.forall_mem_cons.mpr ⟨mp_0, List.forall_mem_cons.mpr ⟨mp_1, List.forall_mem_cons.mpr ⟨mp_2, List.forall_mem_cons.mpr ⟨mp_3, List.forall_mem_cons.mpr ⟨mp_4, List.forall_mem_cons.mpr ⟨mp_5, List.forall_mem_cons.mpr ⟨mp_6, List.forall_mem_cons.mpr ⟨mp_7, List.forall_mem_cons.mpr ⟨mp_8, List.forall_mem_cons.mpr ⟨mp_9, List.forall_mem_cons.mpr ⟨mp_10, List.forall_mem_cons.mpr ⟨mp_11, List.forall_mem_cons.mpr ⟨mp_12, List.forall_mem_cons.mpr ⟨mp_13, List.forall_mem_cons.mpr ⟨mp_14, List.forall_mem_cons.mpr ⟨mp_15, List.forall_mem_cons.mpr ⟨mp_16, List.forall_mem_cons.mpr ⟨mp_17, List.forall_mem_cons.mpr ⟨mp_18, List.forall_mem_cons.mpr ⟨mp_19, List.forall_mem_cons.mpr ⟨mp_20, List.forall_mem_cons.mpr ⟨mp_21, List.forall_mem_cons.mpr ⟨mp_22, List.forall_mem_cons.mpr ⟨mp_23, List.forall_mem_cons.mpr ⟨mp_24, List.forall_mem_cons.mpr ⟨mp_25, List.forall_mem_cons.mpr ⟨mp_26, List.forall_mem_cons.mpr ⟨mp_27, List.forall_mem_cons.mpr ⟨mp_28, List.forall_mem_cons.mpr ⟨mp_29, fun _ h => absurd h List.not_mem_nil⟩⟩⟩⟩⟩⟩⟩⟩⟩⟩⟩⟩⟩⟩⟩⟩⟩⟩⟩⟩⟩⟩⟩⟩⟩⟩⟩⟩⟩⟩
theorem mpa_1 : ∀ q ∈ mtab_1, mP q := List.forall_mem_cons.mpr ⟨mp_30, List.forall_mem_cons.mpr ⟨mp_31, List.forall_mem_cons.mpr ⟨mp_32, List.forall_mem_cons.mpr ⟨mp_33, List.forall_mem_cons.mpr ⟨mp_34, List.forall_mem_cons.mpr ⟨mp_35, List.forall_mem_cons.mpr ⟨mp_36, List.forall_mem_cons.mpr ⟨mp_37, List.forall_mem_cons.mpr ⟨mp_38, List.forall_mem_cons.mpr ⟨mp_39, List.forall_mem_cons.mpr ⟨mp_40, List.forall_mem_cons.mpr ⟨mp_41, List.forall_mem_cons.mpr ⟨mp_42, List.forall_mem_cons.mpr ⟨mp_43, List.forall_mem_cons.mpr ⟨mp_44, List.forall_mem_cons.mpr ⟨mp_45, List.forall_mem_cons.mpr ⟨mp_46, List.forall_mem_cons.mpr ⟨mp_47, List.forall_mem_cons.mpr ⟨mp_48, List.forall_mem_cons.mpr ⟨mp_49, List.forall_mem_cons.mpr ⟨mp_50, List.forall_mem_cons.mpr ⟨mp_51, List.forall_mem_cons.mpr ⟨mp_52, List.forall_mem_cons.mpr ⟨mp_53, List.forall_mem_cons.mpr ⟨mp_54, List.forall_mem_cons.mpr ⟨mp_55, List.forall_mem_cons.mpr ⟨mp_56, List.forall_mem_cons.mpr ⟨mp_57, List.forall_mem_cons.mpr ⟨mp_58, List.forall_mem_cons.mpr ⟨mp_59, fun _ h => absurd h List.not_mem_nil⟩⟩⟩⟩⟩⟩⟩⟩⟩⟩⟩⟩⟩⟩⟩⟩⟩⟩⟩⟩⟩⟩⟩⟩⟩⟩⟩⟩⟩⟩
theorem mpa_2 : ∀ q ∈ mtab_2, mP q := List.forall_mem_cons.mpr ⟨mp_60, List.forall_mem_cons.mpr ⟨mp_61, List.forall_mem_cons.mpr ⟨mp_62, List.forall_mem_cons.mpr ⟨mp_63, List.forall_mem_cons.mpr ⟨mp_64, List.forall_mem_cons.mpr ⟨mp_65, List.forall_mem_cons.mpr ⟨mp_66, List.forall_mem_cons.mpr ⟨mp_67, List.forall_mem_cons.mpr ⟨mp_68, List.forall_mem_cons.mpr ⟨mp_69, List.forall_mem_cons.mpr ⟨mp_70, List.forall_mem_cons.mpr ⟨mp_71, List.forall_mem_cons.mpr ⟨mp_72, List.forall_mem_cons.mpr ⟨mp_73, List.forall_mem_cons.mpr ⟨mp_74, List.forall_mem_cons.mpr ⟨mp_75, List.forall_mem_cons.mpr ⟨mp_76, List.forall_mem_cons.mpr ⟨mp_77, List.forall_mem_cons.mpr ⟨mp_78, List.forall_mem_cons.mpr ⟨mp_79, List.forall_mem_cons.mpr ⟨mp_80, List.forall_mem_cons.mpr ⟨mp_81, List.forall_mem_cons.mpr ⟨mp_82, List.forall_mem_cons.mpr ⟨mp_83, List.forall_mem_cons.mpr ⟨mp_84, List.forall_mem_cons.mpr ⟨mp_85, List.forall_mem_cons.mpr ⟨mp_86, List.forall_mem_cons.mpr ⟨mp_87, List.forall_mem_cons.mpr ⟨mp_88, List.forall_mem_cons.mpr ⟨mp_89, fun _ h => absurd h List.not_mem_nil⟩⟩⟩⟩⟩⟩⟩⟩⟩⟩⟩⟩⟩⟩⟩⟩⟩⟩⟩⟩⟩⟩⟩⟩⟩⟩⟩⟩⟩⟩
theorem mpa_3 : ∀ q ∈ mtab_3, mP q := List.forall_mem_cons.mpr ⟨mp_90, List.forall_mem_cons.mpr ⟨mp_91, List.forall_mem_cons.mpr ⟨mp_92, List.forall_mem_cons.mpr ⟨mp_93, List.forall_mem_cons.mpr ⟨mp_94, List.forall_mem_cons.mpr ⟨mp_95, List.forall_mem_cons.mpr ⟨mp_96, List.forall_mem_cons.mpr ⟨mp_97, List.forall_mem_cons.mpr ⟨mp_98, List.forall_mem_cons.mpr ⟨mp_99, List.forall_mem_cons.mpr ⟨mp_100, List.forall_mem_cons.mpr ⟨mp_101, List.forall_mem_cons.mpr ⟨mp_102, List.forall_mem_cons.mpr ⟨mp_103, List.forall_mem_cons.mpr ⟨mp_104, List.forall_mem_cons.mpr ⟨mp_105, List.forall_mem_cons.mpr ⟨mp_106, List.forall_mem_cons.mpr ⟨mp_107, List.forall_mem_cons.mpr ⟨mp_108, List.forall_mem_cons.mpr ⟨mp_109, List.forall_mem_cons.mpr ⟨mp_110, List.forall_mem_cons.mpr ⟨mp_111, List.forall_mem_cons.mpr ⟨mp_112, List.forall_mem_cons.mpr ⟨mp_113, List.forall_mem_cons.mpr ⟨mp_114, List.forall_mem_cons.mpr ⟨mp_115, List.forall_mem_cons.mpr ⟨mp_116, List.forall_mem_cons.mpr ⟨mp_117, List.forall_mem_cons.mpr ⟨mp_118, List.forall_mem_cons.mpr ⟨mp_119, fun _ h => absurd h List.not_mem_nil⟩⟩⟩⟩⟩⟩⟩⟩⟩⟩⟩⟩⟩⟩⟩⟩⟩⟩⟩⟩⟩⟩⟩⟩⟩⟩⟩⟩⟩⟩
theorem mpa_4 : ∀ q ∈ mtab_4, mP q := List.forall_mem_cons.mpr ⟨mp_120, List.forall_mem_cons.mpr ⟨mp_121, List.forall_mem_cons.mpr ⟨mp_122, List.forall_mem_cons.mpr ⟨mp_123, List.forall_mem_cons.mpr ⟨mp_124, List.forall_mem_cons.mpr ⟨mp_125, List.forall_mem_cons.mpr ⟨mp_126, List.forall_mem_cons.mpr ⟨mp_127, List.forall_mem_cons.mpr ⟨mp_128, List.forall_mem_cons.mpr ⟨mp_129, List.forall_mem_cons.mpr ⟨mp_130, List.forall_mem_cons.mpr ⟨mp_131, List.forall_mem_cons.mpr ⟨mp_132, List.forall_mem_cons.mpr ⟨mp_133, List.forall_mem_cons.mpr ⟨mp_134, List.forall_mem_cons.mpr ⟨mp_135, List.forall_mem_cons.mpr ⟨mp_136, List.forall_mem_cons.mpr ⟨mp_137, List.forall_mem_cons.mpr ⟨mp_138, List.forall_mem_cons.mpr ⟨mp_139, List.forall_mem_cons.mpr ⟨mp_140, List.forall_mem_cons.mpr ⟨mp_141, List.forall_mem_cons.mpr ⟨mp_142, List.forall_mem_cons.mpr ⟨mp_143, List.forall_mem_cons.mpr ⟨mp_144, List.forall_mem_cons.mpr ⟨mp_145, List.forall_mem_cons.mpr ⟨mp_146, List.forall_mem_cons.mpr ⟨mp_147, List.forall_mem_cons.mpr ⟨mp_148, List.forall_mem_cons.mpr ⟨mp_149, fun _ h => absurd h List.not_mem_nil⟩⟩⟩⟩⟩⟩⟩⟩⟩⟩⟩⟩⟩⟩⟩⟩⟩⟩⟩⟩⟩⟩⟩⟩⟩⟩⟩⟩⟩⟩
theorem mpa_5 : ∀ q ∈ mtab_5, mP q := List.forall_mem_cons.mpr ⟨mp_150, List.forall_mem_cons.mpr ⟨mp_151, List.forall_mem_cons.mpr ⟨mp_152, List.forall_mem_cons.mpr ⟨mp_153, List.forall_mem_cons.mpr ⟨mp_154, List.forall_mem_cons.mpr ⟨mp_155, List.forall_mem_cons.mpr ⟨mp_156, List.forall_mem_cons.mpr ⟨mp_157, List.forall_mem_cons.mpr ⟨mp_158, List.forall_mem_cons.mpr ⟨mp_159, List.forall_mem_cons.mpr ⟨mp_160, List.forall_mem_cons.mpr ⟨mp_161, List.forall_mem_cons.mpr ⟨mp_162, List.forall_mem_cons.mpr ⟨mp_163, List.forall_mem_cons.mpr ⟨mp_164, List.forall_mem_cons.mpr ⟨mp_165, List.forall_mem_cons.mpr ⟨mp_166, List.forall_mem_cons.mpr ⟨mp_167, fun _ h => absurd h List.not_mem_nil⟩⟩⟩⟩⟩⟩⟩⟩⟩⟩⟩⟩⟩⟩⟩⟩⟩⟩
theorem mpa : ∀ q ∈ mtab, mP q := List.forall_mem_append.mpr ⟨mpa_0, List.forall_mem_append.mpr ⟨mpa_1, List.forall_mem_append.mpr ⟨mpa_2, List.forall_mem_append.mpr ⟨mpa_3, List.forall_mem_append.mpr ⟨mpa_4, mpa_5⟩⟩⟩⟩⟩
def clN (c : Nat) : String := if c = 23 then "[[J" else match vwCl[c]? with | some r => r.1 | none => ""
def fOk1 (o idx s ty : Nat) (fin : Bool) (ref : String) (wd sf c : Nat) : Bool := match vwCl[c]? with
  | some r => decide (s < r.2.2) && isT wd (.fieldLink (ow o) idx ref (r.2.1 s).2.1 (r.2.1 s).2.2.1) && ((ref == (r.2.1 s).1) || isT sf (.sameField ref (r.2.1 s).1 (r.2.1 s).2.1 (r.2.1 s).2.2.1)) && (tyc c s == ty) && ((r.2.1 s).2.2.2 == fin) && (!fin || ref == (r.2.1 s).1 || sf != 0)
  | none => false
def fOk (o : Nat) (q : Nat × Nat × Nat × Nat × Bool × String × Nat × Nat) : Bool := (fam q.2.1).all (fOk1 o q.1 q.2.2.1 q.2.2.2.1 q.2.2.2.2.1 q.2.2.2.2.2.1 q.2.2.2.2.2.2.1 q.2.2.2.2.2.2.2)
set_option maxRecDepth 100000 in
theorem ftb_ok_0 : (ftb 0).all (fOk 0) = true := by decide +kernel
set_option maxRecDepth 100000 in
theorem ftb_ok_1 : (ftb 1).all (fOk 1) = true := by decide +kernel
set_option maxRecDepth 100000 in
theorem ftb_ok_2 : (ftb 2).all (fOk 2) = true := by decide +kernel
set_option maxRecDepth 100000 in
theorem ftb_ok_3 : (ftb 3).all (fOk 3) = true := by decide +kernel
set_option maxRecDepth 100000 in
theorem ftb_ok_4 : (ftb 4).all (fOk 4) = true := by decide +kernel
set_option maxRecDepth 100000 in
theorem ftb_ok_5 : (ftb 5).all (fOk 5) = true := by decide +kernel
set_option maxRecDepth 100000 in
theorem ftb_ok_6 : (ftb 6).all (fOk 6) = true := by decide +kernel
set_option maxRecDepth 100000 in
theorem ftb_ok_7 : (ftb 7).all (fOk 7) = true := by decide +kernel
set_option maxRecDepth 100000 in
theorem ftb_ok_8 : (ftb 8).all (fOk 8) = true := by decide +kernel
set_option maxRecDepth 100000 in
theorem ftb_ok_9 : (ftb 9).all (fOk 9) = true := by decide +kernel
set_option maxRecDepth 100000 in
theorem ftb_ok_10 : (ftb 10).all (fOk 10) = true := by decide +kernel
set_option maxRecDepth 100000 in
theorem ftb_ok_11 : (ftb 11).all (fOk 11) = true := by decide +kernel
set_option maxRecDepth 100000 in
theorem ftb_ok_12 : (ftb 12).all (fOk 12) = true := by decide +kernel
theorem ftb_ok : ∀ o : Nat, (ftb o).all (fOk o) = true
  | 0 => ftb_ok_0
  | 1 => ftb_ok_1
  | 2 => ftb_ok_2
  | 3 => ftb_ok_3
  | 4 => ftb_ok_4
  | 5 => ftb_ok_5
  | 6 => ftb_ok_6
  | 7 => ftb_ok_7
  | 8 => ftb_ok_8
  | 9 => ftb_ok_9
  | 10 => ftb_ok_10
  | 11 => ftb_ok_11
  | 12 => ftb_ok_12
  | _ + 13 => rfl
def cOk (o : Nat) (q : Nat × Nat × Nat) : Bool := isT q.2.2 (.classLink (ow o) q.1 (clN q.2.1))
set_option maxRecDepth 100000 in
theorem ctb_ok_0 : (ctb 0).all (cOk 0) = true := by decide +kernel
set_option maxRecDepth 100000 in
theorem ctb_ok_1 : (ctb 1).all (cOk 1) = true := by decide +kernel
set_option maxRecDepth 100000 in
theorem ctb_ok_2 : (ctb 2).all (cOk 2) = true := by decide +kernel
set_option maxRecDepth 100000 in
theorem ctb_ok_3 : (ctb 3).all (cOk 3) = true := by decide +kernel
set_option maxRecDepth 100000 in
theorem ctb_ok_4 : (ctb 4).all (cOk 4) = true := by decide +kernel
set_option maxRecDepth 100000 in
theorem ctb_ok_5 : (ctb 5).all (cOk 5) = true := by decide +kernel
set_option maxRecDepth 100000 in
theorem ctb_ok_6 : (ctb 6).all (cOk 6) = true := by decide +kernel
set_option maxRecDepth 100000 in
theorem ctb_ok_7 : (ctb 7).all (cOk 7) = true := by decide +kernel
set_option maxRecDepth 100000 in
theorem ctb_ok_8 : (ctb 8).all (cOk 8) = true := by decide +kernel
set_option maxRecDepth 100000 in
theorem ctb_ok_9 : (ctb 9).all (cOk 9) = true := by decide +kernel
set_option maxRecDepth 100000 in
theorem ctb_ok_10 : (ctb 10).all (cOk 10) = true := by decide +kernel
set_option maxRecDepth 100000 in
theorem ctb_ok_11 : (ctb 11).all (cOk 11) = true := by decide +kernel
set_option maxRecDepth 100000 in
theorem ctb_ok_12 : (ctb 12).all (cOk 12) = true := by decide +kernel
theorem ctb_ok : ∀ o : Nat, (ctb o).all (cOk o) = true
  | 0 => ctb_ok_0
  | 1 => ctb_ok_1
  | 2 => ctb_ok_2
  | 3 => ctb_ok_3
  | 4 => ctb_ok_4
  | 5 => ctb_ok_5
  | 6 => ctb_ok_6
  | 7 => ctb_ok_7
  | 8 => ctb_ok_8
  | 9 => ctb_ok_9
  | 10 => ctb_ok_10
  | 11 => ctb_ok_11
  | 12 => ctb_ok_12
  | _ + 13 => rfl
def lOk (o : Nat) (q : Nat × Int64 × Nat) : Bool := isT q.2.2 (.constantLong (ow o) q.1 q.2.1)
set_option maxRecDepth 100000 in
theorem ltb_ok_0 : (ltb 0).all (lOk 0) = true := by decide +kernel
set_option maxRecDepth 100000 in
theorem ltb_ok_1 : (ltb 1).all (lOk 1) = true := by decide +kernel
set_option maxRecDepth 100000 in
theorem ltb_ok_2 : (ltb 2).all (lOk 2) = true := by decide +kernel
set_option maxRecDepth 100000 in
theorem ltb_ok_3 : (ltb 3).all (lOk 3) = true := by decide +kernel
set_option maxRecDepth 100000 in
theorem ltb_ok_4 : (ltb 4).all (lOk 4) = true := by decide +kernel
set_option maxRecDepth 100000 in
theorem ltb_ok_5 : (ltb 5).all (lOk 5) = true := by decide +kernel
set_option maxRecDepth 100000 in
theorem ltb_ok_6 : (ltb 6).all (lOk 6) = true := by decide +kernel
set_option maxRecDepth 100000 in
theorem ltb_ok_7 : (ltb 7).all (lOk 7) = true := by decide +kernel
set_option maxRecDepth 100000 in
theorem ltb_ok_8 : (ltb 8).all (lOk 8) = true := by decide +kernel
set_option maxRecDepth 100000 in
theorem ltb_ok_9 : (ltb 9).all (lOk 9) = true := by decide +kernel
set_option maxRecDepth 100000 in
theorem ltb_ok_10 : (ltb 10).all (lOk 10) = true := by decide +kernel
set_option maxRecDepth 100000 in
theorem ltb_ok_11 : (ltb 11).all (lOk 11) = true := by decide +kernel
set_option maxRecDepth 100000 in
theorem ltb_ok_12 : (ltb 12).all (lOk 12) = true := by decide +kernel
theorem ltb_ok : ∀ o : Nat, (ltb o).all (lOk o) = true
  | 0 => ltb_ok_0
  | 1 => ltb_ok_1
  | 2 => ltb_ok_2
  | 3 => ltb_ok_3
  | 4 => ltb_ok_4
  | 5 => ltb_ok_5
  | 6 => ltb_ok_6
  | 7 => ltb_ok_7
  | 8 => ltb_ok_8
  | 9 => ltb_ok_9
  | 10 => ltb_ok_10
  | 11 => ltb_ok_11
  | 12 => ltb_ok_12
  | _ + 13 => rfl
def iOk (o : Nat) (q : Nat × Int32 × Nat) : Bool := isT q.2.2 (.constant (ow o) q.1 q.2.1)
set_option maxRecDepth 100000 in
theorem itb_ok_0 : (itb 0).all (iOk 0) = true := by decide +kernel
set_option maxRecDepth 100000 in
theorem itb_ok_1 : (itb 1).all (iOk 1) = true := by decide +kernel
set_option maxRecDepth 100000 in
theorem itb_ok_2 : (itb 2).all (iOk 2) = true := by decide +kernel
set_option maxRecDepth 100000 in
theorem itb_ok_3 : (itb 3).all (iOk 3) = true := by decide +kernel
set_option maxRecDepth 100000 in
theorem itb_ok_4 : (itb 4).all (iOk 4) = true := by decide +kernel
set_option maxRecDepth 100000 in
theorem itb_ok_5 : (itb 5).all (iOk 5) = true := by decide +kernel
set_option maxRecDepth 100000 in
theorem itb_ok_6 : (itb 6).all (iOk 6) = true := by decide +kernel
set_option maxRecDepth 100000 in
theorem itb_ok_7 : (itb 7).all (iOk 7) = true := by decide +kernel
set_option maxRecDepth 100000 in
theorem itb_ok_8 : (itb 8).all (iOk 8) = true := by decide +kernel
set_option maxRecDepth 100000 in
theorem itb_ok_9 : (itb 9).all (iOk 9) = true := by decide +kernel
set_option maxRecDepth 100000 in
theorem itb_ok_10 : (itb 10).all (iOk 10) = true := by decide +kernel
set_option maxRecDepth 100000 in
theorem itb_ok_11 : (itb 11).all (iOk 11) = true := by decide +kernel
set_option maxRecDepth 100000 in
theorem itb_ok_12 : (itb 12).all (iOk 12) = true := by decide +kernel
theorem itb_ok : ∀ o : Nat, (itb o).all (iOk o) = true
  | 0 => itb_ok_0
  | 1 => itb_ok_1
  | 2 => itb_ok_2
  | 3 => itb_ok_3
  | 4 => itb_ok_4
  | 5 => itb_ok_5
  | 6 => itb_ok_6
  | 7 => itb_ok_7
  | 8 => itb_ok_8
  | 9 => itb_ok_9
  | 10 => itb_ok_10
  | 11 => itb_ok_11
  | 12 => itb_ok_12
  | _ + 13 => rfl
def nwN : List Cond := [.methodLinkNest "SteerBench" 31 ⟨"SteerBench$Trace", "<init>", "()V"⟩ "SteerBench", .methodLinkNest "SteerBench" 44 ⟨"SteerBench$Look", "<init>", "()V"⟩ "SteerBench", .methodLinkNest "SteerBench" 54 ⟨"SteerBench$Energy", "<init>", "()V"⟩ "SteerBench", .methodLinkNest "SteerBench" 61 ⟨"SteerBench$Fraction", "<init>", "()V"⟩ "SteerBench", .methodLinkNest "SteerBench$Look" 104 ⟨"SteerBench", "power", "(II)J"⟩ "SteerBench"]
def nwC : List (String × String) := [("SteerBench$Part", "SteerBench$Loop"), ("SteerBench$Flow", "SteerBench$Steps"), ("SteerBench$Loop", "SteerBench$Steps"), ("SteerBench$Part", "SteerBench$Steps")]
def ncL : List (String × String) := [("SteerBench$Steps", "SteerBench$Loop"), ("SteerBench$Flow", "SteerBench$Loop"), ("SteerBench$Steps", "SteerBench$Flow"), ("SteerBench$Loop", "SteerBench$Flow"), ("SteerBench$Part", "SteerBench$Flow"), ("SteerBench$Steps", "SteerBench$Part"), ("SteerBench$Flow", "SteerBench$Part"), ("SteerBench$Loop", "SteerBench$Part")]
def npr (d : String) : Option Nat := (parseMethodDescriptor d).map (fun d => d.parameters.length)
def vOk (o : Nat) (q : Nat × Nat × Nat × MethodName × String × List (Nat × Nat × List Nat) × List Nat) : Bool := match q with
  | (idx, kd, na, x, owner, al, ws) =>
    if kd = 0 then isT (ws.getD 0 0) (.methodLink (ow o) idx x) && isT (ws.getD 1 0) (.static x) && al.all (fun a => decide (mNm a.2.1 = x)) && decide (npr x.desc = some na)
    else if kd = 1 then isT (ws.getD 0 0) (.methodLink (ow o) idx x) && isT (ws.getD 1 0) (.instanceMethod x) && al.all (fun a => decide (mNm a.2.1 = x) && decide (mRt a.2.1 = none)) && decide (npr x.desc = some na) && (x.name == "<init>")
    else if kd = 2 then isT (ws.getD 0 0) (.methodLink (ow o) idx x) && isT (ws.getD 1 0) (.instanceMethod x) && isT (ws.getD 2 0) (.selects x.cls x x) && al.all (fun a => decide (mNm a.2.1 = x) && (clN (a.1 - 1) == x.cls) && decide (0 < a.1) && decide (a.1 < 12)) && decide (npr x.desc = some na)
    else if kd = 3 then isT (ws.getD 0 0) (.methodLink (ow o) idx x) && isT (ws.getD 1 0) (.sameMethod x.cls owner x.name x.desc) && isT (ws.getD 2 0) (.instanceMethod ⟨owner, x.name, x.desc⟩) && decide (mNm (ws.getD 3 0) = ⟨owner, x.name, x.desc⟩) && decide (ws.getD 3 0 < 168) && al.all (fun a => isT (a.2.2.getD 0 0) (.selects (clN (a.1 - 1)) x (mNm a.2.1)) && isT (a.2.2.getD 1 0) (.instanceMethod (mNm a.2.1)) && decide (0 < a.1) && decide (a.1 < 12)) && decide (npr x.desc = some na) && (owner != "java/lang/invoke/MethodHandle") && (owner != "java/lang/invoke/VarHandle")
    else if kd = 4 then isT (ws.getD 0 0) (.methodLink (ow o) idx x) && isT (ws.getD 1 0) (.sameMethod x.cls x.cls x.name x.desc) && isT (ws.getD 2 0) (.superclass (ow o) x.cls) && isT (ws.getD 3 0) (.instanceMethod x) && al.all (fun a => decide (mNm a.2.1 = x)) && decide (npr x.desc = some na) && (x.name != "<init>")
    else if kd = 5 then isT (ws.getD 0 0) (.methodLink (ow o) idx Lib.objectInit) && isT (ws.getD 1 0) (.instanceMethod Lib.objectInit) && isT (ws.getD 2 0) (.code Lib.objectInit ⟨#[0xb1]⟩ 1 none) && decide (na = 0)
    else if kd = 6 then isT (ws.getD 0 0) (.methodLink (ow o) idx arraycopyName) && isT (ws.getD 1 0) (.native arraycopyName) && isT (ws.getD 2 0) (.static arraycopyName) && isT (ws.getD 3 0) (.initialized "java/lang/System")
    else if kd = 7 then decide (Cond.methodLinkNest (ow o) idx x "SteerBench" ∈ nwN) && isT (ws.getD 1 0) (.static x) && al.all (fun a => decide (mNm a.2.1 = x)) && decide (npr x.desc = some na)
    else if kd = 8 then decide (Cond.methodLinkNest (ow o) idx x "SteerBench" ∈ nwN) && isT (ws.getD 1 0) (.instanceMethod x) && al.all (fun a => decide (mNm a.2.1 = x) && decide (mRt a.2.1 = none)) && decide (npr x.desc = some na) && (x.name == "<init>")
    else if kd = 9 then isT (ws.getD 0 0) (.methodLink (ow o) idx x) && isT (ws.getD 1 0) (.sameMethod x.cls owner x.name x.desc) && isT (ws.getD 2 0) (.superclass (ow o) x.cls) && isT (ws.getD 3 0) (.superclass x.cls owner) && isT (ws.getD 4 0) (.instanceMethod ⟨owner, x.name, x.desc⟩) && al.all (fun a => decide (mNm a.2.1 = ⟨owner, x.name, x.desc⟩)) && decide (npr x.desc = some na) && (x.name != "<init>")
    else if kd = 10 then isT (ws.getD 0 0) (.methodLink (ow o) idx Lib.Math.max.name) && isT (ws.getD 1 0) (.static Lib.Math.max.name) && isT (ws.getD 2 0) (.initialized "java/lang/Math") && isT (ws.getD 3 0) (.code Lib.Math.max.name Lib.Math.max.code 2 (some .int))
    else if kd = 11 then isT (ws.getD 0 0) (.methodLink (ow o) idx Lib.Math.min.name) && isT (ws.getD 1 0) (.static Lib.Math.min.name) && isT (ws.getD 2 0) (.initialized "java/lang/Math") && isT (ws.getD 3 0) (.code Lib.Math.min.name Lib.Math.min.code 2 (some .int))
    else if kd = 12 then isT (ws.getD 0 0) (.methodLink (ow o) idx Lib.MathLoose.abs_long.x) && isT (ws.getD 1 0) (.static Lib.MathLoose.abs_long.x) && isT (ws.getD 2 0) (.initialized "java/lang/Math") && isT (ws.getD 3 0) (.code Lib.MathLoose.abs_long.x Lib.MathLoose.abs_long.code 2 (some .long))
    else false
set_option maxRecDepth 100000 in
theorem vtb_ok_0 : (vtb 0).all (vOk 0) = true := by decide +kernel
set_option maxRecDepth 100000 in
theorem vtb_ok_1 : (vtb 1).all (vOk 1) = true := by decide +kernel
set_option maxRecDepth 100000 in
theorem vtb_ok_2 : (vtb 2).all (vOk 2) = true := by decide +kernel
set_option maxRecDepth 100000 in
theorem vtb_ok_3 : (vtb 3).all (vOk 3) = true := by decide +kernel
set_option maxRecDepth 100000 in
theorem vtb_ok_4 : (vtb 4).all (vOk 4) = true := by decide +kernel
set_option maxRecDepth 100000 in
theorem vtb_ok_5 : (vtb 5).all (vOk 5) = true := by decide +kernel
set_option maxRecDepth 100000 in
theorem vtb_ok_6 : (vtb 6).all (vOk 6) = true := by decide +kernel
set_option maxRecDepth 100000 in
theorem vtb_ok_7 : (vtb 7).all (vOk 7) = true := by decide +kernel
set_option maxRecDepth 100000 in
theorem vtb_ok_8 : (vtb 8).all (vOk 8) = true := by decide +kernel
set_option maxRecDepth 100000 in
theorem vtb_ok_9 : (vtb 9).all (vOk 9) = true := by decide +kernel
set_option maxRecDepth 100000 in
theorem vtb_ok_10 : (vtb 10).all (vOk 10) = true := by decide +kernel
set_option maxRecDepth 100000 in
theorem vtb_ok_11 : (vtb 11).all (vOk 11) = true := by decide +kernel
set_option maxRecDepth 100000 in
theorem vtb_ok_12 : (vtb 12).all (vOk 12) = true := by decide +kernel
theorem vtb_ok : ∀ o : Nat, (vtb o).all (vOk o) = true
  | 0 => vtb_ok_0
  | 1 => vtb_ok_1
  | 2 => vtb_ok_2
  | 3 => vtb_ok_3
  | 4 => vtb_ok_4
  | 5 => vtb_ok_5
  | 6 => vtb_ok_6
  | 7 => vtb_ok_7
  | 8 => vtb_ok_8
  | 9 => vtb_ok_9
  | 10 => vtb_ok_10
  | 11 => vtb_ok_11
  | 12 => vtb_ok_12
  | _ + 13 => rfl
def clP (c : Nat) (r : vw_C) : Prop := (∀ w ∈ u_ws r.1 r.2.1 r.2.2, w ∈ TB) ∧ (∀ k, k < r.2.2 → parseFieldDescriptor (r.2.1 k).2.2.1 = some ((tyF.getD c (fun _ => .int)) k)) ∧ (∀ a, a < r.2.2 → ∀ b, b < r.2.2 → a ≠ b → (r.2.1 a).2.1 ≠ (r.2.1 b).2.1) ∧ Cond.instantiable r.1 r.2.2 ∈ TB ∧ Cond.initialized r.1 ∈ TB
theorem zip_all : ∀ (is : List Nat) (ws : List Cond), is.length = ws.length → (is.zip ws).all (fun q => isT q.1 q.2) = true → ∀ w ∈ ws, w ∈ TB
  | [], [], _, _, w, h => by cases h
  | i :: is, v :: ws, hl, ha, w, h => by
    simp only [List.zip_cons_cons, List.all_cons, Bool.and_eq_true] at ha
    rcases List.mem_cons.mp h with h | h
    · rw [h]; exact isT_TB ha.1
    · exact zip_all is ws (by simpa using hl) ha.2 w h
set_option maxRecDepth 100000 in
theorem clp_0 : clP 0 (RX0, TX0, 6) := ⟨zip_all [221, 223, 225, 227, 229, 231] _ rfl (by decide +kernel), tyX0_ok, nmX0, TB_at 208 (by decide +kernel) rfl, TB_at 57 (by decide +kernel) rfl⟩
set_option maxRecDepth 100000 in
theorem clp_1 : clP 1 (RX1, TX1, 7) := ⟨zip_all [300, 301, 302, 303, 304, 305, 306] _ rfl (by decide +kernel), tyX1_ok, nmX1, TB_at 295 (by decide +kernel) rfl, TB_at 60 (by decide +kernel) rfl⟩
set_option maxRecDepth 100000 in
theorem clp_2 : clP 2 (RX2, TX2, 2) := ⟨zip_all [244, 246] _ rfl (by decide +kernel), tyX2_ok, nmX2, TB_at 235 (by decide +kernel) rfl, TB_at 58 (by decide +kernel) rfl⟩
set_option maxRecDepth 100000 in
theorem clp_3 : clP 3 (RX3, TX3, 9) := ⟨zip_all [188, 190, 192, 194, 196, 198, 200, 202, 204] _ rfl (by decide +kernel), tyX3_ok, nmX3, TB_at 106 (by decide +kernel) rfl, TB_at 55 (by decide +kernel) rfl⟩
set_option maxRecDepth 100000 in
theorem clp_4 : clP 4 (RX4, TX4, 7) := ⟨zip_all [346, 347, 348, 349, 350, 351, 352] _ rfl (by decide +kernel), tyX4_ok, nmX4, TB_at 341 (by decide +kernel) rfl, TB_at 61 (by decide +kernel) rfl⟩
set_option maxRecDepth 100000 in
theorem clp_5 : clP 5 (RX6, TX6, 7) := ⟨zip_all [396, 397, 398, 399, 400, 401, 402] _ rfl (by decide +kernel), tyX6_ok, nmX6, TB_at 385 (by decide +kernel) rfl, TB_at 63 (by decide +kernel) rfl⟩
set_option maxRecDepth 100000 in
theorem clp_6 : clP 6 (RX7, TX7, 2) := ⟨zip_all [720, 722] _ rfl (by decide +kernel), tyX7_ok, nmX7, TB_at 710 (by decide +kernel) rfl, TB_at 67 (by decide +kernel) rfl⟩
set_option maxRecDepth 100000 in
theorem clp_7 : clP 7 (RX8, TX8, 7) := ⟨zip_all [161, 163, 165, 167, 169, 171, 173] _ rfl (by decide +kernel), tyX8_ok, nmX8, TB_at 112 (by decide +kernel) rfl, TB_at 56 (by decide +kernel) rfl⟩
set_option maxRecDepth 100000 in
theorem clp_8 : clP 8 (RX9, TX9, 2) := ⟨zip_all [96, 98] _ rfl (by decide +kernel), tyX9_ok, nmX9, TB_at 79 (by decide +kernel) rfl, TB_at 54 (by decide +kernel) rfl⟩
set_option maxRecDepth 100000 in
theorem clp_9 : clP 9 (RX10, TX10, 11) := ⟨zip_all [260, 262, 264, 266, 268, 270, 272, 274, 276, 278, 280] _ rfl (by decide +kernel), tyX10_ok, nmX10, TB_at 69 (by decide +kernel) rfl, TB_at 53 (by decide +kernel) rfl⟩
set_option maxRecDepth 100000 in
theorem clp_10 : clP 10 (RX11, TX11, 30) := ⟨zip_all [787, 789, 791, 793, 795, 797, 799, 801, 803, 805, 807, 809, 811, 813, 815, 817, 819, 821, 823, 825, 827, 829, 831, 833, 835, 837, 839, 841, 843, 845] _ rfl (by decide +kernel), tyX11_ok, nmX11, TB_at 752 (by decide +kernel) rfl, TB_at 59 (by decide +kernel) rfl⟩
theorem clp : ∀ (c : Nat) (r : vw_C), vwCl[c]? = some r → clP c r
  | 0, _, h => by cases h; exact clp_0
  | 1, _, h => by cases h; exact clp_1
  | 2, _, h => by cases h; exact clp_2
  | 3, _, h => by cases h; exact clp_3
  | 4, _, h => by cases h; exact clp_4
  | 5, _, h => by cases h; exact clp_5
  | 6, _, h => by cases h; exact clp_6
  | 7, _, h => by cases h; exact clp_7
  | 8, _, h => by cases h; exact clp_8
  | 9, _, h => by cases h; exact clp_9
  | 10, _, h => by cases h; exact clp_10
  | _ + 11, _, h => by simp [vwCl] at h
end
section
/-! an abstract machine: cells by numbers (0 is null), fields and elements as functions; a step, a run, what a run gives -/
abbrev Hp : Type := Nat × Nat × (Nat → Nat) × (Nat → Nat) × (Nat → Nat → Int32) × (Nat → Nat → Int64) × (Nat → Nat → Nat)
abbrev Lo : Type := List (Option Value)
abbrev Ac : Type := (Nat × Lo × List Value × Hp) ⊕ (Option Value ⊕ (Nat × Lo × Nat × List Value))
def ix (j : Int32) : Nat := j.toNatClampNeg
def inb (j : Int32) (n : Nat) : Bool := decide (¬ j < 0) && decide (ix j < n)
def u2 {α : Type} (f : Nat → Nat → α) (i k : Nat) (v : α) : Nat → Nat → α := va_up f i (va_up (f i) k v)
def ldl (ls : Lo) (i : Nat) : Option Value := match ls[i]? with | some (some v) => some v | _ => none
def clr (v : Option Value) : Option Value := match v with | some (.long _) => none | some (.double _) => none | v => v
def st1 : Lo → Nat → Value → Option Lo
  | _ :: t, 0, v => some (some v :: t)
  | a :: _ :: t, 1, v => some (clr a :: some v :: t)
  | a :: t, i + 2, v => (st1 t (i + 1) v).map (a :: ·)
  | _, _, _ => none
def st2 : Lo → Nat → Value → Option Lo
  | _ :: _ :: t, 0, v => some (some v :: none :: t)
  | a :: _ :: _ :: t, 1, v => some (clr a :: some v :: none :: t)
  | a :: t, i + 2, v => (st2 t (i + 1) v).map (a :: ·)
  | _, _, _ => none
def go (pc : Nat) (ls : Lo) (st : List Value) (h : Hp) : Option Ac := some (.inl (pc, ls, st, h))
def o1 (len e : Nat) (x : Option Ac) : Option Ac := if len = e then x else none
def lay : List Value → Lo
  | [] => []
  | v :: t => if v.category = 2 then some v :: none :: lay t else some v :: lay t
def pad (n : Nat) (l : Lo) : Lo := l ++ List.replicate (n - l.length) none
def wsum (st : List Value) : Nat := (st.map fun v => v.category).sum
/-- a jump -/
def jmp (pc : Nat) (off : Int) (ls : Lo) (st : List Value) (h : Hp) (c : Bool) (nx : Nat) : Option Ac :=
  if 0 ≤ (pc : Int) + off then go (if c then ((pc : Int) + off).toNat else nx) ls st h else none
def cmpI (c : ClassFile.Cond) (x y : Int32) : Bool := match c with
  | .eq => decide (x = y) | .ne => decide (¬ x = y) | .lt => decide (x < y) | .ge => decide (y ≤ x) | .gt => decide (y < x) | .le => decide (x ≤ y)
def x_lo (pc : Nat) (ls : Lo) (st : List Value) (h : Hp) (i : Nat) (ty : Nat) : Option Ac := match ldl ls i with
  | some (.int x) => if ty = 0 then go pc ls (.int x :: st) h else none
  | some (.long x) => if ty = 1 then go pc ls (.long x :: st) h else none
  | some (.ref x) => if ty = 2 then go pc ls (.ref x :: st) h else none
  | _ => none
def x_st (pc : Nat) (ls : Lo) (st : List Value) (h : Hp) (i : Nat) (ty : Nat) : Option Ac := match st with
  | .int x :: r => if ty = 0 then (st1 ls i (.int x)).bind (fun l => go pc l r h) else none
  | .long x :: r => if ty = 1 then (st2 ls i (.long x)).bind (fun l => go pc l r h) else none
  | .ref x :: r => if ty = 2 then (st1 ls i (.ref x)).bind (fun l => go pc l r h) else none
  | _ => none
def x_ii (f : Int32 → Int32 → Int32) (z : Bool) (pc : Nat) (ls : Lo) (st : List Value) (h : Hp) : Option Ac := match st with
  | .int y :: .int x :: r => if z = true ∧ y = 0 then none else go pc ls (.int (f x y) :: r) h
  | _ => none
def x_ll (f : Int64 → Int64 → Int64) (z : Bool) (pc : Nat) (ls : Lo) (st : List Value) (h : Hp) : Option Ac := match st with
  | .long y :: .long x :: r => if z = true ∧ y = 0 then none else go pc ls (.long (f x y) :: r) h
  | _ => none
def x_u (pc : Nat) (ls : Lo) (st : List Value) (h : Hp) (fi : Int32 → Option Value) (fl : Int64 → Option Value) : Option Ac := match st with
  | .int x :: r => (fi x).bind (fun v => go pc ls (v :: r) h)
  | .long x :: r => (fl x).bind (fun v => go pc ls (v :: r) h)
  | _ => none
def fva (ty : Nat) (h : Hp) (i k : Nat) : Value := if ty = 1 then .long (h.2.2.2.2.2.1 i k) else if ty = 2 then .ref (h.2.2.2.2.2.2 i k) else .int (h.2.2.2.2.1 i k)
def x_get (k pc : Nat) (ls : Lo) (st : List Value) (h : Hp) (idx : Nat) : Option Ac := match st with
  | .ref i :: r => (match look (ftb (mOw k)) idx with
    | some (g, s, ty, _) => if inG g (h.2.2.1 i) = true then go pc ls (fva ty h i s :: r) h else none
    | none => none)
  | _ => none
def isIni (k : Nat) : Bool := (mNm k).name == "<init>"
def x_put (k pc : Nat) (ls : Lo) (st : List Value) (h : Hp) (idx : Nat) : Option Ac := match st with
  | v :: .ref i :: r => (match look (ftb (mOw k)) idx with
    | some (g, s, ty, fin, ref, q) => if inG g (h.2.2.1 i) = true ∧ (fin = false ∨ (isIni k = true ∧ ref = ow (mOw k) ∧ q.2 = 0)) then
        (match v with
        | .int x => if ty = 0 ∨ (ty = 3 ∧ (x = 0 ∨ x = 1)) then go pc ls r (h.1, h.2.1, h.2.2.1, h.2.2.2.1, u2 h.2.2.2.2.1 i s x, h.2.2.2.2.2.1, h.2.2.2.2.2.2) else none
        | .long x => if ty = 1 then go pc ls r (h.1, h.2.1, h.2.2.1, h.2.2.2.1, h.2.2.2.2.1, u2 h.2.2.2.2.2.1 i s x, h.2.2.2.2.2.2) else none
        | .ref x => if ty = 2 then go pc ls r (h.1, h.2.1, h.2.2.1, h.2.2.2.1, h.2.2.2.2.1, h.2.2.2.2.2.1, u2 h.2.2.2.2.2.2 i s x) else none
        | _ => none) else none
    | none => none)
  | _ => none
def x_ald (pc : Nat) (ls : Lo) (st : List Value) (h : Hp) (ty : Nat) : Option Ac := match st with
  | .int j :: .ref i :: r => if inb j (h.2.2.2.1 i) = true then
      (if ty = 0 then (if h.2.2.1 i = 21 then go pc ls (.int (h.2.2.2.2.1 i (ix j)) :: r) h else none)
       else if ty = 1 then (if h.2.2.1 i = 22 then go pc ls (.long (h.2.2.2.2.2.1 i (ix j)) :: r) h else none)
       else (if h.2.2.1 i = 23 ∨ h.2.2.1 i = 24 ∨ h.2.2.1 i = 25 then go pc ls (.ref (h.2.2.2.2.2.2 i (ix j)) :: r) h else none)) else none
  | _ => none
def okS (a v : Nat) : Bool := (a == 24 && inG 7 v) || (a == 25 && v == 7)
def x_ast (pc : Nat) (ls : Lo) (st : List Value) (h : Hp) (ty : Nat) : Option Ac := match st with
  | .int x :: .int j :: .ref i :: r => if ty = 0 ∧ inb j (h.2.2.2.1 i) = true ∧ h.2.2.1 i = 21 then go pc ls r (h.1, h.2.1, h.2.2.1, h.2.2.2.1, u2 h.2.2.2.2.1 i (ix j) x, h.2.2.2.2.2.1, h.2.2.2.2.2.2) else none
  | .long x :: .int j :: .ref i :: r => if ty = 1 ∧ inb j (h.2.2.2.1 i) = true ∧ h.2.2.1 i = 22 then go pc ls r (h.1, h.2.1, h.2.2.1, h.2.2.2.1, h.2.2.2.2.1, u2 h.2.2.2.2.2.1 i (ix j) x, h.2.2.2.2.2.2) else none
  | .ref x :: .int j :: .ref i :: r => if ty = 2 ∧ inb j (h.2.2.2.1 i) = true ∧ ((x = 0 ∧ (h.2.2.1 i = 24 ∨ h.2.2.1 i = 25)) ∨ okS (h.2.2.1 i) (h.2.2.1 x) = true) then go pc ls r (h.1, h.2.1, h.2.2.1, h.2.2.2.1, h.2.2.2.2.1, h.2.2.2.2.2.1, u2 h.2.2.2.2.2.2 i (ix j) x) else none
  | _ => none
def x_len (pc : Nat) (ls : Lo) (st : List Value) (h : Hp) : Option Ac := match st with
  | .ref i :: r => if 21 ≤ h.2.2.1 i ∧ h.2.2.1 i ≤ 25 then go pc ls (.int (Int32.ofNat (h.2.2.2.1 i)) :: r) h else none
  | _ => none
/-- a new array: kind c, length n -/
def nwA (h : Hp) (c n : Nat) : Hp := (h.1 + 1, h.2.1 + n, va_up h.2.2.1 (h.1 + 1) c, va_up h.2.2.2.1 (h.1 + 1) n, va_up h.2.2.2.2.1 (h.1 + 1) (fun _ => 0), va_up h.2.2.2.2.2.1 (h.1 + 1) (fun _ => 0), va_up h.2.2.2.2.2.2 (h.1 + 1) (fun _ => 0))
def x_newa (pc : Nat) (ls : Lo) (st : List Value) (h : Hp) (c : Nat) : Option Ac := match st with
  | .int n :: r => if ¬ n < 0 ∧ ix n ≤ 1000 then go pc ls (.ref (h.1 + 1) :: r) (nwA h c (ix n)) else none
  | _ => none
/-- a new grid of longs: n rows of k -/
def nwG (h : Hp) (n k : Nat) : Hp := (h.1 + 1 + n, h.2.1 + n + n * k, fun i => if i = h.1 + 1 then 23 else if h.1 + 1 < i ∧ i ≤ h.1 + 1 + n then 22 else h.2.2.1 i, fun i => if i = h.1 + 1 then n else if h.1 + 1 < i ∧ i ≤ h.1 + 1 + n then k else h.2.2.2.1 i, h.2.2.2.2.1, fun i => if h.1 + 1 < i ∧ i ≤ h.1 + 1 + n then (fun _ => 0) else h.2.2.2.2.2.1 i, fun i => if i = h.1 + 1 then (fun j => if j < n then h.1 + 2 + j else 0) else h.2.2.2.2.2.2 i)
def x_mna (k pc : Nat) (ls : Lo) (st : List Value) (h : Hp) (idx : Nat) : Option Ac := match st with
  | .int q :: .int n :: r => (match look (ctb (mOw k)) idx with
    | some (c, _) => if c = 23 ∧ ¬ n < 0 ∧ ix n ≤ 1000 ∧ ¬ q < 0 ∧ ix q ≤ 1000 then go pc ls (.ref (h.1 + 1) :: r) (nwG h (ix n) (ix q)) else none
    | none => none)
  | _ => none
def nfs (c : Nat) : Nat := match vwCl[c]? with | some r => r.2.2 | none => 0
def nwO (h : Hp) (c : Nat) : Hp := (h.1 + 1, h.2.1 + nfs c, va_up h.2.2.1 (h.1 + 1) (c + 1), h.2.2.2.1, va_up h.2.2.2.2.1 (h.1 + 1) (fun _ => 0), va_up h.2.2.2.2.2.1 (h.1 + 1) (fun _ => 0), va_up h.2.2.2.2.2.2 (h.1 + 1) (fun _ => 0))
def x_new (k pc : Nat) (ls : Lo) (st : List Value) (h : Hp) (idx : Nat) : Option Ac := match look (ctb (mOw k)) idx with
  | some (c, _) => if c < 11 then go pc ls (.ref (h.1 + 1) :: st) (nwO h c) else none
  | none => none
def x_anew (k pc : Nat) (ls : Lo) (st : List Value) (h : Hp) (idx : Nat) : Option Ac := match look (ctb (mOw k)) idx with
  | some (c, _) => if c = 7 then x_newa pc ls st h 24 else if c = 6 then x_newa pc ls st h 25 else none
  | none => none
/-- whether an object of kind c (a number of inG 7) is one of class t -/
def isa (c t : Nat) : Bool := (c == t + 1) || (c == 6 && t == 4)
def x_io (k pc : Nat) (ls : Lo) (st : List Value) (h : Hp) (idx : Nat) : Option Ac := match st with
  | .ref i :: r => (match look (ctb (mOw k)) idx with
    | some (c, _) => if inG 7 (h.2.2.1 i) = true ∧ (c = 1 ∨ c = 4 ∨ c = 5) then go pc ls (.int (if isa (h.2.2.1 i) c then 1 else 0) :: r) h else none
    | none => none)
  | _ => none
def cpyL (h : Hp) (a b sp dp n : Nat) : Hp := (h.1, h.2.1, h.2.2.1, h.2.2.2.1, h.2.2.2.2.1, va_up h.2.2.2.2.2.1 b (va_cpy (h.2.2.2.2.2.1 a) (h.2.2.2.2.2.1 b) sp dp n), h.2.2.2.2.2.2)
def alt (l : List (Nat × Nat × List Nat)) (c : Nat) : Option Nat := (look l c).map (fun q => q.1)
def rmOk (k k2 : Nat) : Bool := decide (mFr k2 + 1 ≤ mFr k) && decide (8 + (mxl k2 + 11) + mLo k2 ≤ mLo k)
def rmL (k n : Nat) : Bool := decide (1 ≤ mFr k) && decide (n ≤ mLo k)
def callA (k pc : Nat) (k2 : Nat) (as rest : List Value) : Option Ac := if wsum rest ≤ 8 ∧ (rmOk k k2 = true ∧ (lay as).length ≤ mxl k2) then some (.inr (.inr (k2, pad (mxl k2) (lay as), pc, rest))) else none
def x_is (k pc : Nat) (ls : Lo) (st : List Value) (h : Hp) (idx : Nat) : Option Ac := match look (vtb (mOw k)) idx with
  | some (kd, na, _, _, al, _) =>
    if kd = 0 ∨ kd = 7 then (if (st.take na).length = na then (match alt al 0 with | some k2 => callA k pc k2 (st.take na).reverse (st.drop na) | none => none) else none)
    else if kd = 6 then (match st with
      | .int n :: .int dp :: .ref b :: .int sp :: .ref a :: r => if rmL k 48 = true ∧ wsum r ≤ 8 ∧ h.2.2.1 a = 22 ∧ h.2.2.1 b = 22 ∧ ¬ sp < 0 ∧ ¬ dp < 0 ∧ ¬ n < 0 ∧ ix sp + ix n ≤ h.2.2.2.1 a ∧ ix dp + ix n ≤ h.2.2.2.1 b then go pc ls r (cpyL h a b (ix sp) (ix dp) (ix n)) else none
      | _ => none)
    else if kd = 10 then (match st with | .int y :: .int x :: r => if rmL k 21 = true ∧ wsum r ≤ 8 then go pc ls (.int (if x < y then y else x) :: r) h else none | _ => none)
    else if kd = 11 then (match st with | .int y :: .int x :: r => if rmL k 21 = true ∧ wsum r ≤ 8 then go pc ls (.int (if y < x then y else x) :: r) h else none | _ => none)
    else if kd = 12 then (match st with | .long x :: r => if rmL k 21 = true ∧ wsum r ≤ 8 then go pc ls (.long (if 0 < x then x else -x) :: r) h else none | _ => none)
    else none
  | none => none
def x_iv (k pc : Nat) (st : List Value) (h : Hp) (idx : Nat) : Option Ac := match look (vtb (mOw k)) idx with
  | some (kd, na, _, _, al, _) =>
    if (kd = 2 ∨ kd = 3) ∧ (st.take na).length = na then (match st.drop na with
      | .ref i :: r => (match alt al (h.2.2.1 i) with | some k2 => callA k pc k2 (.ref i :: (st.take na).reverse) r | none => none)
      | _ => none) else none
  | none => none
def x_ip (k pc : Nat) (ls : Lo) (st : List Value) (h : Hp) (idx : Nat) : Option Ac := match look (vtb (mOw k)) idx with
  | some (kd, na, _, _, al, _) =>
    if (st.take na).length = na then (match st.drop na with
      | .ref i :: r =>
        if kd = 5 then (if rmL k 20 = true ∧ wsum r ≤ 8 ∧ i ≠ 0 then go pc ls r h else none)
        else if (kd = 1 ∨ kd = 8) ∧ i ≠ 0 then (match alt al 0 with | some k2 => callA k pc k2 (.ref i :: (st.take na).reverse) r | none => none)
        else if (kd = 4 ∨ kd = 9) ∧ inG 7 (h.2.2.1 i) = true then (match alt al 0 with | some k2 => callA k pc k2 (.ref i :: (st.take na).reverse) r | none => none)
        else none
      | _ => none) else none
  | none => none
def x_ret (k : Nat) (st : List Value) (ty : Nat) : Option Ac := match st with
  | [] => if ty = 9 ∧ mRt k = none then some (.inr (.inl none)) else none
  | [.int v] => if ty = 0 ∧ (mRt k = some .int ∨ (mRt k = some .boolean ∧ (v = 0 ∨ v = 1))) then some (.inr (.inl (some (.int v)))) else none
  | [.long v] => if ty = 1 ∧ mRt k = some .long then some (.inr (.inl (some (.long v)))) else none
  | [.ref v] => if ty = 2 ∧ (mRt k = some (.object "SteerBench$Steps") ∨ mRt k = some (.array .int)) then some (.inr (.inl (some (.ref v)))) else none
  | _ => none
def x_ts (pc : Nat) (ls : Lo) (st : List Value) (h : Hp) (dflt lo hi : Int) (offs : Array Int) : Option Ac := match st with
  | .int x :: r => if x.toInt < lo ∨ hi < x.toInt then jmp pc dflt ls r h true 0 else (match offs[(x.toInt - lo).toNat]? with | some o => jmp pc o ls r h true 0 | none => none)
  | _ => none
def x_dup (pc : Nat) (ls : Lo) (st : List Value) (h : Hp) : Option Ac := match st with
  | .int x :: r => go pc ls (.int x :: .int x :: r) h
  | .ref x :: r => go pc ls (.ref x :: .ref x :: r) h
  | _ => none
def x_dx1 (pc : Nat) (ls : Lo) (st : List Value) (h : Hp) : Option Ac := match st with
  | a :: b :: r => if a.category = 1 ∧ b.category = 1 then go pc ls (a :: b :: a :: r) h else none
  | _ => none
def x_dup2 (pc : Nat) (ls : Lo) (st : List Value) (h : Hp) : Option Ac := match st with
  | .int a :: .ref b :: r => go pc ls (.int a :: .ref b :: .int a :: .ref b :: r) h
  | .long a :: r => go pc ls (.long a :: .long a :: r) h
  | _ => none
def x_if (pc : Nat) (ls : Lo) (st : List Value) (h : Hp) (c : ClassFile.Cond) (off : Int) : Option Ac := match st with
  | .int x :: r => jmp pc off ls r h (cmpI c x 0) (pc + 3)
  | _ => none
def x_ic (pc : Nat) (ls : Lo) (st : List Value) (h : Hp) (c : ClassFile.Cond) (off : Int) : Option Ac := match st with
  | .int y :: .int x :: r => jmp pc off ls r h (cmpI c x y) (pc + 3)
  | _ => none
def x_nu (pc : Nat) (ls : Lo) (st : List Value) (h : Hp) (b : Bool) (off : Int) : Option Ac := match st with
  | .ref i :: r => jmp pc off ls r h (decide (i = 0) == b) (pc + 3)
  | _ => none
def x_inc (pc : Nat) (ls : Lo) (st : List Value) (h : Hp) (i : Nat) (n : Int) : Option Ac := match ldl ls i with
  | some (.int x) => (st1 ls i (.int (x + Int32.ofInt n))).bind (fun l => go pc l st h)
  | _ => none
def x_cmp (pc : Nat) (ls : Lo) (st : List Value) (h : Hp) : Option Ac := match st with
  | .long y :: .long x :: r => go pc ls (.int (lg_cmp x y) :: r) h
  | _ => none
def x_lsh (pc : Nat) (ls : Lo) (st : List Value) (h : Hp) : Option Ac := match st with
  | .int y :: .long x :: r => go pc ls (.long (x <<< (y.toInt64 &&& 63)) :: r) h
  | _ => none
def x_pop (pc : Nat) (ls : Lo) (st : List Value) (h : Hp) : Option Ac := match st with
  | .int _ :: r => go pc ls r h
  | .ref _ :: r => go pc ls r h
  | _ => none
def exec (k pc : Nat) (ls : Lo) (st : List Value) (h : Hp) (len : Nat) (ins : Instr) : Option Ac := match ins with
  | .iconst n => o1 len 1 (go (pc + 1) ls (.int (Int32.ofInt n) :: st) h)
  | .bipush n => o1 len 2 (go (pc + 2) ls (.int (Int8.ofInt n).toInt32 :: st) h)
  | .sipush n => o1 len 3 (go (pc + 3) ls (.int (Int16.ofInt n).toInt32 :: st) h)
  | .lconst n => o1 len 1 (go (pc + 1) ls (.long (Int64.ofNat (n : Nat)) :: st) h)
  | .aconst_null => o1 len 1 (go (pc + 1) ls (.ref 0 :: st) h)
  | .ldc i => o1 len 2 (match look (itb (mOw k)) i with | some (v, _) => go (pc + 2) ls (.int v :: st) h | none => none)
  | .ldc_w i => o1 len 3 (match look (itb (mOw k)) i with | some (v, _) => go (pc + 3) ls (.int v :: st) h | none => none)
  | .ldc2_w i => o1 len 3 (match look (ltb (mOw k)) i with | some (v, _) => go (pc + 3) ls (.long v :: st) h | none => none)
  | .iload i => o1 len 2 (x_lo (pc + 2) ls st h i 0)
  | .iload_n i => o1 len 1 (x_lo (pc + 1) ls st h i 0)
  | .lload i => o1 len 2 (x_lo (pc + 2) ls st h i 1)
  | .lload_n i => o1 len 1 (x_lo (pc + 1) ls st h i 1)
  | .aload i => o1 len 2 (x_lo (pc + 2) ls st h i 2)
  | .aload_n i => o1 len 1 (x_lo (pc + 1) ls st h i 2)
  | .istore i => o1 len 2 (x_st (pc + 2) ls st h i 0)
  | .istore_n i => o1 len 1 (x_st (pc + 1) ls st h i 0)
  | .lstore i => o1 len 2 (x_st (pc + 2) ls st h i 1)
  | .lstore_n i => o1 len 1 (x_st (pc + 1) ls st h i 1)
  | .astore i => o1 len 2 (x_st (pc + 2) ls st h i 2)
  | .astore_n i => o1 len 1 (x_st (pc + 1) ls st h i 2)
  | .iinc i n => o1 len 3 (x_inc (pc + 3) ls st h i n)
  | .iadd => o1 len 1 (x_ii (fun x y => x + y) false (pc + 1) ls st h)
  | .isub => o1 len 1 (x_ii (fun x y => x - y) false (pc + 1) ls st h)
  | .imul => o1 len 1 (x_ii (fun x y => x * y) false (pc + 1) ls st h)
  | .iand => o1 len 1 (x_ii (fun x y => x &&& y) false (pc + 1) ls st h)
  | .ixor => o1 len 1 (x_ii (fun x y => x ^^^ y) false (pc + 1) ls st h)
  | .idiv => o1 len 1 (x_ii (fun x y => x / y) true (pc + 1) ls st h)
  | .irem => o1 len 1 (x_ii (fun x y => x - x / y * y) true (pc + 1) ls st h)
  | .ishl => o1 len 1 (x_ii (fun x y => x <<< (y &&& 31)) false (pc + 1) ls st h)
  | .ishr => o1 len 1 (x_ii (fun x y => x >>> (y &&& 31)) false (pc + 1) ls st h)
  | .iushr => o1 len 1 (x_ii (fun x y => (x.toUInt32 >>> (y.toUInt32 &&& Int32.toUInt32 31)).toInt32) false (pc + 1) ls st h)
  | .ladd => o1 len 1 (x_ll (fun x y => x + y) false (pc + 1) ls st h)
  | .lsub => o1 len 1 (x_ll (fun x y => x - y) false (pc + 1) ls st h)
  | .lmul => o1 len 1 (x_ll (fun x y => x * y) false (pc + 1) ls st h)
  | .ldiv => o1 len 1 (x_ll (fun x y => x / y) true (pc + 1) ls st h)
  | .lrem => o1 len 1 (x_ll (fun x y => x - x / y * y) true (pc + 1) ls st h)
  | .lshl => o1 len 1 (x_lsh (pc + 1) ls st h)
  | .ineg => o1 len 1 (x_u (pc + 1) ls st h (fun x => some (.int (-x))) (fun _ => none))
  | .lneg => o1 len 1 (x_u (pc + 1) ls st h (fun _ => none) (fun x => some (.long (-x))))
  | .i2l => o1 len 1 (x_u (pc + 1) ls st h (fun x => some (.long x.toInt64)) (fun _ => none))
  | .i2b => o1 len 1 (x_u (pc + 1) ls st h (fun x => some (.int x.toInt8.toInt32)) (fun _ => none))
  | .l2i => o1 len 1 (x_u (pc + 1) ls st h (fun _ => none) (fun x => some (.int x.toInt32)))
  | .lcmp => o1 len 1 (x_cmp (pc + 1) ls st h)
  | .dup => o1 len 1 (x_dup (pc + 1) ls st h)
  | .dup_x1 => o1 len 1 (x_dx1 (pc + 1) ls st h)
  | .dup2 => o1 len 1 (x_dup2 (pc + 1) ls st h)
  | .pop => o1 len 1 (x_pop (pc + 1) ls st h)
  | .goto off => o1 len 3 (jmp pc off ls st h true 0)
  | .ifCond c off => o1 len 3 (x_if pc ls st h c off)
  | .if_icmp c off => o1 len 3 (x_ic pc ls st h c off)
  | .ifnull off => o1 len 3 (x_nu pc ls st h true off)
  | .ifnonnull off => o1 len 3 (x_nu pc ls st h false off)
  | .tableswitch d lo hi offs => x_ts pc ls st h d lo hi offs
  | .getfield i => o1 len 3 (x_get k (pc + 3) ls st h i)
  | .putfield i => o1 len 3 (x_put k (pc + 3) ls st h i)
  | .iaload => o1 len 1 (x_ald (pc + 1) ls st h 0)
  | .laload => o1 len 1 (x_ald (pc + 1) ls st h 1)
  | .aaload => o1 len 1 (x_ald (pc + 1) ls st h 2)
  | .iastore => o1 len 1 (x_ast (pc + 1) ls st h 0)
  | .lastore => o1 len 1 (x_ast (pc + 1) ls st h 1)
  | .aastore => o1 len 1 (x_ast (pc + 1) ls st h 2)
  | .arraylength => o1 len 1 (x_len (pc + 1) ls st h)
  | .newarray a => o1 len 2 (match a with | .int => x_newa (pc + 2) ls st h 21 | .long => x_newa (pc + 2) ls st h 22 | _ => none)
  | .anewarray i => o1 len 3 (x_anew k (pc + 3) ls st h i)
  | .multianewarray i d => o1 len 4 (if d = 2 then x_mna k (pc + 4) ls st h i else none)
  | .new i => o1 len 3 (x_new k (pc + 3) ls st h i)
  | .instanceof i => o1 len 3 (x_io k (pc + 3) ls st h i)
  | .invokestatic i => o1 len 3 (x_is k (pc + 3) ls st h i)
  | .invokevirtual i => o1 len 3 (x_iv k (pc + 3) st h i)
  | .invokespecial i => o1 len 3 (x_ip k (pc + 3) ls st h i)
  | .ireturn => o1 len 1 (x_ret k st 0)
  | .lreturn => o1 len 1 (x_ret k st 1)
  | .areturn => o1 len 1 (x_ret k st 2)
  | .return_ => o1 len 1 (x_ret k st 9)
  | _ => none
def stp (k pc : Nat) (ls : Lo) (st : List Value) (h : Hp) : Option Ac := match decode (byt k) pc with
  | .ok (ins, len) => exec k pc ls st h len ins
  | _ => none
def arun : Nat → Nat → Nat → Lo → List Value → Hp → Option (Option Value × Hp)
  | 0, _, _, _, _, _ => none
  | f + 1, k, pc, ls, st, h => match stp k pc ls st h with
    | none => none
    | some (.inl (pc', ls', st', h')) => arun f k pc' ls' st' h'
    | some (.inr (.inl r)) => some (r, h)
    | some (.inr (.inr (k2, as, pc', st'))) => (match arun f k2 0 as [] h with
      | none => none
      | some (r, h1) => arun f k pc' ls (r.toList ++ st') h1)
theorem arun_more : ∀ {f k pc : Nat} {ls : Lo} {st : List Value} {h : Hp} {o : Option Value × Hp}, arun f k pc ls st h = some o → arun (f + 1) k pc ls st h = some o
  | 0, _, _, _, _, _, _, e => by cases e
  | f + 1, k, pc, ls, st, h, o, e => by
    unfold arun at e ⊢
    cases hs : stp k pc ls st h with
    | none => rw [hs] at e; cases e
    | some a =>
      rw [hs] at e
      match a, e with
      | .inl (pc', ls', st', h'), e => exact arun_more e
      | .inr (.inl r), e => exact e
      | .inr (.inr (k2, as, pc', st')), e =>
        dsimp only at e ⊢
        cases hc : arun f k2 0 as [] h with
        | none => rw [hc] at e; cases e
        | some q =>
          rw [hc] at e
          rw [arun_more hc]
          obtain ⟨r, h1⟩ := q
          exact arun_more e
theorem arun_le {f g k pc : Nat} {ls : Lo} {st : List Value} {h : Hp} {o : Option Value × Hp} (hfg : f ≤ g) (e : arun f k pc ls st h = some o) : arun g k pc ls st h = some o := by
  induction hfg with
  | refl => exact e
  | step _ ih => exact arun_more ih
def Wp (k pc : Nat) (ls : Lo) (st : List Value) (h : Hp) (Q : Option Value → Hp → Prop) : Prop := ∃ (f : Nat) (r : Option Value) (h' : Hp), arun f k pc ls st h = some (r, h') ∧ Q r h'
theorem Wp_go {k pc : Nat} {ls : Lo} {st : List Value} {h : Hp} {pc' : Nat} {ls' : Lo} {st' : List Value} {h' : Hp} {Q : Option Value → Hp → Prop} (hs : stp k pc ls st h = some (.inl (pc', ls', st', h'))) : Wp k pc ls st h Q ↔ Wp k pc' ls' st' h' Q := by
  constructor
  · rintro ⟨f, r, h1, e, q⟩
    cases f with
    | zero => cases e
    | succ f =>
      unfold arun at e
      rw [hs] at e
      exact ⟨f, r, h1, e, q⟩
  · rintro ⟨f, r, h1, e, q⟩
    refine ⟨f + 1, r, h1, ?_, q⟩
    unfold arun
    rw [hs]
    exact e
theorem Wp_ret {k pc : Nat} {ls : Lo} {st : List Value} {h : Hp} {r : Option Value} {Q : Option Value → Hp → Prop} (hs : stp k pc ls st h = some (.inr (.inl r))) : Wp k pc ls st h Q ↔ Q r h := by
  constructor
  · rintro ⟨f, r', h1, e, q⟩
    cases f with
    | zero => cases e
    | succ f =>
      unfold arun at e
      rw [hs] at e
      cases e
      exact q
  · intro q
    refine ⟨1, r, h, ?_, q⟩
    unfold arun
    rw [hs]
/-- a call that stands before its callee's contract -/
def Call (k2 : Nat) (as : Lo) (h : Hp) (k pc : Nat) (ls : Lo) (st : List Value) (Q : Option Value → Hp → Prop) : Prop := Wp k2 0 as [] h (fun r h1 => Wp k pc ls (r.toList ++ st) h1 Q)
theorem Wp_call {k pc : Nat} {ls : Lo} {st : List Value} {h : Hp} {k2 : Nat} {as : Lo} {pc' : Nat} {st' : List Value} {Q : Option Value → Hp → Prop} (hs : stp k pc ls st h = some (.inr (.inr (k2, as, pc', st')))) : Wp k pc ls st h Q ↔ Call k2 as h k pc' ls st' Q := by
  constructor
  · rintro ⟨f, r, h1, e, q⟩
    cases f with
    | zero => cases e
    | succ f =>
      unfold arun at e
      rw [hs] at e
      dsimp only at e
      cases hc : arun f k2 0 as [] h with
      | none => rw [hc] at e; cases e
      | some w =>
        rw [hc] at e
        obtain ⟨r2, h2⟩ := w
        exact ⟨f, r2, h2, hc, f, r, h1, e, q⟩
  · rintro ⟨f, r2, h2, hc, g, r, h1, e, q⟩
    refine ⟨max f g + 1, r, h1, ?_, q⟩
    unfold arun
    rw [hs]
    dsimp only
    rw [arun_le (Nat.le_max_left f g) hc]
    exact arun_le (Nat.le_max_right f g) e
theorem Wp.mono {k pc : Nat} {ls : Lo} {st : List Value} {h : Hp} {Q Q' : Option Value → Hp → Prop} (hq : ∀ r h', Q r h' → Q' r h') (w : Wp k pc ls st h Q) : Wp k pc ls st h Q' := by
  obtain ⟨f, r, h', e, q⟩ := w
  exact ⟨f, r, h', e, hq r h' q⟩
/-- a branch on a condition -/
def Br (k t f : Nat) (ls : Lo) (st : List Value) (h : Hp) (Q : Option Value → Hp → Prop) (c : Prop) : Prop := (c → Wp k t ls st h Q) ∧ (¬ c → Wp k f ls st h Q)
theorem Br_t {k t f : Nat} {ls : Lo} {st : List Value} {h : Hp} {Q : Option Value → Hp → Prop} : Br k t f ls st h Q True ↔ Wp k t ls st h Q := by simp [Br]
theorem Br_f {k t f : Nat} {ls : Lo} {st : List Value} {h : Hp} {Q : Option Value → Hp → Prop} : Br k t f ls st h Q False ↔ Wp k f ls st h Q := by simp [Br]
theorem Br_of {k t f : Nat} {ls : Lo} {st : List Value} {h : Hp} {Q : Option Value → Hp → Prop} {c : Prop} (ht : c → Wp k t ls st h Q) (hf : ¬ c → Wp k f ls st h Q) : Br k t f ls st h Q c := ⟨ht, hf⟩
theorem Br_if {k t f : Nat} {ls : Lo} {st : List Value} {h : Hp} {Q : Option Value → Hp → Prop} (c : Bool) : Wp k (if c = true then t else f) ls st h Q ↔ Br k t f ls st h Q (c = true) := by
  cases c <;> simp [Br]
end
section
/-! one row an instruction: what a run asks at it, and what it asks behind it -/
theorem Wp_no {k pc : Nat} {ls : Lo} {st : List Value} {h : Hp} {Q : Option Value → Hp → Prop} (hs : stp k pc ls st h = none) : ¬ Wp k pc ls st h Q := by
  rintro ⟨f, r, h1, e, -⟩
  cases f with
  | zero => cases e
  | succ f =>
    unfold arun at e
    rw [hs] at e
    cases e
theorem Wp_chk {k pc : Nat} {ls : Lo} {st : List Value} {h : Hp} {pc' : Nat} {ls' : Lo} {st' : List Value} {h' : Hp} {Q : Option Value → Hp → Prop} {c : Prop} [Decidable c] (hs : stp k pc ls st h = if c then go pc' ls' st' h' else none) : Wp k pc ls st h Q ↔ (c ∧ Wp k pc' ls' st' h' Q) := by
  by_cases hc : c
  · rw [if_pos hc] at hs
    rw [Wp_go hs]
    exact ⟨fun a => ⟨hc, a⟩, fun a => a.2⟩
  · rw [if_neg hc] at hs
    exact ⟨fun a => absurd a (Wp_no hs), fun a => absurd a.1 hc⟩
theorem Wp_chkR {k pc : Nat} {ls : Lo} {st : List Value} {h : Hp} {r : Option Value} {Q : Option Value → Hp → Prop} {c : Prop} [Decidable c] (hs : stp k pc ls st h = if c then some (.inr (.inl r)) else none) : Wp k pc ls st h Q ↔ (c ∧ Q r h) := by
  by_cases hc : c
  · rw [if_pos hc] at hs
    rw [Wp_ret hs]
    exact ⟨fun a => ⟨hc, a⟩, fun a => a.2⟩
  · rw [if_neg hc] at hs
    exact ⟨fun a => absurd a (Wp_no hs), fun a => absurd a.1 hc⟩
theorem Wp_chkC {k pc : Nat} {ls : Lo} {st : List Value} {h : Hp} {k2 : Nat} {as rest : List Value} {pc' : Nat} {Q : Option Value → Hp → Prop} (hs : stp k pc ls st h = callA k pc' k2 as rest) (hr : rmOk k k2 = true) (hy : (lay as).length ≤ mxl k2) : Wp k pc ls st h Q ↔ (wsum rest ≤ 8 ∧ Call k2 (pad (mxl k2) (lay as)) h k pc' ls rest Q) := by
  unfold callA at hs
  simp only [hr, hy, and_true] at hs
  by_cases hc : wsum rest ≤ 8
  · rw [if_pos hc] at hs
    rw [Wp_call hs]
    exact ⟨fun a => ⟨hc, a⟩, fun a => a.2⟩
  · rw [if_neg hc] at hs
    exact ⟨fun a => absurd a (Wp_no hs), fun a => absurd a.1 hc⟩
section OPS
variable {k pc : Nat} {ls ls' : Lo} {st : List Value} {h : Hp} {Q : Option Value → Hp → Prop} {n sl : Nat} {C Z : Nat → Nat} {I : Nat → Nat → Int32} {L : Nat → Nat → Int64} {R : Nat → Nat → Nat} {x y v : Int32} {a b w : Int64} {i j : Nat}
theorem stp_of {ins : Instr} {len : Nat} (hd : decode (byt k) pc = .ok (ins, len)) : stp k pc ls st h = exec k pc ls st h len ins := by unfold stp; rw [hd]
theorem e_iconst {z : Int} (hd : decode (byt k) pc = .ok (.iconst z, 1)) (hv : Int32.ofInt z = v) : Wp k pc ls st h Q ↔ Wp k (pc + 1) ls (.int v :: st) h Q := by subst hv; exact Wp_go ((stp_of hd).trans rfl)
theorem e_bipush {z : Int} (hd : decode (byt k) pc = .ok (.bipush z, 2)) (hv : (Int8.ofInt z).toInt32 = v) : Wp k pc ls st h Q ↔ Wp k (pc + 2) ls (.int v :: st) h Q := by subst hv; exact Wp_go ((stp_of hd).trans rfl)
theorem e_sipush {z : Int} (hd : decode (byt k) pc = .ok (.sipush z, 3)) (hv : (Int16.ofInt z).toInt32 = v) : Wp k pc ls st h Q ↔ Wp k (pc + 3) ls (.int v :: st) h Q := by subst hv; exact Wp_go ((stp_of hd).trans rfl)
theorem e_lconst {z : Fin 2} (hd : decode (byt k) pc = .ok (.lconst z, 1)) (hv : Int64.ofNat (z : Nat) = w) : Wp k pc ls st h Q ↔ Wp k (pc + 1) ls (.long w :: st) h Q := by subst hv; exact Wp_go ((stp_of hd).trans rfl)
theorem e_null (hd : decode (byt k) pc = .ok (.aconst_null, 1)) : Wp k pc ls st h Q ↔ Wp k (pc + 1) ls (.ref 0 :: st) h Q := Wp_go ((stp_of hd).trans rfl)
theorem e_ldc {z p : Nat} (hd : decode (byt k) pc = .ok (.ldc z, 2)) (hv : look (itb (mOw k)) z = some (v, p)) : Wp k pc ls st h Q ↔ Wp k (pc + 2) ls (.int v :: st) h Q := Wp_go ((stp_of hd).trans (by simp only [exec, o1, hv, if_true]; rfl))
theorem e_ldc_w {z p : Nat} (hd : decode (byt k) pc = .ok (.ldc_w z, 3)) (hv : look (itb (mOw k)) z = some (v, p)) : Wp k pc ls st h Q ↔ Wp k (pc + 3) ls (.int v :: st) h Q := Wp_go ((stp_of hd).trans (by simp only [exec, o1, hv, if_true]; rfl))
theorem e_ldc2 {z p : Nat} (hd : decode (byt k) pc = .ok (.ldc2_w z, 3)) (hv : look (ltb (mOw k)) z = some (w, p)) : Wp k pc ls st h Q ↔ Wp k (pc + 3) ls (.long w :: st) h Q := Wp_go ((stp_of hd).trans (by simp only [exec, o1, hv, if_true]; rfl))
theorem e_iload {z : Nat} (hd : decode (byt k) pc = .ok (.iload z, 2)) (hl : ldl ls z = some (.int x)) : Wp k pc ls st h Q ↔ Wp k (pc + 2) ls (.int x :: st) h Q := Wp_go ((stp_of hd).trans (by simp only [exec, o1, x_lo, hl, if_true]; rfl))
theorem e_iload_n {z : Fin 4} (hd : decode (byt k) pc = .ok (.iload_n z, 1)) (hl : ldl ls z = some (.int x)) : Wp k pc ls st h Q ↔ Wp k (pc + 1) ls (.int x :: st) h Q := Wp_go ((stp_of hd).trans (by simp only [exec, o1, x_lo, hl, if_true]; rfl))
theorem e_lload {z : Nat} (hd : decode (byt k) pc = .ok (.lload z, 2)) (hl : ldl ls z = some (.long a)) : Wp k pc ls st h Q ↔ Wp k (pc + 2) ls (.long a :: st) h Q := Wp_go ((stp_of hd).trans (by simp only [exec, o1, x_lo, hl, if_true]; rfl))
theorem e_lload_n {z : Fin 4} (hd : decode (byt k) pc = .ok (.lload_n z, 1)) (hl : ldl ls z = some (.long a)) : Wp k pc ls st h Q ↔ Wp k (pc + 1) ls (.long a :: st) h Q := Wp_go ((stp_of hd).trans (by simp only [exec, o1, x_lo, hl, if_true]; rfl))
theorem e_aload {z : Nat} (hd : decode (byt k) pc = .ok (.aload z, 2)) (hl : ldl ls z = some (.ref i)) : Wp k pc ls st h Q ↔ Wp k (pc + 2) ls (.ref i :: st) h Q := Wp_go ((stp_of hd).trans (by simp only [exec, o1, x_lo, hl, if_true]; rfl))
theorem e_aload_n {z : Fin 4} (hd : decode (byt k) pc = .ok (.aload_n z, 1)) (hl : ldl ls z = some (.ref i)) : Wp k pc ls st h Q ↔ Wp k (pc + 1) ls (.ref i :: st) h Q := Wp_go ((stp_of hd).trans (by simp only [exec, o1, x_lo, hl, if_true]; rfl))
theorem e_istore {z : Nat} (hd : decode (byt k) pc = .ok (.istore z, 2)) (hl : st1 ls z (.int x) = some ls') : Wp k pc ls (.int x :: st) h Q ↔ Wp k (pc + 2) ls' st h Q := Wp_go ((stp_of hd).trans (by simp only [exec, o1, x_st, hl, if_true]; rfl))
theorem e_istore_n {z : Fin 4} (hd : decode (byt k) pc = .ok (.istore_n z, 1)) (hl : st1 ls z (.int x) = some ls') : Wp k pc ls (.int x :: st) h Q ↔ Wp k (pc + 1) ls' st h Q := Wp_go ((stp_of hd).trans (by simp only [exec, o1, x_st, hl, if_true]; rfl))
theorem e_lstore {z : Nat} (hd : decode (byt k) pc = .ok (.lstore z, 2)) (hl : st2 ls z (.long a) = some ls') : Wp k pc ls (.long a :: st) h Q ↔ Wp k (pc + 2) ls' st h Q := Wp_go ((stp_of hd).trans (by simp only [exec, o1, x_st, hl, if_true]; rfl))
theorem e_lstore_n {z : Fin 4} (hd : decode (byt k) pc = .ok (.lstore_n z, 1)) (hl : st2 ls z (.long a) = some ls') : Wp k pc ls (.long a :: st) h Q ↔ Wp k (pc + 1) ls' st h Q := Wp_go ((stp_of hd).trans (by simp only [exec, o1, x_st, hl, if_true]; rfl))
theorem e_astore {z : Nat} (hd : decode (byt k) pc = .ok (.astore z, 2)) (hl : st1 ls z (.ref i) = some ls') : Wp k pc ls (.ref i :: st) h Q ↔ Wp k (pc + 2) ls' st h Q := Wp_go ((stp_of hd).trans (by simp only [exec, o1, x_st, hl, if_true]; rfl))
theorem e_astore_n {z : Fin 4} (hd : decode (byt k) pc = .ok (.astore_n z, 1)) (hl : st1 ls z (.ref i) = some ls') : Wp k pc ls (.ref i :: st) h Q ↔ Wp k (pc + 1) ls' st h Q := Wp_go ((stp_of hd).trans (by simp only [exec, o1, x_st, hl, if_true]; rfl))
theorem e_iinc {z : Nat} {q : Int} (hd : decode (byt k) pc = .ok (.iinc z q, 3)) (hl : ldl ls z = some (.int x)) (hv : Int32.ofInt q = v) (hs : st1 ls z (.int (x + v)) = some ls') : Wp k pc ls st h Q ↔ Wp k (pc + 3) ls' st h Q := by subst hv; exact Wp_go ((stp_of hd).trans (by simp only [exec, o1, x_inc, hl, hs, if_true]; rfl))
theorem e_iadd (hd : decode (byt k) pc = .ok (.iadd, 1)) : Wp k pc ls (.int y :: .int x :: st) h Q ↔ Wp k (pc + 1) ls (.int (x + y) :: st) h Q := Wp_go ((stp_of hd).trans (by simp [exec, o1, x_ii, go]))
theorem e_isub (hd : decode (byt k) pc = .ok (.isub, 1)) : Wp k pc ls (.int y :: .int x :: st) h Q ↔ Wp k (pc + 1) ls (.int (x - y) :: st) h Q := Wp_go ((stp_of hd).trans (by simp [exec, o1, x_ii, go]))
theorem e_imul (hd : decode (byt k) pc = .ok (.imul, 1)) : Wp k pc ls (.int y :: .int x :: st) h Q ↔ Wp k (pc + 1) ls (.int (x * y) :: st) h Q := Wp_go ((stp_of hd).trans (by simp [exec, o1, x_ii, go]))
theorem e_iand (hd : decode (byt k) pc = .ok (.iand, 1)) : Wp k pc ls (.int y :: .int x :: st) h Q ↔ Wp k (pc + 1) ls (.int (x &&& y) :: st) h Q := Wp_go ((stp_of hd).trans (by simp [exec, o1, x_ii, go]))
theorem e_ixor (hd : decode (byt k) pc = .ok (.ixor, 1)) : Wp k pc ls (.int y :: .int x :: st) h Q ↔ Wp k (pc + 1) ls (.int (x ^^^ y) :: st) h Q := Wp_go ((stp_of hd).trans (by simp [exec, o1, x_ii, go]))
theorem e_ishl (hd : decode (byt k) pc = .ok (.ishl, 1)) : Wp k pc ls (.int y :: .int x :: st) h Q ↔ Wp k (pc + 1) ls (.int (x <<< (y &&& 31)) :: st) h Q := Wp_go ((stp_of hd).trans (by simp [exec, o1, x_ii, go]))
theorem e_ishr (hd : decode (byt k) pc = .ok (.ishr, 1)) : Wp k pc ls (.int y :: .int x :: st) h Q ↔ Wp k (pc + 1) ls (.int (x >>> (y &&& 31)) :: st) h Q := Wp_go ((stp_of hd).trans (by simp [exec, o1, x_ii, go]))
theorem e_iushr (hd : decode (byt k) pc = .ok (.iushr, 1)) : Wp k pc ls (.int y :: .int x :: st) h Q ↔ Wp k (pc + 1) ls (.int ((x.toUInt32 >>> (y.toUInt32 &&& Int32.toUInt32 31)).toInt32) :: st) h Q := Wp_go ((stp_of hd).trans (by simp [exec, o1, x_ii, go]))
theorem e_idiv (hd : decode (byt k) pc = .ok (.idiv, 1)) : Wp k pc ls (.int y :: .int x :: st) h Q ↔ (¬ y = 0 ∧ Wp k (pc + 1) ls (.int (x / y) :: st) h Q) := Wp_chk ((stp_of hd).trans (by by_cases e : y = 0 <;> simp [exec, o1, x_ii, e]))
theorem e_irem (hd : decode (byt k) pc = .ok (.irem, 1)) : Wp k pc ls (.int y :: .int x :: st) h Q ↔ (¬ y = 0 ∧ Wp k (pc + 1) ls (.int (x - x / y * y) :: st) h Q) := Wp_chk ((stp_of hd).trans (by by_cases e : y = 0 <;> simp [exec, o1, x_ii, e]))
theorem e_ladd (hd : decode (byt k) pc = .ok (.ladd, 1)) : Wp k pc ls (.long b :: .long a :: st) h Q ↔ Wp k (pc + 1) ls (.long (a + b) :: st) h Q := Wp_go ((stp_of hd).trans (by simp [exec, o1, x_ll, go]))
theorem e_lsub (hd : decode (byt k) pc = .ok (.lsub, 1)) : Wp k pc ls (.long b :: .long a :: st) h Q ↔ Wp k (pc + 1) ls (.long (a - b) :: st) h Q := Wp_go ((stp_of hd).trans (by simp [exec, o1, x_ll, go]))
theorem e_lmul (hd : decode (byt k) pc = .ok (.lmul, 1)) : Wp k pc ls (.long b :: .long a :: st) h Q ↔ Wp k (pc + 1) ls (.long (a * b) :: st) h Q := Wp_go ((stp_of hd).trans (by simp [exec, o1, x_ll, go]))
theorem e_ldiv (hd : decode (byt k) pc = .ok (.ldiv, 1)) : Wp k pc ls (.long b :: .long a :: st) h Q ↔ (¬ b = 0 ∧ Wp k (pc + 1) ls (.long (a / b) :: st) h Q) := Wp_chk ((stp_of hd).trans (by by_cases e : b = 0 <;> simp [exec, o1, x_ll, e]))
theorem e_lrem (hd : decode (byt k) pc = .ok (.lrem, 1)) : Wp k pc ls (.long b :: .long a :: st) h Q ↔ (¬ b = 0 ∧ Wp k (pc + 1) ls (.long (a - a / b * b) :: st) h Q) := Wp_chk ((stp_of hd).trans (by by_cases e : b = 0 <;> simp [exec, o1, x_ll, e]))
theorem e_lshl (hd : decode (byt k) pc = .ok (.lshl, 1)) : Wp k pc ls (.int y :: .long a :: st) h Q ↔ Wp k (pc + 1) ls (.long (a <<< (y.toInt64 &&& 63)) :: st) h Q := Wp_go ((stp_of hd).trans rfl)
theorem e_ineg (hd : decode (byt k) pc = .ok (.ineg, 1)) : Wp k pc ls (.int x :: st) h Q ↔ Wp k (pc + 1) ls (.int (-x) :: st) h Q := Wp_go ((stp_of hd).trans rfl)
theorem e_lneg (hd : decode (byt k) pc = .ok (.lneg, 1)) : Wp k pc ls (.long a :: st) h Q ↔ Wp k (pc + 1) ls (.long (-a) :: st) h Q := Wp_go ((stp_of hd).trans rfl)
theorem e_i2l (hd : decode (byt k) pc = .ok (.i2l, 1)) : Wp k pc ls (.int x :: st) h Q ↔ Wp k (pc + 1) ls (.long x.toInt64 :: st) h Q := Wp_go ((stp_of hd).trans rfl)
theorem e_i2b (hd : decode (byt k) pc = .ok (.i2b, 1)) : Wp k pc ls (.int x :: st) h Q ↔ Wp k (pc + 1) ls (.int x.toInt8.toInt32 :: st) h Q := Wp_go ((stp_of hd).trans rfl)
theorem e_l2i (hd : decode (byt k) pc = .ok (.l2i, 1)) : Wp k pc ls (.long a :: st) h Q ↔ Wp k (pc + 1) ls (.int a.toInt32 :: st) h Q := Wp_go ((stp_of hd).trans rfl)
theorem e_lcmp (hd : decode (byt k) pc = .ok (.lcmp, 1)) : Wp k pc ls (.long b :: .long a :: st) h Q ↔ Wp k (pc + 1) ls (.int (lg_cmp a b) :: st) h Q := Wp_go ((stp_of hd).trans rfl)
theorem e_dupI (hd : decode (byt k) pc = .ok (.dup, 1)) : Wp k pc ls (.int x :: st) h Q ↔ Wp k (pc + 1) ls (.int x :: .int x :: st) h Q := Wp_go ((stp_of hd).trans rfl)
theorem e_dupR (hd : decode (byt k) pc = .ok (.dup, 1)) : Wp k pc ls (.ref i :: st) h Q ↔ Wp k (pc + 1) ls (.ref i :: .ref i :: st) h Q := Wp_go ((stp_of hd).trans rfl)
theorem e_dx1 (hd : decode (byt k) pc = .ok (.dup_x1, 1)) : Wp k pc ls (.int x :: .ref i :: st) h Q ↔ Wp k (pc + 1) ls (.int x :: .ref i :: .int x :: st) h Q := Wp_go ((stp_of hd).trans rfl)
theorem e_dup2R (hd : decode (byt k) pc = .ok (.dup2, 1)) : Wp k pc ls (.int x :: .ref i :: st) h Q ↔ Wp k (pc + 1) ls (.int x :: .ref i :: .int x :: .ref i :: st) h Q := Wp_go ((stp_of hd).trans rfl)
theorem e_dup2L (hd : decode (byt k) pc = .ok (.dup2, 1)) : Wp k pc ls (.long a :: st) h Q ↔ Wp k (pc + 1) ls (.long a :: .long a :: st) h Q := Wp_go ((stp_of hd).trans rfl)
theorem e_popI (hd : decode (byt k) pc = .ok (.pop, 1)) : Wp k pc ls (.int x :: st) h Q ↔ Wp k (pc + 1) ls st h Q := Wp_go ((stp_of hd).trans rfl)
theorem e_popR (hd : decode (byt k) pc = .ok (.pop, 1)) : Wp k pc ls (.ref i :: st) h Q ↔ Wp k (pc + 1) ls st h Q := Wp_go ((stp_of hd).trans rfl)
theorem jmp_of {off : Int} {t nx : Nat} {c : Bool} (ht : (pc : Int) + off = (t : Int)) : jmp pc off ls st h c nx = go (if c = true then t else nx) ls st h := by
  unfold jmp
  rw [ht, if_pos (by omega)]
  simp
theorem e_goto {off : Int} {t : Nat} (hd : decode (byt k) pc = .ok (.goto off, 3)) (ht : (pc : Int) + off = (t : Int)) : Wp k pc ls st h Q ↔ Wp k t ls st h Q := Wp_go ((stp_of hd).trans (by simp only [exec, o1, jmp_of ht, if_true]; rfl))
theorem e_br {t f : Nat} {c : Bool} {p : Prop} (hp : (c = true) = p) (hs : stp k pc ls st h = go (if c = true then t else f) ls' st h) : Wp k pc ls st h Q ↔ Br k t f ls' st h Q p := by
  rw [Wp_go hs, Br_if, hp]
theorem e_brs {t f : Nat} {c : Bool} {p : Prop} {st' : List Value} (hp : (c = true) = p) (hs : stp k pc ls st h = go (if c = true then t else f) ls st' h) : Wp k pc ls st h Q ↔ Br k t f ls st' h Q p := by
  rw [Wp_go hs, Br_if, hp]
theorem e_if {c : ClassFile.Cond} {off : Int} {t : Nat} {p : Prop} (hd : decode (byt k) pc = .ok (.ifCond c off, 3)) (ht : (pc : Int) + off = (t : Int)) (hp : (cmpI c x 0 = true) = p) : Wp k pc ls (.int x :: st) h Q ↔ Br k t (pc + 3) ls st h Q p := e_brs hp ((stp_of hd).trans (by simp only [exec, o1, x_if, jmp_of ht, if_true]))
theorem e_ic {c : ClassFile.Cond} {off : Int} {t : Nat} {p : Prop} (hd : decode (byt k) pc = .ok (.if_icmp c off, 3)) (ht : (pc : Int) + off = (t : Int)) (hp : (cmpI c x y = true) = p) : Wp k pc ls (.int y :: .int x :: st) h Q ↔ Br k t (pc + 3) ls st h Q p := e_brs hp ((stp_of hd).trans (by simp only [exec, o1, x_ic, jmp_of ht, if_true]))
theorem e_ifnull {off : Int} {t : Nat} (hd : decode (byt k) pc = .ok (.ifnull off, 3)) (ht : (pc : Int) + off = (t : Int)) : Wp k pc ls (.ref i :: st) h Q ↔ Br k t (pc + 3) ls st h Q (i = 0) := e_brs (c := decide (i = 0) == true) (by simp) ((stp_of hd).trans (by simp only [exec, o1, x_nu, jmp_of ht, if_true]))
theorem e_ifnn {off : Int} {t : Nat} (hd : decode (byt k) pc = .ok (.ifnonnull off, 3)) (ht : (pc : Int) + off = (t : Int)) : Wp k pc ls (.ref i :: st) h Q ↔ Br k t (pc + 3) ls st h Q (¬ i = 0) := e_brs (c := decide (i = 0) == false) (by simp) ((stp_of hd).trans (by simp only [exec, o1, x_nu, jmp_of ht, if_true]))
theorem c_eq : (cmpI .eq x y = true) = (x = y) := by simp [cmpI]
theorem c_ne : (cmpI .ne x y = true) = (¬ x = y) := by simp [cmpI]
theorem c_lt : (cmpI .lt x y = true) = (x < y) := by simp [cmpI]
theorem c_ge : (cmpI .ge x y = true) = (y ≤ x) := by simp [cmpI]
theorem c_gt : (cmpI .gt x y = true) = (y < x) := by simp [cmpI]
theorem c_le : (cmpI .le x y = true) = (x ≤ y) := by simp [cmpI]
theorem e_get {z g s ty : Nat} {q : Bool × String × Nat × Nat} (hd : decode (byt k) pc = .ok (.getfield z, 3)) (hf : look (ftb (mOw k)) z = some (g, s, ty, q)) {vv : Value} (hv : fva ty (n, sl, C, Z, I, L, R) i s = vv) {p : Prop} (hp : (inG g (C i) = true) = p) : Wp k pc ls (.ref i :: st) (n, sl, C, Z, I, L, R) Q ↔ (p ∧ Wp k (pc + 3) ls (vv :: st) (n, sl, C, Z, I, L, R) Q) := by
  subst hv
  subst hp
  exact Wp_chk ((stp_of hd).trans (by simp only [exec, o1, x_get, hf, if_true]))
theorem e_putI {z g s : Nat} {fin : Bool} {ref : String} {q : Nat × Nat} (hd : decode (byt k) pc = .ok (.putfield z, 3)) (hf : look (ftb (mOw k)) z = some (g, s, 0, fin, ref, q)) (hfin : fin = false ∨ (isIni k = true ∧ ref = ow (mOw k) ∧ q.2 = 0)) {p : Prop} (hp : (inG g (C i) = true) = p) : Wp k pc ls (.int x :: .ref i :: st) (n, sl, C, Z, I, L, R) Q ↔ (p ∧ Wp k (pc + 3) ls st (n, sl, C, Z, u2 I i s x, L, R) Q) := by
  subst hp
  exact Wp_chk ((stp_of hd).trans (by simp only [exec, o1, x_put, hf, if_true, hfin, and_true, true_or]))
theorem e_putZ {z g s : Nat} {fin : Bool} {ref : String} {q : Nat × Nat} (hd : decode (byt k) pc = .ok (.putfield z, 3)) (hf : look (ftb (mOw k)) z = some (g, s, 3, fin, ref, q)) (hfin : fin = false ∨ (isIni k = true ∧ ref = ow (mOw k) ∧ q.2 = 0)) {p : Prop} (hp : (inG g (C i) = true) = p) : Wp k pc ls (.int x :: .ref i :: st) (n, sl, C, Z, I, L, R) Q ↔ ((p ∧ (x = 0 ∨ x = 1)) ∧ Wp k (pc + 3) ls st (n, sl, C, Z, u2 I i s x, L, R) Q) := by
  subst hp
  refine Wp_chk ((stp_of hd).trans ?_)
  simp only [exec, o1, x_put, hf, if_true, hfin, and_true]
  by_cases h1 : inG g (C i) = true <;> by_cases h2 : x = 0 ∨ x = 1 <;> simp [h1, h2]
theorem e_putL {z g s : Nat} {fin : Bool} {ref : String} {q : Nat × Nat} (hd : decode (byt k) pc = .ok (.putfield z, 3)) (hf : look (ftb (mOw k)) z = some (g, s, 1, fin, ref, q)) (hfin : fin = false ∨ (isIni k = true ∧ ref = ow (mOw k) ∧ q.2 = 0)) {p : Prop} (hp : (inG g (C i) = true) = p) : Wp k pc ls (.long a :: .ref i :: st) (n, sl, C, Z, I, L, R) Q ↔ (p ∧ Wp k (pc + 3) ls st (n, sl, C, Z, I, u2 L i s a, R) Q) := by
  subst hp
  exact Wp_chk ((stp_of hd).trans (by simp only [exec, o1, x_put, hf, if_true, hfin, and_true]))
theorem e_putR {z g s : Nat} {fin : Bool} {ref : String} {q : Nat × Nat} (hd : decode (byt k) pc = .ok (.putfield z, 3)) (hf : look (ftb (mOw k)) z = some (g, s, 2, fin, ref, q)) (hfin : fin = false ∨ (isIni k = true ∧ ref = ow (mOw k) ∧ q.2 = 0)) {p : Prop} (hp : (inG g (C i) = true) = p) : Wp k pc ls (.ref j :: .ref i :: st) (n, sl, C, Z, I, L, R) Q ↔ (p ∧ Wp k (pc + 3) ls st (n, sl, C, Z, I, L, u2 R i s j) Q) := by
  subst hp
  exact Wp_chk ((stp_of hd).trans (by simp only [exec, o1, x_put, hf, if_true, hfin, and_true]))
theorem e_iald (hd : decode (byt k) pc = .ok (.iaload, 1)) : Wp k pc ls (.int y :: .ref i :: st) (n, sl, C, Z, I, L, R) Q ↔ ((inb y (Z i) = true ∧ C i = 21) ∧ Wp k (pc + 1) ls (.int (I i (ix y)) :: st) (n, sl, C, Z, I, L, R) Q) := Wp_chk ((stp_of hd).trans (by by_cases h1 : inb y (Z i) = true <;> by_cases h2 : C i = 21 <;> simp [exec, o1, x_ald, h1, h2]))
theorem e_lald (hd : decode (byt k) pc = .ok (.laload, 1)) : Wp k pc ls (.int y :: .ref i :: st) (n, sl, C, Z, I, L, R) Q ↔ ((inb y (Z i) = true ∧ C i = 22) ∧ Wp k (pc + 1) ls (.long (L i (ix y)) :: st) (n, sl, C, Z, I, L, R) Q) := Wp_chk ((stp_of hd).trans (by by_cases h1 : inb y (Z i) = true <;> by_cases h2 : C i = 22 <;> simp [exec, o1, x_ald, h1, h2]))
theorem e_aald (hd : decode (byt k) pc = .ok (.aaload, 1)) : Wp k pc ls (.int y :: .ref i :: st) (n, sl, C, Z, I, L, R) Q ↔ ((inb y (Z i) = true ∧ (C i = 23 ∨ C i = 24 ∨ C i = 25)) ∧ Wp k (pc + 1) ls (.ref (R i (ix y)) :: st) (n, sl, C, Z, I, L, R) Q) := Wp_chk ((stp_of hd).trans (by by_cases h1 : inb y (Z i) = true <;> by_cases h2 : C i = 23 ∨ C i = 24 ∨ C i = 25 <;> simp [exec, o1, x_ald, h1, h2]))
theorem e_iast (hd : decode (byt k) pc = .ok (.iastore, 1)) : Wp k pc ls (.int x :: .int y :: .ref i :: st) (n, sl, C, Z, I, L, R) Q ↔ ((inb y (Z i) = true ∧ C i = 21) ∧ Wp k (pc + 1) ls st (n, sl, C, Z, u2 I i (ix y) x, L, R) Q) := Wp_chk ((stp_of hd).trans (by simp [exec, o1, x_ast]))
theorem e_last (hd : decode (byt k) pc = .ok (.lastore, 1)) : Wp k pc ls (.long a :: .int y :: .ref i :: st) (n, sl, C, Z, I, L, R) Q ↔ ((inb y (Z i) = true ∧ C i = 22) ∧ Wp k (pc + 1) ls st (n, sl, C, Z, I, u2 L i (ix y) a, R) Q) := Wp_chk ((stp_of hd).trans (by simp [exec, o1, x_ast]))
theorem e_aast (hd : decode (byt k) pc = .ok (.aastore, 1)) : Wp k pc ls (.ref j :: .int y :: .ref i :: st) (n, sl, C, Z, I, L, R) Q ↔ ((inb y (Z i) = true ∧ ((j = 0 ∧ (C i = 24 ∨ C i = 25)) ∨ okS (C i) (C j) = true)) ∧ Wp k (pc + 1) ls st (n, sl, C, Z, I, L, u2 R i (ix y) j) Q) := Wp_chk ((stp_of hd).trans (by simp [exec, o1, x_ast]))
theorem e_alen (hd : decode (byt k) pc = .ok (.arraylength, 1)) : Wp k pc ls (.ref i :: st) (n, sl, C, Z, I, L, R) Q ↔ ((21 ≤ C i ∧ C i ≤ 25) ∧ Wp k (pc + 1) ls (.int (Int32.ofNat (Z i)) :: st) (n, sl, C, Z, I, L, R) Q) := Wp_chk ((stp_of hd).trans (by simp [exec, o1, x_len]))
theorem e_newI (hd : decode (byt k) pc = .ok (.newarray .int, 2)) : Wp k pc ls (.int x :: st) (n, sl, C, Z, I, L, R) Q ↔ ((¬ x < 0 ∧ ix x ≤ 1000) ∧ Wp k (pc + 2) ls (.ref (n + 1) :: st) (n + 1, sl + ix x, va_up C (n + 1) 21, va_up Z (n + 1) (ix x), va_up I (n + 1) (fun _ => 0), va_up L (n + 1) (fun _ => 0), va_up R (n + 1) (fun _ => 0)) Q) := Wp_chk ((stp_of hd).trans (by simp [exec, o1, x_newa, nwA]))
theorem e_newL (hd : decode (byt k) pc = .ok (.newarray .long, 2)) : Wp k pc ls (.int x :: st) (n, sl, C, Z, I, L, R) Q ↔ ((¬ x < 0 ∧ ix x ≤ 1000) ∧ Wp k (pc + 2) ls (.ref (n + 1) :: st) (n + 1, sl + ix x, va_up C (n + 1) 22, va_up Z (n + 1) (ix x), va_up I (n + 1) (fun _ => 0), va_up L (n + 1) (fun _ => 0), va_up R (n + 1) (fun _ => 0)) Q) := Wp_chk ((stp_of hd).trans (by simp [exec, o1, x_newa, nwA]))
theorem e_anewS {z p : Nat} (hd : decode (byt k) pc = .ok (.anewarray z, 3)) (hf : look (ctb (mOw k)) z = some (7, p)) : Wp k pc ls (.int x :: st) (n, sl, C, Z, I, L, R) Q ↔ ((¬ x < 0 ∧ ix x ≤ 1000) ∧ Wp k (pc + 3) ls (.ref (n + 1) :: st) (n + 1, sl + ix x, va_up C (n + 1) 24, va_up Z (n + 1) (ix x), va_up I (n + 1) (fun _ => 0), va_up L (n + 1) (fun _ => 0), va_up R (n + 1) (fun _ => 0)) Q) := Wp_chk ((stp_of hd).trans (by simp [exec, o1, x_anew, hf, x_newa, nwA]))
theorem e_anewT {z p : Nat} (hd : decode (byt k) pc = .ok (.anewarray z, 3)) (hf : look (ctb (mOw k)) z = some (6, p)) : Wp k pc ls (.int x :: st) (n, sl, C, Z, I, L, R) Q ↔ ((¬ x < 0 ∧ ix x ≤ 1000) ∧ Wp k (pc + 3) ls (.ref (n + 1) :: st) (n + 1, sl + ix x, va_up C (n + 1) 25, va_up Z (n + 1) (ix x), va_up I (n + 1) (fun _ => 0), va_up L (n + 1) (fun _ => 0), va_up R (n + 1) (fun _ => 0)) Q) := Wp_chk ((stp_of hd).trans (by simp [exec, o1, x_anew, hf, x_newa, nwA]))
theorem e_mna {z p : Nat} (hd : decode (byt k) pc = .ok (.multianewarray z 2, 4)) (hf : look (ctb (mOw k)) z = some (23, p)) : Wp k pc ls (.int y :: .int x :: st) h Q ↔ ((¬ x < 0 ∧ ix x ≤ 1000 ∧ ¬ y < 0 ∧ ix y ≤ 1000) ∧ Wp k (pc + 4) ls (.ref (h.1 + 1) :: st) (nwG h (ix x) (ix y)) Q) := Wp_chk ((stp_of hd).trans (by simp [exec, o1, x_mna, hf]))
theorem e_new {z p c : Nat} (hd : decode (byt k) pc = .ok (.new z, 3)) (hf : look (ctb (mOw k)) z = some (c, p)) (hc : c < 11) {nf : Nat} (hn : nfs c = nf) : Wp k pc ls st (n, sl, C, Z, I, L, R) Q ↔ Wp k (pc + 3) ls (.ref (n + 1) :: st) (n + 1, sl + nf, va_up C (n + 1) (c + 1), Z, va_up I (n + 1) (fun _ => 0), va_up L (n + 1) (fun _ => 0), va_up R (n + 1) (fun _ => 0)) Q := by
  subst hn
  exact Wp_go ((stp_of hd).trans (by simp [exec, o1, x_new, hf, hc, nwO, go]))
theorem e_io {z p c : Nat} (hd : decode (byt k) pc = .ok (.instanceof z, 3)) (hf : look (ctb (mOw k)) z = some (c, p)) (hc : c = 1 ∨ c = 4 ∨ c = 5) : Wp k pc ls (.ref i :: st) (n, sl, C, Z, I, L, R) Q ↔ (inG 7 (C i) = true ∧ Wp k (pc + 3) ls (.int (if isa (C i) c = true then 1 else 0) :: st) (n, sl, C, Z, I, L, R) Q) := Wp_chk ((stp_of hd).trans (by simp only [exec, o1, x_io, hf, hc, and_true, if_true]))
theorem e_rI {p : Prop} (hd : decode (byt k) pc = .ok (.ireturn, 1)) (hr : mRt k = some .int) : Wp k pc ls [.int x] h Q ↔ Q (some (.int x)) h := Wp_ret ((stp_of hd).trans (by simp [exec, o1, x_ret, hr]))
theorem e_rZ (hd : decode (byt k) pc = .ok (.ireturn, 1)) (hr : mRt k = some .boolean) : Wp k pc ls [.int x] h Q ↔ ((x = 0 ∨ x = 1) ∧ Q (some (.int x)) h) := Wp_chkR ((stp_of hd).trans (by simp [exec, o1, x_ret, hr]))
theorem e_rL (hd : decode (byt k) pc = .ok (.lreturn, 1)) (hr : mRt k = some .long) : Wp k pc ls [.long a] h Q ↔ Q (some (.long a)) h := Wp_ret ((stp_of hd).trans (by simp [exec, o1, x_ret, hr]))
theorem e_rR (hd : decode (byt k) pc = .ok (.areturn, 1)) (hr : mRt k = some (.object "SteerBench$Steps") ∨ mRt k = some (.array .int)) : Wp k pc ls [.ref i] h Q ↔ Q (some (.ref i)) h := Wp_ret ((stp_of hd).trans (by simp [exec, o1, x_ret, hr]))
theorem e_rV (hd : decode (byt k) pc = .ok (.return_, 1)) (hr : mRt k = none) : Wp k pc ls [] h Q ↔ Q none h := Wp_ret ((stp_of hd).trans (by simp [exec, o1, x_ret, hr]))
theorem e_is {z kd na k2 : Nat} {m : MethodName} {s : String} {al : List (Nat × Nat × List Nat)} {q : List Nat} {as : List Value} {as' : Lo} (hd : decode (byt k) pc = .ok (.invokestatic z, 3)) (hf : look (vtb (mOw k)) z = some (kd, na, m, s, al, q)) (hk : kd = 0 ∨ kd = 7) (ha : alt al 0 = some k2) (hn : as.length = na) (hr : rmOk k k2 = true) (hy : (lay as).length ≤ mxl k2) (hl : pad (mxl k2) (lay as) = as') : Wp k pc ls (as.reverse ++ st) h Q ↔ (wsum st ≤ 8 ∧ Call k2 as' h k (pc + 3) ls st Q) := by
  subst hl
  subst hn
  refine Wp_chkC ((stp_of hd).trans ?_) hr hy
  have e1 : (as.reverse ++ st).take as.length = as.reverse := by rw [List.take_append_of_le_length (by simp), List.take_of_length_le (by simp)]
  have e2 : (as.reverse ++ st).drop as.length = st := by rw [List.drop_append_of_le_length (by simp), List.drop_of_length_le (by simp), List.nil_append]
  simp only [exec, o1, x_is, hf, hk, ha, if_true, e1, e2, List.length_reverse, List.reverse_reverse]
theorem e_iv {z kd na k2 c : Nat} {m : MethodName} {s : String} {al : List (Nat × Nat × List Nat)} {q : List Nat} {as : List Value} {as' : Lo} (hd : decode (byt k) pc = .ok (.invokevirtual z, 3)) (hf : look (vtb (mOw k)) z = some (kd, na, m, s, al, q)) (hk : kd = 2 ∨ kd = 3) (ha : alt al c = some k2) (hn : as.length = na) (hr : rmOk k k2 = true) (hy : (lay (.ref i :: as)).length ≤ mxl k2) (hl : pad (mxl k2) (lay (.ref i :: as)) = as') (hC : C i = c) : Wp k pc ls (as.reverse ++ .ref i :: st) (n, sl, C, Z, I, L, R) Q ↔ (wsum st ≤ 8 ∧ Call k2 as' (n, sl, C, Z, I, L, R) k (pc + 3) ls st Q) := by
  subst hl
  subst hn
  refine Wp_chkC ((stp_of hd).trans ?_) hr hy
  have e1 : (as.reverse ++ .ref i :: st).take as.length = as.reverse := by rw [List.take_append_of_le_length (by simp), List.take_of_length_le (by simp)]
  have e2 : (as.reverse ++ .ref i :: st).drop as.length = .ref i :: st := by rw [List.drop_append_of_le_length (by simp), List.drop_of_length_le (by simp), List.nil_append]
  simp only [exec, o1, x_iv, hf, hk, ha, if_true, e1, e2, List.length_reverse, List.reverse_reverse, hC, and_self]
theorem e_ip {z kd na k2 : Nat} {m : MethodName} {s : String} {al : List (Nat × Nat × List Nat)} {q : List Nat} {as : List Value} {as' : Lo} (hd : decode (byt k) pc = .ok (.invokespecial z, 3)) (hf : look (vtb (mOw k)) z = some (kd, na, m, s, al, q)) (hk : kd = 1 ∨ kd = 8) (ha : alt al 0 = some k2) (hn : as.length = na) (hr : rmOk k k2 = true) (hy : (lay (.ref i :: as)).length ≤ mxl k2) (hl : pad (mxl k2) (lay (.ref i :: as)) = as') (hi : i ≠ 0) : Wp k pc ls (as.reverse ++ .ref i :: st) h Q ↔ (wsum st ≤ 8 ∧ Call k2 as' h k (pc + 3) ls st Q) := by
  subst hl
  subst hn
  refine Wp_chkC ((stp_of hd).trans ?_) hr hy
  have e1 : (as.reverse ++ .ref i :: st).take as.length = as.reverse := by rw [List.take_append_of_le_length (by simp), List.take_of_length_le (by simp)]
  have e2 : (as.reverse ++ .ref i :: st).drop as.length = .ref i :: st := by rw [List.drop_append_of_le_length (by simp), List.drop_of_length_le (by simp), List.nil_append]
  have e3 : ¬ kd = 5 := by omega
  simp only [exec, o1, x_ip, hf, if_true, e1, e2, List.length_reverse, List.reverse_reverse, e3, if_false, hk, ha, hi, ne_eq, not_false_eq_true, and_self]
theorem e_isu {z kd na k2 : Nat} {m : MethodName} {s : String} {al : List (Nat × Nat × List Nat)} {q : List Nat} {as : List Value} {as' : Lo} (hd : decode (byt k) pc = .ok (.invokespecial z, 3)) (hf : look (vtb (mOw k)) z = some (kd, na, m, s, al, q)) (hk : kd = 4 ∨ kd = 9) (ha : alt al 0 = some k2) (hn : as.length = na) (hr : rmOk k k2 = true) (hy : (lay (.ref i :: as)).length ≤ mxl k2) (hl : pad (mxl k2) (lay (.ref i :: as)) = as') (hC : inG 7 (C i) = true) : Wp k pc ls (as.reverse ++ .ref i :: st) (n, sl, C, Z, I, L, R) Q ↔ (wsum st ≤ 8 ∧ Call k2 as' (n, sl, C, Z, I, L, R) k (pc + 3) ls st Q) := by
  subst hl
  subst hn
  refine Wp_chkC ((stp_of hd).trans ?_) hr hy
  have e1 : (as.reverse ++ .ref i :: st).take as.length = as.reverse := by rw [List.take_append_of_le_length (by simp), List.take_of_length_le (by simp)]
  have e2 : (as.reverse ++ .ref i :: st).drop as.length = .ref i :: st := by rw [List.drop_append_of_le_length (by simp), List.drop_of_length_le (by simp), List.nil_append]
  have e3 : ¬ kd = 5 := by omega
  have e4 : ¬ (kd = 1 ∨ kd = 8) := by omega
  simp only [exec, o1, x_ip, hf, if_true, e1, e2, List.length_reverse, List.reverse_reverse, e3, if_false, hk, ha, e4, false_and, hC, and_self]
theorem e_oi {z na : Nat} {m : MethodName} {s : String} {al : List (Nat × Nat × List Nat)} {q : List Nat} (hd : decode (byt k) pc = .ok (.invokespecial z, 3)) (hf : look (vtb (mOw k)) z = some (5, 0, m, s, al, q)) (hr : rmL k 20 = true) : Wp k pc ls (.ref i :: st) h Q ↔ ((wsum st ≤ 8 ∧ i ≠ 0) ∧ Wp k (pc + 3) ls st h Q) := Wp_chk ((stp_of hd).trans (by simp [exec, o1, x_ip, hf, hr]))
theorem e_cpy {z na : Nat} {m : MethodName} {s : String} {al : List (Nat × Nat × List Nat)} {q : List Nat} (hd : decode (byt k) pc = .ok (.invokestatic z, 3)) (hf : look (vtb (mOw k)) z = some (6, na, m, s, al, q)) (hr : rmL k 48 = true) : Wp k pc ls (.int v :: .int y :: .ref j :: .int x :: .ref i :: st) (n, sl, C, Z, I, L, R) Q ↔ ((wsum st ≤ 8 ∧ C i = 22 ∧ C j = 22 ∧ ¬ x < 0 ∧ ¬ y < 0 ∧ ¬ v < 0 ∧ ix x + ix v ≤ Z i ∧ ix y + ix v ≤ Z j) ∧ Wp k (pc + 3) ls st (n, sl, C, Z, I, va_up L j (va_cpy (L i) (L j) (ix x) (ix y) (ix v)), R) Q) := Wp_chk ((stp_of hd).trans (by simp [exec, o1, x_is, hf, cpyL, hr]))
theorem e_max {z na : Nat} {m : MethodName} {s : String} {al : List (Nat × Nat × List Nat)} {q : List Nat} (hd : decode (byt k) pc = .ok (.invokestatic z, 3)) (hf : look (vtb (mOw k)) z = some (10, na, m, s, al, q)) (hr : rmL k 21 = true) : Wp k pc ls (.int y :: .int x :: st) h Q ↔ (wsum st ≤ 8 ∧ Wp k (pc + 3) ls (.int (if x < y then y else x) :: st) h Q) := Wp_chk ((stp_of hd).trans (by simp [exec, o1, x_is, hf, hr]))
theorem e_min {z na : Nat} {m : MethodName} {s : String} {al : List (Nat × Nat × List Nat)} {q : List Nat} (hd : decode (byt k) pc = .ok (.invokestatic z, 3)) (hf : look (vtb (mOw k)) z = some (11, na, m, s, al, q)) (hr : rmL k 21 = true) : Wp k pc ls (.int y :: .int x :: st) h Q ↔ (wsum st ≤ 8 ∧ Wp k (pc + 3) ls (.int (if y < x then y else x) :: st) h Q) := Wp_chk ((stp_of hd).trans (by simp [exec, o1, x_is, hf, hr]))
theorem e_abs {z na : Nat} {m : MethodName} {s : String} {al : List (Nat × Nat × List Nat)} {q : List Nat} (hd : decode (byt k) pc = .ok (.invokestatic z, 3)) (hf : look (vtb (mOw k)) z = some (12, na, m, s, al, q)) (hr : rmL k 21 = true) : Wp k pc ls (.long a :: st) h Q ↔ (wsum st ≤ 8 ∧ Wp k (pc + 3) ls (.long (if 0 < a then a else -a) :: st) h Q) := Wp_chk ((stp_of hd).trans (by simp [exec, o1, x_is, hf, hr]))
end OPS
end
section
theorem inG_ne {g c : Nat} (h : g ≠ 7) : (inG g c = true) = (c = g + 1) := by simp [inG, h]
theorem clr_i (x : Int32) : clr (some (.int x)) = some (.int x) := rfl
theorem clr_r (x : Nat) : clr (some (.ref x)) = some (.ref x) := rfl
theorem clr_n : clr none = none := rfl
theorem clr_l (x : Int64) : clr (some (.long x)) = none := rfl
theorem ws_0 : wsum [] = 0 := rfl
theorem ws_i (x : Int32) (t : List Value) : wsum (.int x :: t) = 1 + wsum t := by simp [wsum, Value.category]
theorem ws_l (x : Int64) (t : List Value) : wsum (.long x :: t) = 2 + wsum t := by simp [wsum, Value.category]
theorem ws_r (x : Nat) (t : List Value) : wsum (.ref x :: t) = 1 + wsum t := by simp [wsum, Value.category]
theorem ix_nI {j : Nat} (h : j < 2 ^ 31) : ix (nI j) = j := nI_clamp h
theorem inb_nI {j n : Nat} (h : j < 2 ^ 31) : inb (nI j) n = decide (j < n) := by
  simp [inb, ix_nI h, nI_pos h]
theorem ixs : ix (0) = 0 ∧ ix (1) = 1 ∧ ix (2) = 2 ∧ ix (3) = 3 ∧ ix (4) = 4 ∧ ix (5) = 5 ∧ ix (6) = 6 ∧ ix (7) = 7 ∧ ix (8) = 8 ∧ ix (9) = 9 ∧ ix (10) = 10 ∧ ix (11) = 11 ∧ ix (12) = 12 ∧ ix (13) = 13 ∧ ix (14) = 14 ∧ ix (15) = 15 ∧ ix (16) = 16 ∧ ix (17) = 17 ∧ ix (18) = 18 ∧ ix (19) = 19 ∧ ix (20) = 20 ∧ ix (21) = 21 ∧ ix (22) = 22 ∧ ix (23) = 23 ∧ ix (24) = 24 ∧ ix (25) = 25 ∧ ix (26) = 26 ∧ ix (27) = 27 ∧ ix (28) = 28 ∧ ix (29) = 29 ∧ ix (30) = 30 ∧ ix (31) = 31 ∧ ix (32) = 32 ∧ ix (33) = 33 ∧ ix (34) = 34 ∧ ix (35) = 35 ∧ ix (36) = 36 ∧ ix (37) = 37 ∧ ix (38) = 38 ∧ ix (39) = 39 ∧ ix (40) = 40 := by decide
theorem inbs : (∀ n, inb (0) n = decide (0 < n)) ∧ (∀ n, inb (1) n = decide (1 < n)) ∧ (∀ n, inb (2) n = decide (2 < n)) ∧ (∀ n, inb (3) n = decide (3 < n)) ∧ (∀ n, inb (4) n = decide (4 < n)) ∧ (∀ n, inb (5) n = decide (5 < n)) ∧ (∀ n, inb (6) n = decide (6 < n)) ∧ (∀ n, inb (7) n = decide (7 < n)) ∧ (∀ n, inb (8) n = decide (8 < n)) ∧ (∀ n, inb (9) n = decide (9 < n)) ∧ (∀ n, inb (10) n = decide (10 < n)) ∧ (∀ n, inb (11) n = decide (11 < n)) ∧ (∀ n, inb (12) n = decide (12 < n)) ∧ (∀ n, inb (13) n = decide (13 < n)) ∧ (∀ n, inb (14) n = decide (14 < n)) ∧ (∀ n, inb (15) n = decide (15 < n)) ∧ (∀ n, inb (16) n = decide (16 < n)) ∧ (∀ n, inb (17) n = decide (17 < n)) ∧ (∀ n, inb (18) n = decide (18 < n)) ∧ (∀ n, inb (19) n = decide (19 < n)) ∧ (∀ n, inb (20) n = decide (20 < n)) ∧ (∀ n, inb (21) n = decide (21 < n)) ∧ (∀ n, inb (22) n = decide (22 < n)) ∧ (∀ n, inb (23) n = decide (23 < n)) ∧ (∀ n, inb (24) n = decide (24 < n)) ∧ (∀ n, inb (25) n = decide (25 < n)) ∧ (∀ n, inb (26) n = decide (26 < n)) ∧ (∀ n, inb (27) n = decide (27 < n)) ∧ (∀ n, inb (28) n = decide (28 < n)) ∧ (∀ n, inb (29) n = decide (29 < n)) ∧ (∀ n, inb (30) n = decide (30 < n)) ∧ (∀ n, inb (31) n = decide (31 < n)) ∧ (∀ n, inb (32) n = decide (32 < n)) ∧ (∀ n, inb (33) n = decide (33 < n)) ∧ (∀ n, inb (34) n = decide (34 < n)) ∧ (∀ n, inb (35) n = decide (35 < n)) ∧ (∀ n, inb (36) n = decide (36 < n)) ∧ (∀ n, inb (37) n = decide (37 < n)) ∧ (∀ n, inb (38) n = decide (38 < n)) ∧ (∀ n, inb (39) n = decide (39 < n)) ∧ (∀ n, inb (40) n = decide (40 < n)) := by refine ⟨?_, ?_, ?_, ?_, ?_, ?_, ?_, ?_, ?_, ?_, ?_, ?_, ?_, ?_, ?_, ?_, ?_, ?_, ?_, ?_, ?_, ?_, ?_, ?_, ?_, ?_, ?_, ?_, ?_, ?_, ?_, ?_, ?_, ?_, ?_, ?_, ?_, ?_, ?_, ?_, ?_⟩ <;> (intro n; rfl)
end
section
/-! the abstract machine's state beside the real one's -/
def cvr (base : Nat) : Nat → Value
  | 0 => .null
  | i + 1 => .ref (base + i)
def cv (base : Nat) (v : Value) : Value := match v with
  | .ref i => cvr base i
  | v => v
def lp (base : Nat) : Nat → Lo → List (Nat × Value)
  | _, [] => []
  | m, none :: t => lp base (m + 1) t
  | m, some v :: t => (m, cv base v) :: lp base (m + 1) t
def cellOK (D : va_G) (dA : Nat → ClassId) (base : Nat) (h : Hp) (i : Nat) (H : Heap) : Prop :=
  (∀ (c : Nat) (r : vw_C), h.2.2.1 (i + 1) = c + 1 → vwCl[c]? = some r → t_OB (base + i) (D.1 c) r.2.2 (D.2 c) H (fun k => cv base (fva (tyc c k) h (i + 1) k))) ∧
  (h.2.2.1 (i + 1) = 21 → H[base + i]? = some (arrV (dA 0) (h.2.2.2.1 (i + 1)) (fun j => .int (h.2.2.2.2.1 (i + 1) j)))) ∧
  (h.2.2.1 (i + 1) = 22 → H[base + i]? = some (arrV (dA 1) (h.2.2.2.1 (i + 1)) (fun j => .long (h.2.2.2.2.2.1 (i + 1) j)))) ∧
  (∀ t : Nat, t < 3 → h.2.2.1 (i + 1) = 23 + t → H[base + i]? = some (arrV (dA (2 + t)) (h.2.2.2.1 (i + 1)) (fun j => cvr base (h.2.2.2.2.2.2 (i + 1) j))))
def HR (D : va_G) (dA : Nat → ClassId) (base : Nat) (h : Hp) (H : Heap) : Prop := H.size = base + h.1 ∧ h.2.2.1 0 = 0 ∧ (∀ i : Nat, h.2.2.1 i ≠ 0 → i ≤ h.1) ∧ ∀ i : Nat, cellOK D dA base h i H
theorem t_OB.same {o : Nat} {cC : ClassId} {N : Nat} {iS : Nat → Nat} {H H1 : Heap} {V V' : Nat → Value} (h : t_OB o cC N iS H V) (h1 : H1[o]? = H[o]?) (hv : ∀ k, k < N → V' k = V k) : t_OB o cC N iS H1 V' := by
  obtain ⟨cell, a, b, c, d⟩ := h
  exact ⟨cell, h1.trans a, b, c, fun k hk => (d k hk).trans (by rw [hv k hk])⟩
theorem cellOK.same {D : va_G} {dA : Nat → ClassId} {base : Nat} {h h' : Hp} {i : Nat} {H H' : Heap} (o : cellOK D dA base h i H) (hq : H'[base + i]? = H[base + i]?)
    (eC : h'.2.2.1 (i + 1) = h.2.2.1 (i + 1)) (eZ : h'.2.2.2.1 (i + 1) = h.2.2.2.1 (i + 1)) (eI : h'.2.2.2.2.1 (i + 1) = h.2.2.2.2.1 (i + 1)) (eL : h'.2.2.2.2.2.1 (i + 1) = h.2.2.2.2.2.1 (i + 1)) (eR : h'.2.2.2.2.2.2 (i + 1) = h.2.2.2.2.2.2 (i + 1)) : cellOK D dA base h' i H' := by
  obtain ⟨o1, o2, o3, o4⟩ := o
  refine ⟨fun c r hc hr => ?_, fun hc => ?_, fun hc => ?_, fun t ht hc => ?_⟩
  · rw [eC] at hc
    exact (o1 c r hc hr).same hq (fun k _ => by simp only [fva, eI, eL, eR])
  · rw [eC] at hc
    rw [hq, o2 hc, eZ, eI]
  · rw [eC] at hc
    rw [hq, o3 hc, eZ, eL]
  · rw [eC] at hc
    rw [hq, o4 t ht hc, eZ, eR]
/-- a cell's contents change, its kind and length stay -/
theorem HR.set {D : va_G} {dA : Nat → ClassId} {base : Nat} {h h' : Hp} {i : Nat} {H H' : Heap} (o : HR D dA base h H) (hz : H'.size = H.size) (hq : ∀ q : Nat, q ≠ base + i → H'[q]? = H[q]?)
    (e1 : h'.1 = h.1) (eC : h'.2.2.1 = h.2.2.1) (eZ : h'.2.2.2.1 = h.2.2.2.1) (eI : ∀ j, j ≠ i + 1 → h'.2.2.2.2.1 j = h.2.2.2.2.1 j) (eL : ∀ j, j ≠ i + 1 → h'.2.2.2.2.2.1 j = h.2.2.2.2.2.1 j) (eR : ∀ j, j ≠ i + 1 → h'.2.2.2.2.2.2 j = h.2.2.2.2.2.2 j) (hi : cellOK D dA base h' i H') : HR D dA base h' H' := by
  obtain ⟨o1, o2, o3, o4⟩ := o
  refine ⟨by rw [hz, o1, e1], by rw [eC]; exact o2, fun j hj => by rw [eC] at hj; rw [e1]; exact o3 j hj, fun j => ?_⟩
  by_cases hj : j = i
  · subst hj
    exact hi
  · exact (o4 j).same (hq _ (by omega)) (by rw [eC]) (by rw [eZ]) (eI _ (by omega)) (eL _ (by omega)) (eR _ (by omega))
/-- new cells, m of them -/
theorem HR.grow {D : va_G} {dA : Nat → ClassId} {base m : Nat} {h h' : Hp} {H H' : Heap} (o : HR D dA base h H) (hz : H'.size = H.size + m) (hq : ∀ q : Nat, q < H.size → H'[q]? = H[q]?)
    (e1 : h'.1 = h.1 + m) (eC : ∀ j, j ≤ h.1 ∨ h.1 + m < j → h'.2.2.1 j = h.2.2.1 j) (eZ : ∀ j, j ≤ h.1 → h'.2.2.2.1 j = h.2.2.2.1 j) (eI : ∀ j, j ≤ h.1 → h'.2.2.2.2.1 j = h.2.2.2.2.1 j) (eL : ∀ j, j ≤ h.1 → h'.2.2.2.2.2.1 j = h.2.2.2.2.2.1 j) (eR : ∀ j, j ≤ h.1 → h'.2.2.2.2.2.2 j = h.2.2.2.2.2.2 j) (hi : ∀ j, j < m → cellOK D dA base h' (h.1 + j) H') : HR D dA base h' H' := by
  obtain ⟨o1, o2, o3, o4⟩ := o
  refine ⟨by rw [hz, o1, e1]; omega, by rw [eC 0 (by omega)]; exact o2, fun j hj => ?_, fun j => ?_⟩
  · rw [e1]
    by_cases hb : j ≤ h.1 ∨ h.1 + m < j
    · rw [eC j hb] at hj
      have := o3 j hj
      omega
    · omega
  · by_cases h1 : j + 1 ≤ h.1
    · exact (o4 j).same (hq _ (by rw [o1]; omega)) (eC _ (Or.inl h1)) (eZ _ h1) (eI _ h1) (eL _ h1) (eR _ h1)
    · by_cases h2 : j < h.1 + m
      · have := hi (j - h.1) (by omega)
        rwa [show h.1 + (j - h.1) = j by omega] at this
      · have e0 : h'.2.2.1 (j + 1) = 0 := by
          rw [eC _ (Or.inr (by omega))]
          by_cases e : h.2.2.1 (j + 1) = 0
          · exact e
          · have := o3 _ e
            omega
        exact ⟨fun c r hc => by omega, fun hc => by omega, fun hc => by omega, fun t _ hc => by omega⟩
theorem lp_mem {base : Nat} : ∀ {ls : Lo} {m i : Nat} {v : Value}, ls[i]? = some (some v) → (m + i, cv base v) ∈ lp base m ls
  | [], _, _, _, h => by simp at h
  | none :: t, m, 0, v, h => by simp at h
  | none :: t, m, i + 1, v, h => by
    have := lp_mem (base := base) (m := m + 1) (i := i) (ls := t) (v := v) (by simpa using h)
    rw [show m + (i + 1) = m + 1 + i by omega]
    exact this
  | some w :: t, m, 0, v, h => by
    simp at h
    subst h
    exact List.mem_cons_self
  | some w :: t, m, i + 1, v, h => by
    have := lp_mem (base := base) (m := m + 1) (i := i) (ls := t) (v := v) (by simpa using h)
    rw [show m + (i + 1) = m + 1 + i by omega]
    exact List.mem_cons_of_mem _ this
theorem lp_of {base : Nat} : ∀ {ls : Lo} {m : Nat} {q : Nat × Value}, q ∈ lp base m ls → ∃ (i : Nat) (v : Value), ls[i]? = some (some v) ∧ q = (m + i, cv base v)
  | [], _, _, h => by cases h
  | none :: t, m, q, h => by
    obtain ⟨i, v, a, b⟩ := lp_of (ls := t) (m := m + 1) h
    exact ⟨i + 1, v, by simpa using a, by rw [b, show m + 1 + i = m + (i + 1) by omega]⟩
  | some w :: t, m, q, h => by
    rcases List.mem_cons.mp h with h | h
    · exact ⟨0, w, rfl, h⟩
    · obtain ⟨i, v, a, b⟩ := lp_of (ls := t) (m := m + 1) h
      exact ⟨i + 1, v, by simpa using a, by rw [b, show m + 1 + i = m + (i + 1) by omega]⟩
theorem ldl_at {ls : Lo} {i : Nat} {v : Value} (h : ldl ls i = some v) : ls[i]? = some (some v) := by
  unfold ldl at h
  split at h
  · cases h
    assumption
  · cases h
theorem loc_at {base nL i : Nat} {ls : Lo} {lsC : Array Slot} {v : Value} (hl : lv_has lsC nL (lp base 0 ls)) (h : ldl ls i = some v) : lsC[i]? = some (.val (cv base v)) := by
  have := hl.2.2 _ (lp_mem (m := 0) (ldl_at h))
  simpa using this
theorem cat_cv (base : Nat) (v : Value) : (cv base v).category = v.category := by
  cases v with
  | ref i => cases i <;> rfl
  | _ => rfl
theorem st1_spec : ∀ {ls : Lo} {i : Nat} {v : Value} {ls' : Lo}, st1 ls i v = some ls' → i < ls.length ∧ ls'.length = ls.length ∧ ∀ (j : Nat) (w : Value), ls'[j]? = some (some w) → (j = i ∧ w = v) ∨ (j ≠ i ∧ ls[j]? = some (some w) ∧ (j + 1 = i → w.category ≠ 2))
  | [], 0, _, _, h => by cases h
  | [], 1, _, _, h => by cases h
  | [], i + 2, _, _, h => by cases h
  | a :: t, 0, v, ls', h => by
    cases h
    refine ⟨by simp, by simp, fun j w hw => ?_⟩
    cases j with
    | zero => simp at hw; exact Or.inl ⟨rfl, hw.symm⟩
    | succ j => exact Or.inr ⟨by omega, by simpa using hw, by omega⟩
  | [a], 1, v, ls', h => by cases h
  | a :: b :: t, 1, v, ls', h => by
    cases h
    refine ⟨by simp, by simp, fun j w hw => ?_⟩
    cases j with
    | zero =>
      simp at hw
      refine Or.inr ⟨by omega, ?_, fun _ => ?_⟩
      · cases a with
        | none => cases hw
        | some u => cases u <;> simp [clr] at hw <;> simp [hw]
      · cases a with
        | none => cases hw
        | some u => cases u <;> simp [clr] at hw <;> subst hw <;> simp [Value.category]
    | succ j =>
      cases j with
      | zero => simp at hw; exact Or.inl ⟨rfl, hw.symm⟩
      | succ j => exact Or.inr ⟨by omega, by simpa using hw, by omega⟩
  | a :: t, i + 2, v, ls', h => by
    unfold st1 at h
    cases hq : st1 t (i + 1) v with
    | none => rw [hq] at h; cases h
    | some l2 =>
      rw [hq] at h
      cases h
      obtain ⟨h1, h2, h3⟩ := st1_spec hq
      refine ⟨by simp; omega, by simp [h2], fun j w hw => ?_⟩
      cases j with
      | zero => exact Or.inr ⟨by omega, by simpa using hw, by omega⟩
      | succ j =>
        rcases h3 j w (by simpa using hw) with ⟨q1, q2⟩ | ⟨q1, q2, q3⟩
        · exact Or.inl ⟨by omega, q2⟩
        · exact Or.inr ⟨by omega, by simpa using q2, fun e => q3 (by omega)⟩
theorem st2_spec : ∀ {ls : Lo} {i : Nat} {v : Value} {ls' : Lo}, st2 ls i v = some ls' → i + 1 < ls.length ∧ ls'.length = ls.length ∧ ∀ (j : Nat) (w : Value), ls'[j]? = some (some w) → (j = i ∧ w = v) ∨ (j ≠ i ∧ j ≠ i + 1 ∧ ls[j]? = some (some w) ∧ (j + 1 = i → w.category ≠ 2))
  | [], 0, _, _, h => by cases h
  | [], 1, _, _, h => by cases h
  | [], i + 2, _, _, h => by cases h
  | [a], 0, _, _, h => by cases h
  | a :: b :: t, 0, v, ls', h => by
    cases h
    refine ⟨by simp, by simp, fun j w hw => ?_⟩
    cases j with
    | zero => simp at hw; exact Or.inl ⟨rfl, hw.symm⟩
    | succ j =>
      cases j with
      | zero => simp at hw
      | succ j => exact Or.inr ⟨by omega, by omega, by simpa using hw, by omega⟩
  | [a], 1, v, ls', h => by cases h
  | [a, b], 1, v, ls', h => by cases h
  | a :: b :: c :: t, 1, v, ls', h => by
    cases h
    refine ⟨by simp, by simp, fun j w hw => ?_⟩
    cases j with
    | zero =>
      simp at hw
      refine Or.inr ⟨by omega, by omega, ?_, fun _ => ?_⟩
      · cases a with
        | none => cases hw
        | some u => cases u <;> simp [clr] at hw <;> simp [hw]
      · cases a with
        | none => cases hw
        | some u => cases u <;> simp [clr] at hw <;> subst hw <;> simp [Value.category]
    | succ j =>
      cases j with
      | zero => simp at hw; exact Or.inl ⟨rfl, hw.symm⟩
      | succ j =>
        cases j with
        | zero => simp at hw
        | succ j => exact Or.inr ⟨by omega, by omega, by simpa using hw, by omega⟩
  | a :: t, i + 2, v, ls', h => by
    have h2 : st2 (a :: t) (i + 2) v = (st2 t (i + 1) v).map (a :: ·) := by
      cases t with
      | nil => rfl
      | cons b t => cases t <;> rfl
    rw [h2] at h
    cases hq : st2 t (i + 1) v with
    | none => rw [hq] at h; cases h
    | some l2 =>
      rw [hq] at h
      cases h
      obtain ⟨h1, h2, h3⟩ := st2_spec hq
      refine ⟨by simp; omega, by simp [h2], fun j w hw => ?_⟩
      cases j with
      | zero => exact Or.inr ⟨by omega, by omega, by simpa using hw, by omega⟩
      | succ j =>
        rcases h3 j w (by simpa using hw) with ⟨q1, q2⟩ | ⟨q1, q2, q3, q4⟩
        · exact Or.inl ⟨by omega, q2⟩
        · exact Or.inr ⟨by omega, by omega, by simpa using q3, fun e => q4 (by omega)⟩
theorem lv_st1 {base nL i : Nat} {ls ls' : Lo} {lsC : Array Slot} {v : Value} (hs : st1 ls i v = some ls') (h : lv_has lsC nL ((i, cv base v) :: (lp base 0 ls).filter (fun q => !(q.1 == i) && !(q.1 + 1 == i && q.2.category == 2)))) : lv_has lsC nL (lp base 0 ls') := by
  refine ⟨h.1, h.2.1, fun q hq => ?_⟩
  obtain ⟨j, w, h1, rfl⟩ := lp_of hq
  rcases (st1_spec hs).2.2 j w h1 with ⟨rfl, rfl⟩ | ⟨a, b, c⟩
  · have := h.2.2 _ List.mem_cons_self
    simpa using this
  · refine h.2.2 _ (List.mem_cons_of_mem _ (List.mem_filter.mpr ⟨lp_mem b, ?_⟩))
    simp only [Nat.zero_add, Bool.and_eq_true, Bool.not_eq_true', beq_eq_false_iff_ne, Bool.and_eq_false_iff, ne_eq, cat_cv]
    refine ⟨a, ?_⟩
    by_cases e : j + 1 = i
    · exact Or.inr (c e)
    · exact Or.inl e
theorem lv_st2 {base nL i : Nat} {ls ls' : Lo} {lsC : Array Slot} {v : Value} (hs : st2 ls i v = some ls') (h : lv_has lsC nL ((i, cv base v) :: (lp base 0 ls).filter (fun q => !(q.1 == i) && (!(q.1 == i + 1) && !(q.1 + 1 == i && q.2.category == 2))))) : lv_has lsC nL (lp base 0 ls') := by
  refine ⟨h.1, h.2.1, fun q hq => ?_⟩
  obtain ⟨j, w, h1, rfl⟩ := lp_of hq
  rcases (st2_spec hs).2.2 j w h1 with ⟨rfl, rfl⟩ | ⟨a, a2, b, c⟩
  · have := h.2.2 _ List.mem_cons_self
    simpa using this
  · refine h.2.2 _ (List.mem_cons_of_mem _ (List.mem_filter.mpr ⟨lp_mem b, ?_⟩))
    simp only [Nat.zero_add, Bool.and_eq_true, Bool.not_eq_true', beq_eq_false_iff_ne, Bool.and_eq_false_iff, ne_eq, cat_cv]
    refine ⟨a, a2, ?_⟩
    by_cases e : j + 1 = i
    · exact Or.inr (c e)
    · exact Or.inl e
end
section
/-! what the abstract machine does, the real one does: steps within a method -/
def tysL (dA : Nat → ClassId) : List (ClassId × FieldType) := [(dA 0, .int), (dA 1, .long), (dA 2, .array .long), (dA 3, .object "SteerBench$Steps"), (dA 4, .object "SteerBench$Sheet")]
def Stt (D : va_G) (dA : Nat → ClassId) (U : State) : Prop := va_K D vwCl (tysL dA) U ∧ (∀ w ∈ nwN, va_Nw w U) ∧ (∀ q ∈ nwC, va_Nw (.castable q.1 q.2) U) ∧ va_AO "SteerBench$Steps" U ∧ va_AO "SteerBench$Sheet" U ∧ (Cond.arrayOver (.array .long)).before #[] U = true ∧ ∀ q ∈ ncL, va_Nc q.1 q.2 U
theorem Stt.warm {D : va_G} {dA : Nat → ClassId} {s U : State} (hW : s.WarmedH U.vm) (h : Stt D dA s) : Stt D dA U := by
  obtain ⟨h1, h2, h3, h4, h5, h6, h7⟩ := h
  refine ⟨va_K.moved hW.alike h1, fun w hw => ?_, fun q hq => va_Nw.warmC hW (h3 q hq), va_AO.moved hW.alike h4, va_AO.moved hW.alike h5, ?_, fun q hq => (h7 q hq).moved hW.alike⟩
  · have := h2 w hw
    simp only [nwN, List.mem_cons, List.not_mem_nil, or_false] at hw
    rcases hw with rfl | rfl | rfl | rfl | rfl <;> exact va_Nw.warmM hW this
  · have e := Cond.arrayOver_setVmC (args := #[]) hW.alike (.array .long)
    exact e.trans h6
theorem Stt.same {D : va_G} {dA : Nat → ClassId} {s U : State} (hv : s.vm = U.vm) (h : Stt D dA s) : Stt D dA U := by
  obtain ⟨h1, h2, h3, h4, h5, h6, h7⟩ := h
  have ha : s.vm.Alike U.vm := by rw [hv]; exact Vm.Alike.refl _
  refine ⟨va_K.moved ha h1, fun w hw => ?_, fun q hq => va_Nw.same rfl hv (h3 q hq), va_AO.moved ha h4, va_AO.moved ha h5, ?_, fun q hq => (h7 q hq).moved ha⟩
  · have := h2 w hw
    simp only [nwN, List.mem_cons, List.not_mem_nil, or_false] at hw
    rcases hw with rfl | rfl | rfl | rfl | rfl <;> exact va_Nw.same rfl hv this
  · have e := Cond.arrayOver_setVmC (args := #[]) ha (.array .long)
    exact e.trans h6
def Cx (D : va_G) (dA : Nat → ClassId) (base k : Nat) (p : Program) (R : Room) (s : State) (m : MethodId) (args : Array Value) (meth : Method) (c : Code) : Prop :=
  p.tables.exec = Jvm.exec ∧ c.code = byt k ∧ meth.sig.returnType = mRt k ∧ c.maxLocals = mxl k ∧ s.vm.findClass (ow (mOw k)) = some m.cls ∧ (∀ w ∈ TB, w.before args s = true) ∧ meth.locks = false ∧ meth.name = (mNm k).name ∧ Stt D dA s ∧ base ≤ s.heap.size ∧ mFr k ≤ R.frames ∧ mLo k ≤ R.locals
def V (D : va_G) (dA : Nat → ClassId) (base k n0 sl0 : Nat) (p : Program) (l : Launch) (e : Env) (R : Room) (s : State) (m : MethodId) (args : Array Value) (below : List Frame) (meth : Method) (c : Code) (Q : State → Prop) (pc : Nat) (ls : Lo) (st : List Value) (h : Hp) : Prop :=
  n0 ≤ h.1 → sl0 ≤ h.2.1 → ls.length ≤ mxl k → ∀ (H : Heap) (locs : List Loc) (lsC : Array Slot), HR D dA base h H → va_S (fun q => base ≤ q) s.heap H locs → lv_has lsC (mxl k) (lp base 0 ls) → W p l e R s m args below meth c H locs (h.1 - n0) (h.2.1 - sl0) Q (F0 m pc lsC (st.map (cv base)))
def GS (k pc : Nat) (ls : Lo) (st : List Value) (h : Hp) (pc' : Nat) (ls' : Lo) (st' : List Value) (h' : Hp) : Prop :=
  (h.1 ≤ h'.1 ∧ h.2.1 ≤ h'.2.1 ∧ ls'.length = ls.length) ∧ ∀ (D : va_G) (dA : Nat → ClassId) (base n0 sl0 : Nat) (p : Program) (l : Launch) (e : Env) (R : Room) (s : State) (m : MethodId) (args : Array Value) (below : List Frame) (meth : Method) (c : Code) (Q : State → Prop), Cx D dA base k p R s m args meth c → h'.1 - n0 ≤ R.cells → h'.2.1 - sl0 ≤ R.slots → V D dA base k n0 sl0 p l e R s m args below meth c Q pc' ls' st' h' → V D dA base k n0 sl0 p l e R s m args below meth c Q pc ls st h
theorem GS_h {k pc : Nat} {ls : Lo} {st : List Value} {h : Hp} {pc' : Nat} {st' : List Value}
    (row : ∀ (D : va_G) (dA : Nat → ClassId) (base : Nat) (p : Program) (l : Launch) (e : Env) (R : Room) (s : State) (m : MethodId) (args : Array Value) (below : List Frame) (meth : Method) (c : Code) (Q : State → Prop) (cells slots : Nat), Cx D dA base k p R s m args meth c → ∀ (H : Heap) (locs : List Loc) (lsC : Array Slot), HR D dA base h H → lv_has lsC (mxl k) (lp base 0 ls) → cells ≤ R.cells → slots ≤ R.slots → W p l e R s m args below meth c H locs cells slots Q (F0 m pc' lsC (st'.map (cv base))) → W p l e R s m args below meth c H locs cells slots Q (F0 m pc lsC (st.map (cv base)))) : GS k pc ls st h pc' ls st' h :=
  ⟨⟨Nat.le_refl _, Nat.le_refl _, rfl⟩, fun D dA base n0 sl0 p l e R s m args below meth c Q X hc hs hV hn hsl hll H locs lsC hH hS hL => row D dA base p l e R s m args below meth c Q _ _ X H locs lsC hH hL hc hs (hV hn hsl hll H locs lsC hH hS hL)⟩
theorem o1_inv {len e : Nat} {x : Option Ac} {a : Ac} (h : o1 len e x = some a) : len = e ∧ x = some a := by
  unfold o1 at h
  split at h
  · exact ⟨‹_›, h⟩
  · cases h
theorem go_inv {pc : Nat} {ls : Lo} {st : List Value} {h : Hp} {pc' : Nat} {ls' : Lo} {st' : List Value} {h' : Hp} (e : go pc ls st h = some (.inl (pc', ls', st', h'))) : pc' = pc ∧ ls' = ls ∧ st' = st ∧ h' = h := by
  unfold go at e
  cases e
  exact ⟨rfl, rfl, rfl, rfl⟩
theorem ii_inv {f : Int32 → Int32 → Int32} {z : Bool} {pc : Nat} {ls : Lo} {st : List Value} {h : Hp} {pc' : Nat} {ls' : Lo} {st' : List Value} {h' : Hp} (e : x_ii f z pc ls st h = some (.inl (pc', ls', st', h'))) : ∃ (x y : Int32) (r : List Value), st = .int y :: .int x :: r ∧ (z = true → ¬ y = 0) ∧ pc' = pc ∧ ls' = ls ∧ st' = .int (f x y) :: r ∧ h' = h := by
  unfold x_ii at e
  split at e
  · split at e
    · cases e
    · rename_i hz
      obtain ⟨rfl, rfl, rfl, rfl⟩ := go_inv e
      exact ⟨_, _, _, rfl, fun q y => hz ⟨q, y⟩, rfl, rfl, rfl, rfl⟩
  · cases e
theorem ll_inv {f : Int64 → Int64 → Int64} {z : Bool} {pc : Nat} {ls : Lo} {st : List Value} {h : Hp} {pc' : Nat} {ls' : Lo} {st' : List Value} {h' : Hp} (e : x_ll f z pc ls st h = some (.inl (pc', ls', st', h'))) : ∃ (x y : Int64) (r : List Value), st = .long y :: .long x :: r ∧ (z = true → ¬ y = 0) ∧ pc' = pc ∧ ls' = ls ∧ st' = .long (f x y) :: r ∧ h' = h := by
  unfold x_ll at e
  split at e
  · split at e
    · cases e
    · rename_i hz
      obtain ⟨rfl, rfl, rfl, rfl⟩ := go_inv e
      exact ⟨_, _, _, rfl, fun q y => hz ⟨q, y⟩, rfl, rfl, rfl, rfl⟩
  · cases e
theorem lo_inv {pc : Nat} {ls : Lo} {st : List Value} {h : Hp} {i ty : Nat} {pc' : Nat} {ls' : Lo} {st' : List Value} {h' : Hp} (e : x_lo pc ls st h i ty = some (.inl (pc', ls', st', h'))) : ∃ v : Value, ldl ls i = some v ∧ ((∃ x, v = .int x ∧ ty = 0) ∨ (∃ x, v = .long x ∧ ty = 1) ∨ ∃ x, v = .ref x ∧ ty = 2) ∧ pc' = pc ∧ ls' = ls ∧ st' = v :: st ∧ h' = h := by
  unfold x_lo at e
  split at e
  · split at e
    · obtain ⟨rfl, rfl, rfl, rfl⟩ := go_inv e
      exact ⟨_, ‹_›, Or.inl ⟨_, rfl, ‹_›⟩, rfl, rfl, rfl, rfl⟩
    · cases e
  · split at e
    · obtain ⟨rfl, rfl, rfl, rfl⟩ := go_inv e
      exact ⟨_, ‹_›, Or.inr (Or.inl ⟨_, rfl, ‹_›⟩), rfl, rfl, rfl, rfl⟩
    · cases e
  · split at e
    · obtain ⟨rfl, rfl, rfl, rfl⟩ := go_inv e
      exact ⟨_, ‹_›, Or.inr (Or.inr ⟨_, rfl, ‹_›⟩), rfl, rfl, rfl, rfl⟩
    · cases e
  · cases e
theorem bind_go {o : Option Lo} {pc : Nat} {r : List Value} {h : Hp} {pc' : Nat} {ls' : Lo} {st' : List Value} {h' : Hp} (e : o.bind (fun l => go pc l r h) = some (.inl (pc', ls', st', h'))) : o = some ls' ∧ pc' = pc ∧ st' = r ∧ h' = h := by
  cases o with
  | none => cases e
  | some l =>
    obtain ⟨rfl, rfl, rfl, rfl⟩ := go_inv e
    exact ⟨rfl, rfl, rfl, rfl⟩
theorem st_inv {pc : Nat} {ls : Lo} {st : List Value} {h : Hp} {i ty : Nat} {pc' : Nat} {ls' : Lo} {st' : List Value} {h' : Hp} (e : x_st pc ls st h i ty = some (.inl (pc', ls', st', h'))) : ∃ v : Value, st = v :: st' ∧ ((∃ x, v = .int x ∧ ty = 0 ∧ st1 ls i v = some ls') ∨ (∃ x, v = .long x ∧ ty = 1 ∧ st2 ls i v = some ls') ∨ ∃ x, v = .ref x ∧ ty = 2 ∧ st1 ls i v = some ls') ∧ pc' = pc ∧ h' = h := by
  unfold x_st at e
  split at e
  · split at e
    · obtain ⟨a, rfl, rfl, rfl⟩ := bind_go e
      exact ⟨_, rfl, Or.inl ⟨_, rfl, ‹_›, a⟩, rfl, rfl⟩
    · cases e
  · split at e
    · obtain ⟨a, rfl, rfl, rfl⟩ := bind_go e
      exact ⟨_, rfl, Or.inr (Or.inl ⟨_, rfl, ‹_›, a⟩), rfl, rfl⟩
    · cases e
  · split at e
    · obtain ⟨a, rfl, rfl, rfl⟩ := bind_go e
      exact ⟨_, rfl, Or.inr (Or.inr ⟨_, rfl, ‹_›, a⟩), rfl, rfl⟩
    · cases e
  · cases e
theorem jmp_inv {pc : Nat} {off : Int} {ls : Lo} {st : List Value} {h : Hp} {c : Bool} {nx : Nat} {pc' : Nat} {ls' : Lo} {st' : List Value} {h' : Hp} (e : jmp pc off ls st h c nx = some (.inl (pc', ls', st', h'))) : ∃ t : Nat, (pc : Int) + off = (t : Int) ∧ pc' = (if c = true then t else nx) ∧ ls' = ls ∧ st' = st ∧ h' = h := by
  unfold jmp at e
  split at e
  · rename_i hp
    obtain ⟨rfl, rfl, rfl, rfl⟩ := go_inv e
    exact ⟨((pc : Int) + off).toNat, by omega, rfl, rfl, rfl, rfl⟩
  · cases e
section GO1
variable {k pc len : Nat} {ls : Lo} {st : List Value} {h : Hp} {pc' : Nat} {ls' : Lo} {st' : List Value} {h' : Hp}
theorem g_iconst {z : Int} (hd : decode (byt k) pc = .ok (.iconst z, len)) (hs : exec k pc ls st h len (.iconst z) = some (.inl (pc', ls', st', h'))) : GS k pc ls st h pc' ls' st' h' := by
  obtain rfl := (o1_inv hs).1
  replace hs := (o1_inv hs).2
  obtain ⟨rfl, rfl, rfl, rfl⟩ := go_inv hs
  exact GS_h fun D dA base p l e R s m args below meth c Q cells slots X H locs lsC hH hL _ _ kk => lv_iconst X.1 X.2.1 hd rfl kk
theorem g_bipush {z : Int} (hd : decode (byt k) pc = .ok (.bipush z, len)) (hs : exec k pc ls st h len (.bipush z) = some (.inl (pc', ls', st', h'))) : GS k pc ls st h pc' ls' st' h' := by
  obtain rfl := (o1_inv hs).1
  replace hs := (o1_inv hs).2
  obtain ⟨rfl, rfl, rfl, rfl⟩ := go_inv hs
  exact GS_h fun D dA base p l e R s m args below meth c Q cells slots X H locs lsC hH hL _ _ kk => lv_bipush X.1 X.2.1 hd rfl kk
theorem g_sipush {z : Int} (hd : decode (byt k) pc = .ok (.sipush z, len)) (hs : exec k pc ls st h len (.sipush z) = some (.inl (pc', ls', st', h'))) : GS k pc ls st h pc' ls' st' h' := by
  obtain rfl := (o1_inv hs).1
  replace hs := (o1_inv hs).2
  obtain ⟨rfl, rfl, rfl, rfl⟩ := go_inv hs
  exact GS_h fun D dA base p l e R s m args below meth c Q cells slots X H locs lsC hH hL _ _ kk => lv_sipush X.1 X.2.1 hd rfl kk
theorem g_lconst {z : Fin 2} (hd : decode (byt k) pc = .ok (.lconst z, len)) (hs : exec k pc ls st h len (.lconst z) = some (.inl (pc', ls', st', h'))) : GS k pc ls st h pc' ls' st' h' := by
  obtain rfl := (o1_inv hs).1
  replace hs := (o1_inv hs).2
  obtain ⟨rfl, rfl, rfl, rfl⟩ := go_inv hs
  exact GS_h fun D dA base p l e R s m args below meth c Q cells slots X H locs lsC hH hL _ _ kk => lv_lconst X.1 X.2.1 hd rfl kk
theorem g_null (hd : decode (byt k) pc = .ok (.aconst_null, len)) (hs : exec k pc ls st h len .aconst_null = some (.inl (pc', ls', st', h'))) : GS k pc ls st h pc' ls' st' h' := by
  obtain rfl := (o1_inv hs).1
  replace hs := (o1_inv hs).2
  obtain ⟨rfl, rfl, rfl, rfl⟩ := go_inv hs
  exact GS_h fun D dA base p l e R s m args below meth c Q cells slots X H locs lsC hH hL _ _ kk => lv_null X.1 X.2.1 hd kk
theorem itb_at {o i p : Nat} {v : Int32} (hl : look (itb o) i = some (v, p)) : Cond.constant (ow o) i v ∈ TB := isT_TB (List.all_eq_true.mp (itb_ok o) _ (look_mem hl))
theorem ltb_at {o i p : Nat} {v : Int64} (hl : look (ltb o) i = some (v, p)) : Cond.constantLong (ow o) i v ∈ TB := isT_TB (List.all_eq_true.mp (ltb_ok o) _ (look_mem hl))
theorem ctb_at {o i p c : Nat} (hl : look (ctb o) i = some (c, p)) : Cond.classLink (ow o) i (clN c) ∈ TB := isT_TB (List.all_eq_true.mp (ctb_ok o) _ (look_mem hl))
theorem g_ldc {z : Nat} (hd : decode (byt k) pc = .ok (.ldc z, len)) (hs : exec k pc ls st h len (.ldc z) = some (.inl (pc', ls', st', h'))) : GS k pc ls st h pc' ls' st' h' := by
  obtain rfl := (o1_inv hs).1
  replace hs := (o1_inv hs).2
  split at hs
  case h_2 => cases hs
  case h_1 v q hl =>
    obtain ⟨rfl, rfl, rfl, rfl⟩ := go_inv hs
    exact GS_h fun D dA base p l e R s m args below meth c Q cells slots X H locs lsC hH hL _ _ kk => lv_ldc X.1 X.2.1 X.2.2.2.2.1 (X.2.2.2.2.2.1 _ (itb_at hl)) hd kk
theorem g_ldc_w {z : Nat} (hd : decode (byt k) pc = .ok (.ldc_w z, len)) (hs : exec k pc ls st h len (.ldc_w z) = some (.inl (pc', ls', st', h'))) : GS k pc ls st h pc' ls' st' h' := by
  obtain rfl := (o1_inv hs).1
  replace hs := (o1_inv hs).2
  split at hs
  case h_2 => cases hs
  case h_1 v q hl =>
    obtain ⟨rfl, rfl, rfl, rfl⟩ := go_inv hs
    exact GS_h fun D dA base p l e R s m args below meth c Q cells slots X H locs lsC hH hL _ _ kk => lv_ldcw X.1 X.2.1 X.2.2.2.2.1 (X.2.2.2.2.2.1 _ (itb_at hl)) hd kk
theorem g_ldc2 {z : Nat} (hd : decode (byt k) pc = .ok (.ldc2_w z, len)) (hs : exec k pc ls st h len (.ldc2_w z) = some (.inl (pc', ls', st', h'))) : GS k pc ls st h pc' ls' st' h' := by
  obtain rfl := (o1_inv hs).1
  replace hs := (o1_inv hs).2
  split at hs
  case h_2 => cases hs
  case h_1 v q hl =>
    obtain ⟨rfl, rfl, rfl, rfl⟩ := go_inv hs
    exact GS_h fun D dA base p l e R s m args below meth c Q cells slots X H locs lsC hH hL _ _ kk => lv_ldc2 X.1 X.2.1 X.2.2.2.2.1 (X.2.2.2.2.2.1 _ (ltb_at hl)) hd kk
theorem g_iload {z : Nat} (hd : decode (byt k) pc = .ok (.iload z, len)) (hs : exec k pc ls st h len (.iload z) = some (.inl (pc', ls', st', h'))) : GS k pc ls st h pc' ls' st' h' := by
  obtain rfl := (o1_inv hs).1
  replace hs := (o1_inv hs).2
  obtain ⟨v, hl, ⟨x, rfl, q⟩ | ⟨x, rfl, q⟩ | ⟨x, rfl, q⟩, rfl, rfl, rfl, rfl⟩ := lo_inv hs <;> first | (cases q; done) | exact GS_h fun D dA base p l e R s m args below meth c Q cells slots X H locs lsC hH hL _ _ kk => lv_iload X.1 X.2.1 hd (loc_at hL hl) kk
theorem g_iload_n {z : Fin 4} (hd : decode (byt k) pc = .ok (.iload_n z, len)) (hs : exec k pc ls st h len (.iload_n z) = some (.inl (pc', ls', st', h'))) : GS k pc ls st h pc' ls' st' h' := by
  obtain rfl := (o1_inv hs).1
  replace hs := (o1_inv hs).2
  obtain ⟨v, hl, ⟨x, rfl, q⟩ | ⟨x, rfl, q⟩ | ⟨x, rfl, q⟩, rfl, rfl, rfl, rfl⟩ := lo_inv hs <;> first | (cases q; done) | exact GS_h fun D dA base p l e R s m args below meth c Q cells slots X H locs lsC hH hL _ _ kk => lv_iload_n X.1 X.2.1 hd rfl (loc_at hL hl) kk
theorem g_lload {z : Nat} (hd : decode (byt k) pc = .ok (.lload z, len)) (hs : exec k pc ls st h len (.lload z) = some (.inl (pc', ls', st', h'))) : GS k pc ls st h pc' ls' st' h' := by
  obtain rfl := (o1_inv hs).1
  replace hs := (o1_inv hs).2
  obtain ⟨v, hl, ⟨x, rfl, q⟩ | ⟨x, rfl, q⟩ | ⟨x, rfl, q⟩, rfl, rfl, rfl, rfl⟩ := lo_inv hs <;> first | (cases q; done) | exact GS_h fun D dA base p l e R s m args below meth c Q cells slots X H locs lsC hH hL _ _ kk => lv_lload X.1 X.2.1 hd (loc_at hL hl) kk
theorem g_lload_n {z : Fin 4} (hd : decode (byt k) pc = .ok (.lload_n z, len)) (hs : exec k pc ls st h len (.lload_n z) = some (.inl (pc', ls', st', h'))) : GS k pc ls st h pc' ls' st' h' := by
  obtain rfl := (o1_inv hs).1
  replace hs := (o1_inv hs).2
  obtain ⟨v, hl, ⟨x, rfl, q⟩ | ⟨x, rfl, q⟩ | ⟨x, rfl, q⟩, rfl, rfl, rfl, rfl⟩ := lo_inv hs <;> first | (cases q; done) | exact GS_h fun D dA base p l e R s m args below meth c Q cells slots X H locs lsC hH hL _ _ kk => lv_lload_n X.1 X.2.1 hd rfl (loc_at hL hl) kk
theorem g_aload {z : Nat} (hd : decode (byt k) pc = .ok (.aload z, len)) (hs : exec k pc ls st h len (.aload z) = some (.inl (pc', ls', st', h'))) : GS k pc ls st h pc' ls' st' h' := by
  obtain rfl := (o1_inv hs).1
  replace hs := (o1_inv hs).2
  obtain ⟨v, hl, ⟨x, rfl, q⟩ | ⟨x, rfl, q⟩ | ⟨x, rfl, q⟩, rfl, rfl, rfl, rfl⟩ := lo_inv hs <;> first | (cases q; done) | (cases x with
    | zero => exact GS_h fun D dA base p l e R s m args below meth c Q cells slots X H locs lsC hH hL _ _ kk => lv_aloadN X.1 X.2.1 hd (loc_at hL hl) kk
    | succ x => exact GS_h fun D dA base p l e R s m args below meth c Q cells slots X H locs lsC hH hL _ _ kk => lv_aload X.1 X.2.1 hd (loc_at hL hl) kk)
theorem g_aload_n {z : Fin 4} (hd : decode (byt k) pc = .ok (.aload_n z, len)) (hs : exec k pc ls st h len (.aload_n z) = some (.inl (pc', ls', st', h'))) : GS k pc ls st h pc' ls' st' h' := by
  obtain rfl := (o1_inv hs).1
  replace hs := (o1_inv hs).2
  obtain ⟨v, hl, ⟨x, rfl, q⟩ | ⟨x, rfl, q⟩ | ⟨x, rfl, q⟩, rfl, rfl, rfl, rfl⟩ := lo_inv hs <;> first | (cases q; done) | (cases x with
    | zero => exact GS_h fun D dA base p l e R s m args below meth c Q cells slots X H locs lsC hH hL _ _ kk => lv_aload_nN X.1 X.2.1 hd rfl (loc_at hL hl) kk
    | succ x => exact GS_h fun D dA base p l e R s m args below meth c Q cells slots X H locs lsC hH hL _ _ kk => lv_aload_n X.1 X.2.1 hd rfl (loc_at hL hl) kk)
/-- a store into a local -/
theorem GS_s {st0 : List Value} (hn : ls'.length = ls.length)
    (row : ∀ (D : va_G) (dA : Nat → ClassId) (base : Nat) (p : Program) (l : Launch) (e : Env) (R : Room) (s : State) (m : MethodId) (args : Array Value) (below : List Frame) (meth : Method) (c : Code) (Q : State → Prop) (cells slots : Nat), Cx D dA base k p R s m args meth c → ls.length ≤ mxl k → ∀ (H : Heap) (locs : List Loc) (lsC : Array Slot), lv_has lsC (mxl k) (lp base 0 ls) → (∀ lsC' : Array Slot, lv_has lsC' (mxl k) (lp base 0 ls') → W p l e R s m args below meth c H locs cells slots Q (F0 m pc' lsC' (st'.map (cv base)))) → W p l e R s m args below meth c H locs cells slots Q (F0 m pc lsC (st0.map (cv base)))) : GS k pc ls st0 h pc' ls' st' h :=
  ⟨⟨Nat.le_refl _, Nat.le_refl _, hn⟩, fun D dA base n0 sl0 p l e R s m args below meth c Q X hc hs hV hn0 hsl hll H locs lsC hH hS hL => row D dA base p l e R s m args below meth c Q _ _ X hll H locs lsC hL (fun lsC' hL' => hV hn0 hsl (by rw [hn]; exact hll) H locs lsC' hH hS hL')⟩
theorem g_istore {z : Nat} (hd : decode (byt k) pc = .ok (.istore z, len)) (hs : exec k pc ls st h len (.istore z) = some (.inl (pc', ls', st', h'))) : GS k pc ls st h pc' ls' st' h' := by
  obtain rfl := (o1_inv hs).1
  replace hs := (o1_inv hs).2
  obtain ⟨v, rfl, ⟨x, rfl, q, hl⟩ | ⟨x, rfl, q, hl⟩ | ⟨x, rfl, q, hl⟩, rfl, rfl⟩ := st_inv hs <;> first | (cases q; done) | exact GS_s (st1_spec hl).2.1 fun D dA base p l e R s m args below meth c Q cells slots X hll H locs lsC hL kk => lv_istore X.1 X.2.1 hd hL (Nat.lt_of_lt_of_le (st1_spec hl).1 hll) rfl (fun lsC' h' => kk lsC' (lv_st1 hl h'))
theorem g_istore_n {z : Fin 4} (hd : decode (byt k) pc = .ok (.istore_n z, len)) (hs : exec k pc ls st h len (.istore_n z) = some (.inl (pc', ls', st', h'))) : GS k pc ls st h pc' ls' st' h' := by
  obtain rfl := (o1_inv hs).1
  replace hs := (o1_inv hs).2
  obtain ⟨v, rfl, ⟨x, rfl, q, hl⟩ | ⟨x, rfl, q, hl⟩ | ⟨x, rfl, q, hl⟩, rfl, rfl⟩ := st_inv hs <;> first | (cases q; done) | exact GS_s (st1_spec hl).2.1 fun D dA base p l e R s m args below meth c Q cells slots X hll H locs lsC hL kk => lv_istore_n X.1 X.2.1 hd rfl hL (Nat.lt_of_lt_of_le (st1_spec hl).1 hll) rfl (fun lsC' h' => kk lsC' (lv_st1 hl h'))
theorem g_lstore {z : Nat} (hd : decode (byt k) pc = .ok (.lstore z, len)) (hs : exec k pc ls st h len (.lstore z) = some (.inl (pc', ls', st', h'))) : GS k pc ls st h pc' ls' st' h' := by
  obtain rfl := (o1_inv hs).1
  replace hs := (o1_inv hs).2
  obtain ⟨v, rfl, ⟨x, rfl, q, hl⟩ | ⟨x, rfl, q, hl⟩ | ⟨x, rfl, q, hl⟩, rfl, rfl⟩ := st_inv hs <;> first | (cases q; done) | exact GS_s (st2_spec hl).2.1 fun D dA base p l e R s m args below meth c Q cells slots X hll H locs lsC hL kk => lv_lstore X.1 X.2.1 hd hL (Nat.lt_of_lt_of_le (st2_spec hl).1 hll) rfl (fun lsC' h' => kk lsC' (lv_st2 hl h'))
theorem g_lstore_n {z : Fin 4} (hd : decode (byt k) pc = .ok (.lstore_n z, len)) (hs : exec k pc ls st h len (.lstore_n z) = some (.inl (pc', ls', st', h'))) : GS k pc ls st h pc' ls' st' h' := by
  obtain rfl := (o1_inv hs).1
  replace hs := (o1_inv hs).2
  obtain ⟨v, rfl, ⟨x, rfl, q, hl⟩ | ⟨x, rfl, q, hl⟩ | ⟨x, rfl, q, hl⟩, rfl, rfl⟩ := st_inv hs <;> first | (cases q; done) | exact GS_s (st2_spec hl).2.1 fun D dA base p l e R s m args below meth c Q cells slots X hll H locs lsC hL kk => lv_lstore_n X.1 X.2.1 hd rfl hL (Nat.lt_of_lt_of_le (st2_spec hl).1 hll) rfl (fun lsC' h' => kk lsC' (lv_st2 hl h'))
theorem g_astore {z : Nat} (hd : decode (byt k) pc = .ok (.astore z, len)) (hs : exec k pc ls st h len (.astore z) = some (.inl (pc', ls', st', h'))) : GS k pc ls st h pc' ls' st' h' := by
  obtain rfl := (o1_inv hs).1
  replace hs := (o1_inv hs).2
  obtain ⟨v, rfl, ⟨x, rfl, q, hl⟩ | ⟨x, rfl, q, hl⟩ | ⟨x, rfl, q, hl⟩, rfl, rfl⟩ := st_inv hs <;> first | (cases q; done) | (cases x with
    | zero => exact GS_s (st1_spec hl).2.1 fun D dA base p l e R s m args below meth c Q cells slots X hll H locs lsC hL kk => lv_astoreN X.1 X.2.1 hd hL (Nat.lt_of_lt_of_le (st1_spec hl).1 hll) rfl (fun lsC' h' => kk lsC' (lv_st1 hl h'))
    | succ x => exact GS_s (st1_spec hl).2.1 fun D dA base p l e R s m args below meth c Q cells slots X hll H locs lsC hL kk => lv_astore X.1 X.2.1 hd hL (Nat.lt_of_lt_of_le (st1_spec hl).1 hll) rfl (fun lsC' h' => kk lsC' (lv_st1 hl h')))
theorem g_astore_n {z : Fin 4} (hd : decode (byt k) pc = .ok (.astore_n z, len)) (hs : exec k pc ls st h len (.astore_n z) = some (.inl (pc', ls', st', h'))) : GS k pc ls st h pc' ls' st' h' := by
  obtain rfl := (o1_inv hs).1
  replace hs := (o1_inv hs).2
  obtain ⟨v, rfl, ⟨x, rfl, q, hl⟩ | ⟨x, rfl, q, hl⟩ | ⟨x, rfl, q, hl⟩, rfl, rfl⟩ := st_inv hs <;> first | (cases q; done) | (cases x with
    | zero => exact GS_s (st1_spec hl).2.1 fun D dA base p l e R s m args below meth c Q cells slots X hll H locs lsC hL kk => lv_astore_nN X.1 X.2.1 hd rfl hL (Nat.lt_of_lt_of_le (st1_spec hl).1 hll) rfl (fun lsC' h' => kk lsC' (lv_st1 hl h'))
    | succ x => exact GS_s (st1_spec hl).2.1 fun D dA base p l e R s m args below meth c Q cells slots X hll H locs lsC hL kk => lv_astore_n X.1 X.2.1 hd rfl hL (Nat.lt_of_lt_of_le (st1_spec hl).1 hll) rfl (fun lsC' h' => kk lsC' (lv_st1 hl h')))
theorem g_iinc {z : Nat} {q : Int} (hd : decode (byt k) pc = .ok (.iinc z q, len)) (hs : exec k pc ls st h len (.iinc z q) = some (.inl (pc', ls', st', h'))) : GS k pc ls st h pc' ls' st' h' := by
  obtain rfl := (o1_inv hs).1
  replace hs := (o1_inv hs).2
  unfold x_inc at hs
  split at hs
  · rename_i x hl
    obtain ⟨hs1, rfl, rfl, rfl⟩ := bind_go hs
    refine GS_s (st1_spec hs1).2.1 fun D dA base p l e R s m args below meth c Q cells slots X hll H locs lsC hL kk => ?_
    obtain ⟨kx, hkx⟩ := List.getElem?_of_mem (lp_mem (base := base) (m := 0) (ldl_at hl))
    exact lv_iinc X.1 X.2.1 hd hL (by rw [hkx]; simp [cv]) rfl (Nat.lt_of_lt_of_le (st1_spec hs1).1 hll) rfl (fun lsC' h' => kk lsC' (lv_st1 hs1 h'))
  · cases hs
end GO1
end
section
section GO2
variable {k pc len : Nat} {ls : Lo} {st : List Value} {h : Hp} {pc' : Nat} {ls' : Lo} {st' : List Value} {h' : Hp}
theorem g_iadd (hd : decode (byt k) pc = .ok (.iadd, len)) (hs : exec k pc ls st h len .iadd = some (.inl (pc', ls', st', h'))) : GS k pc ls st h pc' ls' st' h' := by
  obtain rfl := (o1_inv hs).1
  replace hs := (o1_inv hs).2
  obtain ⟨x, y, r, rfl, hz, rfl, rfl, rfl, rfl⟩ := ii_inv hs
  exact GS_h fun D dA base p l e R s m args below meth c Q cells slots X H locs lsC hH hL _ _ kk => lv_iadd X.1 X.2.1 hd kk
theorem g_isub (hd : decode (byt k) pc = .ok (.isub, len)) (hs : exec k pc ls st h len .isub = some (.inl (pc', ls', st', h'))) : GS k pc ls st h pc' ls' st' h' := by
  obtain rfl := (o1_inv hs).1
  replace hs := (o1_inv hs).2
  obtain ⟨x, y, r, rfl, hz, rfl, rfl, rfl, rfl⟩ := ii_inv hs
  exact GS_h fun D dA base p l e R s m args below meth c Q cells slots X H locs lsC hH hL _ _ kk => lv_isub X.1 X.2.1 hd kk
theorem g_imul (hd : decode (byt k) pc = .ok (.imul, len)) (hs : exec k pc ls st h len .imul = some (.inl (pc', ls', st', h'))) : GS k pc ls st h pc' ls' st' h' := by
  obtain rfl := (o1_inv hs).1
  replace hs := (o1_inv hs).2
  obtain ⟨x, y, r, rfl, hz, rfl, rfl, rfl, rfl⟩ := ii_inv hs
  exact GS_h fun D dA base p l e R s m args below meth c Q cells slots X H locs lsC hH hL _ _ kk => lv_imul X.1 X.2.1 hd kk
theorem g_iand (hd : decode (byt k) pc = .ok (.iand, len)) (hs : exec k pc ls st h len .iand = some (.inl (pc', ls', st', h'))) : GS k pc ls st h pc' ls' st' h' := by
  obtain rfl := (o1_inv hs).1
  replace hs := (o1_inv hs).2
  obtain ⟨x, y, r, rfl, hz, rfl, rfl, rfl, rfl⟩ := ii_inv hs
  exact GS_h fun D dA base p l e R s m args below meth c Q cells slots X H locs lsC hH hL _ _ kk => lv_iand X.1 X.2.1 hd kk
theorem g_ixor (hd : decode (byt k) pc = .ok (.ixor, len)) (hs : exec k pc ls st h len .ixor = some (.inl (pc', ls', st', h'))) : GS k pc ls st h pc' ls' st' h' := by
  obtain rfl := (o1_inv hs).1
  replace hs := (o1_inv hs).2
  obtain ⟨x, y, r, rfl, hz, rfl, rfl, rfl, rfl⟩ := ii_inv hs
  exact GS_h fun D dA base p l e R s m args below meth c Q cells slots X H locs lsC hH hL _ _ kk => lv_ixor X.1 X.2.1 hd kk
theorem g_idiv (hd : decode (byt k) pc = .ok (.idiv, len)) (hs : exec k pc ls st h len .idiv = some (.inl (pc', ls', st', h'))) : GS k pc ls st h pc' ls' st' h' := by
  obtain rfl := (o1_inv hs).1
  replace hs := (o1_inv hs).2
  obtain ⟨x, y, r, rfl, hz, rfl, rfl, rfl, rfl⟩ := ii_inv hs
  exact GS_h fun D dA base p l e R s m args below meth c Q cells slots X H locs lsC hH hL _ _ kk => lv_idiv X.1 X.2.1 hd (hz rfl) kk
theorem g_irem (hd : decode (byt k) pc = .ok (.irem, len)) (hs : exec k pc ls st h len .irem = some (.inl (pc', ls', st', h'))) : GS k pc ls st h pc' ls' st' h' := by
  obtain rfl := (o1_inv hs).1
  replace hs := (o1_inv hs).2
  obtain ⟨x, y, r, rfl, hz, rfl, rfl, rfl, rfl⟩ := ii_inv hs
  exact GS_h fun D dA base p l e R s m args below meth c Q cells slots X H locs lsC hH hL _ _ kk => lv_irem X.1 X.2.1 hd (hz rfl) kk
theorem g_ishl (hd : decode (byt k) pc = .ok (.ishl, len)) (hs : exec k pc ls st h len .ishl = some (.inl (pc', ls', st', h'))) : GS k pc ls st h pc' ls' st' h' := by
  obtain rfl := (o1_inv hs).1
  replace hs := (o1_inv hs).2
  obtain ⟨x, y, r, rfl, hz, rfl, rfl, rfl, rfl⟩ := ii_inv hs
  exact GS_h fun D dA base p l e R s m args below meth c Q cells slots X H locs lsC hH hL _ _ kk => lv_ishl X.1 X.2.1 hd kk
theorem g_ishr (hd : decode (byt k) pc = .ok (.ishr, len)) (hs : exec k pc ls st h len .ishr = some (.inl (pc', ls', st', h'))) : GS k pc ls st h pc' ls' st' h' := by
  obtain rfl := (o1_inv hs).1
  replace hs := (o1_inv hs).2
  obtain ⟨x, y, r, rfl, hz, rfl, rfl, rfl, rfl⟩ := ii_inv hs
  exact GS_h fun D dA base p l e R s m args below meth c Q cells slots X H locs lsC hH hL _ _ kk => lv_ishr X.1 X.2.1 hd kk
theorem g_iushr (hd : decode (byt k) pc = .ok (.iushr, len)) (hs : exec k pc ls st h len .iushr = some (.inl (pc', ls', st', h'))) : GS k pc ls st h pc' ls' st' h' := by
  obtain rfl := (o1_inv hs).1
  replace hs := (o1_inv hs).2
  obtain ⟨x, y, r, rfl, hz, rfl, rfl, rfl, rfl⟩ := ii_inv hs
  exact GS_h fun D dA base p l e R s m args below meth c Q cells slots X H locs lsC hH hL _ _ kk => lv_iushr X.1 X.2.1 hd rfl kk
theorem g_ladd (hd : decode (byt k) pc = .ok (.ladd, len)) (hs : exec k pc ls st h len .ladd = some (.inl (pc', ls', st', h'))) : GS k pc ls st h pc' ls' st' h' := by
  obtain rfl := (o1_inv hs).1
  replace hs := (o1_inv hs).2
  obtain ⟨x, y, r, rfl, hz, rfl, rfl, rfl, rfl⟩ := ll_inv hs
  exact GS_h fun D dA base p l e R s m args below meth c Q cells slots X H locs lsC hH hL _ _ kk => lv_ladd X.1 X.2.1 hd kk
theorem g_lsub (hd : decode (byt k) pc = .ok (.lsub, len)) (hs : exec k pc ls st h len .lsub = some (.inl (pc', ls', st', h'))) : GS k pc ls st h pc' ls' st' h' := by
  obtain rfl := (o1_inv hs).1
  replace hs := (o1_inv hs).2
  obtain ⟨x, y, r, rfl, hz, rfl, rfl, rfl, rfl⟩ := ll_inv hs
  exact GS_h fun D dA base p l e R s m args below meth c Q cells slots X H locs lsC hH hL _ _ kk => lv_lsub X.1 X.2.1 hd kk
theorem g_lmul (hd : decode (byt k) pc = .ok (.lmul, len)) (hs : exec k pc ls st h len .lmul = some (.inl (pc', ls', st', h'))) : GS k pc ls st h pc' ls' st' h' := by
  obtain rfl := (o1_inv hs).1
  replace hs := (o1_inv hs).2
  obtain ⟨x, y, r, rfl, hz, rfl, rfl, rfl, rfl⟩ := ll_inv hs
  exact GS_h fun D dA base p l e R s m args below meth c Q cells slots X H locs lsC hH hL _ _ kk => lv_lmul X.1 X.2.1 hd kk
theorem g_ldiv (hd : decode (byt k) pc = .ok (.ldiv, len)) (hs : exec k pc ls st h len .ldiv = some (.inl (pc', ls', st', h'))) : GS k pc ls st h pc' ls' st' h' := by
  obtain rfl := (o1_inv hs).1
  replace hs := (o1_inv hs).2
  obtain ⟨x, y, r, rfl, hz, rfl, rfl, rfl, rfl⟩ := ll_inv hs
  exact GS_h fun D dA base p l e R s m args below meth c Q cells slots X H locs lsC hH hL _ _ kk => lv_ldiv X.1 X.2.1 hd (hz rfl) kk
theorem g_lrem (hd : decode (byt k) pc = .ok (.lrem, len)) (hs : exec k pc ls st h len .lrem = some (.inl (pc', ls', st', h'))) : GS k pc ls st h pc' ls' st' h' := by
  obtain rfl := (o1_inv hs).1
  replace hs := (o1_inv hs).2
  obtain ⟨x, y, r, rfl, hz, rfl, rfl, rfl, rfl⟩ := ll_inv hs
  exact GS_h fun D dA base p l e R s m args below meth c Q cells slots X H locs lsC hH hL _ _ kk => lv_lrem X.1 X.2.1 hd (hz rfl) kk
theorem u_inv {pc : Nat} {ls : Lo} {st : List Value} {h : Hp} {fi : Int32 → Option Value} {fl : Int64 → Option Value} {pc' : Nat} {ls' : Lo} {st' : List Value} {h' : Hp} (e : x_u pc ls st h fi fl = some (.inl (pc', ls', st', h'))) : (∃ (x : Int32) (v : Value) (r : List Value), st = .int x :: r ∧ fi x = some v ∧ pc' = pc ∧ ls' = ls ∧ st' = v :: r ∧ h' = h) ∨ ∃ (x : Int64) (v : Value) (r : List Value), st = .long x :: r ∧ fl x = some v ∧ pc' = pc ∧ ls' = ls ∧ st' = v :: r ∧ h' = h := by
  unfold x_u at e
  split at e
  · rename_i x r
    cases hf : fi x with
    | none => rw [hf] at e; cases e
    | some v =>
      rw [hf] at e
      obtain ⟨rfl, rfl, rfl, rfl⟩ := go_inv e
      exact Or.inl ⟨_, _, _, rfl, hf, rfl, rfl, rfl, rfl⟩
  · rename_i x r
    cases hf : fl x with
    | none => rw [hf] at e; cases e
    | some v =>
      rw [hf] at e
      obtain ⟨rfl, rfl, rfl, rfl⟩ := go_inv e
      exact Or.inr ⟨_, _, _, rfl, hf, rfl, rfl, rfl, rfl⟩
  · cases e
theorem g_ineg (hd : decode (byt k) pc = .ok (.ineg, len)) (hs : exec k pc ls st h len .ineg = some (.inl (pc', ls', st', h'))) : GS k pc ls st h pc' ls' st' h' := by
  obtain rfl := (o1_inv hs).1
  replace hs := (o1_inv hs).2
  rcases u_inv hs with ⟨x, v, r, rfl, hv, rfl, rfl, rfl, rfl⟩ | ⟨x, v, r, rfl, hv, rfl, rfl, rfl, rfl⟩
  all_goals first | (cases hv; done) | (cases hv; exact GS_h fun D dA base p l e R s m args below meth c Q cells slots X H locs lsC hH hL _ _ kk => lv_ineg X.1 X.2.1 hd kk)
theorem g_lneg (hd : decode (byt k) pc = .ok (.lneg, len)) (hs : exec k pc ls st h len .lneg = some (.inl (pc', ls', st', h'))) : GS k pc ls st h pc' ls' st' h' := by
  obtain rfl := (o1_inv hs).1
  replace hs := (o1_inv hs).2
  rcases u_inv hs with ⟨x, v, r, rfl, hv, rfl, rfl, rfl, rfl⟩ | ⟨x, v, r, rfl, hv, rfl, rfl, rfl, rfl⟩
  all_goals first | (cases hv; done) | (cases hv; exact GS_h fun D dA base p l e R s m args below meth c Q cells slots X H locs lsC hH hL _ _ kk => lv_lneg X.1 X.2.1 hd kk)
theorem g_i2l (hd : decode (byt k) pc = .ok (.i2l, len)) (hs : exec k pc ls st h len .i2l = some (.inl (pc', ls', st', h'))) : GS k pc ls st h pc' ls' st' h' := by
  obtain rfl := (o1_inv hs).1
  replace hs := (o1_inv hs).2
  rcases u_inv hs with ⟨x, v, r, rfl, hv, rfl, rfl, rfl, rfl⟩ | ⟨x, v, r, rfl, hv, rfl, rfl, rfl, rfl⟩
  all_goals first | (cases hv; done) | (cases hv; exact GS_h fun D dA base p l e R s m args below meth c Q cells slots X H locs lsC hH hL _ _ kk => lv_i2l X.1 X.2.1 hd rfl kk)
theorem g_i2b (hd : decode (byt k) pc = .ok (.i2b, len)) (hs : exec k pc ls st h len .i2b = some (.inl (pc', ls', st', h'))) : GS k pc ls st h pc' ls' st' h' := by
  obtain rfl := (o1_inv hs).1
  replace hs := (o1_inv hs).2
  rcases u_inv hs with ⟨x, v, r, rfl, hv, rfl, rfl, rfl, rfl⟩ | ⟨x, v, r, rfl, hv, rfl, rfl, rfl, rfl⟩
  all_goals first | (cases hv; done) | (cases hv; exact GS_h fun D dA base p l e R s m args below meth c Q cells slots X H locs lsC hH hL _ _ kk => lv_i2b X.1 X.2.1 hd rfl kk)
theorem g_l2i (hd : decode (byt k) pc = .ok (.l2i, len)) (hs : exec k pc ls st h len .l2i = some (.inl (pc', ls', st', h'))) : GS k pc ls st h pc' ls' st' h' := by
  obtain rfl := (o1_inv hs).1
  replace hs := (o1_inv hs).2
  rcases u_inv hs with ⟨x, v, r, rfl, hv, rfl, rfl, rfl, rfl⟩ | ⟨x, v, r, rfl, hv, rfl, rfl, rfl, rfl⟩
  all_goals first | (cases hv; done) | (cases hv; exact GS_h fun D dA base p l e R s m args below meth c Q cells slots X H locs lsC hH hL _ _ kk => lv_l2i X.1 X.2.1 hd rfl kk)
theorem g_lshl (hd : decode (byt k) pc = .ok (.lshl, len)) (hs : exec k pc ls st h len .lshl = some (.inl (pc', ls', st', h'))) : GS k pc ls st h pc' ls' st' h' := by
  obtain rfl := (o1_inv hs).1
  replace hs := (o1_inv hs).2
  unfold x_lsh at hs
  split at hs
  · obtain ⟨rfl, rfl, rfl, rfl⟩ := go_inv hs
    exact GS_h fun D dA base p l e R s m args below meth c Q cells slots X H locs lsC hH hL _ _ kk => lv_lshl X.1 X.2.1 hd rfl kk
  · cases hs
theorem g_lcmp (hd : decode (byt k) pc = .ok (.lcmp, len)) (hs : exec k pc ls st h len .lcmp = some (.inl (pc', ls', st', h'))) : GS k pc ls st h pc' ls' st' h' := by
  obtain rfl := (o1_inv hs).1
  replace hs := (o1_inv hs).2
  unfold x_cmp at hs
  split at hs
  · obtain ⟨rfl, rfl, rfl, rfl⟩ := go_inv hs
    exact GS_h fun D dA base p l e R s m args below meth c Q cells slots X H locs lsC hH hL _ _ kk => W.lcmp X.1 X.2.1 hd kk
  · cases hs
theorem cat_r (base i : Nat) : (cvr base i).category = 1 := by cases i <;> rfl
theorem g_dup (hd : decode (byt k) pc = .ok (.dup, len)) (hs : exec k pc ls st h len .dup = some (.inl (pc', ls', st', h'))) : GS k pc ls st h pc' ls' st' h' := by
  obtain rfl := (o1_inv hs).1
  replace hs := (o1_inv hs).2
  unfold x_dup at hs
  split at hs
  · obtain ⟨rfl, rfl, rfl, rfl⟩ := go_inv hs
    exact GS_h fun D dA base p l e R s m args below meth c Q cells slots X H locs lsC hH hL _ _ kk => lv_dup X.1 X.2.1 hd rfl kk
  · obtain ⟨rfl, rfl, rfl, rfl⟩ := go_inv hs
    exact GS_h fun D dA base p l e R s m args below meth c Q cells slots X H locs lsC hH hL _ _ kk => lv_dup X.1 X.2.1 hd (cat_r _ _) kk
  · cases hs
theorem g_dup2 (hd : decode (byt k) pc = .ok (.dup2, len)) (hs : exec k pc ls st h len .dup2 = some (.inl (pc', ls', st', h'))) : GS k pc ls st h pc' ls' st' h' := by
  obtain rfl := (o1_inv hs).1
  replace hs := (o1_inv hs).2
  unfold x_dup2 at hs
  split at hs
  · obtain ⟨rfl, rfl, rfl, rfl⟩ := go_inv hs
    exact GS_h fun D dA base p l e R s m args below meth c Q cells slots X H locs lsC hH hL _ _ kk => lv_dup2_11 X.1 X.2.1 hd rfl (cat_r _ _) kk
  · obtain ⟨rfl, rfl, rfl, rfl⟩ := go_inv hs
    exact GS_h fun D dA base p l e R s m args below meth c Q cells slots X H locs lsC hH hL _ _ kk => lv_dup2_2 X.1 X.2.1 hd rfl kk
  · cases hs
theorem g_pop (hd : decode (byt k) pc = .ok (.pop, len)) (hs : exec k pc ls st h len .pop = some (.inl (pc', ls', st', h'))) : GS k pc ls st h pc' ls' st' h' := by
  obtain rfl := (o1_inv hs).1
  replace hs := (o1_inv hs).2
  unfold x_pop at hs
  split at hs
  · obtain ⟨rfl, rfl, rfl, rfl⟩ := go_inv hs
    exact GS_h fun D dA base p l e R s m args below meth c Q cells slots X H locs lsC hH hL _ _ kk => lv_pop X.1 X.2.1 hd rfl kk
  · obtain ⟨rfl, rfl, rfl, rfl⟩ := go_inv hs
    exact GS_h fun D dA base p l e R s m args below meth c Q cells slots X H locs lsC hH hL _ _ kk => lv_pop X.1 X.2.1 hd (cat_r _ _) kk
  · cases hs
theorem g_dup_x1 (hd : decode (byt k) pc = .ok (.dup_x1, len)) (hs : exec k pc ls st h len .dup_x1 = some (.inl (pc', ls', st', h'))) : GS k pc ls st h pc' ls' st' h' := by
  obtain rfl := (o1_inv hs).1
  replace hs := (o1_inv hs).2
  unfold x_dx1 at hs
  split at hs
  · split at hs
    · rename_i hc
      obtain ⟨rfl, rfl, rfl, rfl⟩ := go_inv hs
      exact GS_h fun D dA base p l e R s m args below meth c Q cells slots X H locs lsC hH hL _ _ kk => lv_dup_x1 X.1 X.2.1 hd ((cat_cv _ _).trans hc.1) ((cat_cv _ _).trans hc.2) kk
    · cases hs
  · cases hs
theorem g_goto {off : Int} (hd : decode (byt k) pc = .ok (.goto off, len)) (hs : exec k pc ls st h len (.goto off) = some (.inl (pc', ls', st', h'))) : GS k pc ls st h pc' ls' st' h' := by
  obtain rfl := (o1_inv hs).1
  replace hs := (o1_inv hs).2
  obtain ⟨t, ht, rfl, rfl, rfl, rfl⟩ := jmp_inv hs
  exact GS_h fun D dA base p l e R s m args below meth c Q cells slots X H locs lsC hH hL _ _ kk => lv_goto X.1 X.2.1 hd ht kk
theorem g_ifCond {cc : ClassFile.Cond} {off : Int} (hd : decode (byt k) pc = .ok (.ifCond cc off, len)) (hs : exec k pc ls st h len (.ifCond cc off) = some (.inl (pc', ls', st', h'))) : GS k pc ls st h pc' ls' st' h' := by
  obtain rfl := (o1_inv hs).1
  replace hs := (o1_inv hs).2
  unfold x_if at hs
  split at hs
  · obtain ⟨t, ht, rfl, rfl, rfl, rfl⟩ := jmp_inv hs
    cases cc
    · exact GS_h fun D dA base p l e R s m args below meth c Q cells slots X H locs lsC hH hL _ _ kk => lv_if_eq X.1 X.2.1 hd ht (fun q => by rw [if_pos (by simpa [cmpI] using q)] at kk; exact kk) (fun q => by rw [if_neg (by simpa [cmpI] using q)] at kk; exact kk)
    · exact GS_h fun D dA base p l e R s m args below meth c Q cells slots X H locs lsC hH hL _ _ kk => lv_if_ne X.1 X.2.1 hd ht (fun q => by rw [if_pos (by simpa [cmpI] using q)] at kk; exact kk) (fun q => by rw [if_neg (by simpa [cmpI] using q)] at kk; exact kk)
    · exact GS_h fun D dA base p l e R s m args below meth c Q cells slots X H locs lsC hH hL _ _ kk => lv_if_lt X.1 X.2.1 hd ht (fun q => by rw [if_pos (by simpa [cmpI] using q)] at kk; exact kk) (fun q => by rw [if_neg (by simpa [cmpI] using q)] at kk; exact kk)
    · exact GS_h fun D dA base p l e R s m args below meth c Q cells slots X H locs lsC hH hL _ _ kk => lv_if_ge X.1 X.2.1 hd ht (fun q => by rw [if_pos (by simpa [cmpI] using q)] at kk; exact kk) (fun q => by rw [if_neg (by simpa [cmpI] using q)] at kk; exact kk)
    · exact GS_h fun D dA base p l e R s m args below meth c Q cells slots X H locs lsC hH hL _ _ kk => lv_if_gt X.1 X.2.1 hd ht (fun q => by rw [if_pos (by simpa [cmpI] using q)] at kk; exact kk) (fun q => by rw [if_neg (by simpa [cmpI] using q)] at kk; exact kk)
    · exact GS_h fun D dA base p l e R s m args below meth c Q cells slots X H locs lsC hH hL _ _ kk => lv_if_le X.1 X.2.1 hd ht (fun q => by rw [if_pos (by simpa [cmpI] using q)] at kk; exact kk) (fun q => by rw [if_neg (by simpa [cmpI] using q)] at kk; exact kk)
  · cases hs
theorem g_if_icmp {cc : ClassFile.Cond} {off : Int} (hd : decode (byt k) pc = .ok (.if_icmp cc off, len)) (hs : exec k pc ls st h len (.if_icmp cc off) = some (.inl (pc', ls', st', h'))) : GS k pc ls st h pc' ls' st' h' := by
  obtain rfl := (o1_inv hs).1
  replace hs := (o1_inv hs).2
  unfold x_ic at hs
  split at hs
  · obtain ⟨t, ht, rfl, rfl, rfl, rfl⟩ := jmp_inv hs
    cases cc
    · exact GS_h fun D dA base p l e R s m args below meth c Q cells slots X H locs lsC hH hL _ _ kk => lv_icmp_eq X.1 X.2.1 hd ht (fun q => by rw [if_pos (by simpa [cmpI] using q)] at kk; exact kk) (fun q => by rw [if_neg (by simpa [cmpI] using q)] at kk; exact kk)
    · exact GS_h fun D dA base p l e R s m args below meth c Q cells slots X H locs lsC hH hL _ _ kk => lv_icmp_ne X.1 X.2.1 hd ht (fun q => by rw [if_pos (by simpa [cmpI] using q)] at kk; exact kk) (fun q => by rw [if_neg (by simpa [cmpI] using q)] at kk; exact kk)
    · exact GS_h fun D dA base p l e R s m args below meth c Q cells slots X H locs lsC hH hL _ _ kk => lv_icmp_lt X.1 X.2.1 hd ht (fun q => by rw [if_pos (by simpa [cmpI] using q)] at kk; exact kk) (fun q => by rw [if_neg (by simpa [cmpI] using q)] at kk; exact kk)
    · exact GS_h fun D dA base p l e R s m args below meth c Q cells slots X H locs lsC hH hL _ _ kk => lv_icmp_ge X.1 X.2.1 hd ht (fun q => by rw [if_pos (by simpa [cmpI] using q)] at kk; exact kk) (fun q => by rw [if_neg (by simpa [cmpI] using q)] at kk; exact kk)
    · exact GS_h fun D dA base p l e R s m args below meth c Q cells slots X H locs lsC hH hL _ _ kk => lv_icmp_gt X.1 X.2.1 hd ht (fun q => by rw [if_pos (by simpa [cmpI] using q)] at kk; exact kk) (fun q => by rw [if_neg (by simpa [cmpI] using q)] at kk; exact kk)
    · exact GS_h fun D dA base p l e R s m args below meth c Q cells slots X H locs lsC hH hL _ _ kk => lv_icmp_le X.1 X.2.1 hd ht (fun q => by rw [if_pos (by simpa [cmpI] using q)] at kk; exact kk) (fun q => by rw [if_neg (by simpa [cmpI] using q)] at kk; exact kk)
  · cases hs
theorem g_ifnull {off : Int} (hd : decode (byt k) pc = .ok (.ifnull off, len)) (hs : exec k pc ls st h len (.ifnull off) = some (.inl (pc', ls', st', h'))) : GS k pc ls st h pc' ls' st' h' := by
  obtain rfl := (o1_inv hs).1
  replace hs := (o1_inv hs).2
  unfold x_nu at hs
  split at hs
  · rename_i i r
    obtain ⟨t, ht, rfl, rfl, rfl, rfl⟩ := jmp_inv hs
    cases i with
    | zero => exact GS_h fun D dA base p l e R s m args below meth c Q cells slots X H locs lsC hH hL _ _ kk => lv_ifnullN X.1 X.2.1 hd ht (by simpa using kk)
    | succ i => exact GS_h fun D dA base p l e R s m args below meth c Q cells slots X H locs lsC hH hL _ _ kk => lv_ifnull X.1 X.2.1 hd (by simpa using kk)
  · cases hs
theorem g_ifnonnull {off : Int} (hd : decode (byt k) pc = .ok (.ifnonnull off, len)) (hs : exec k pc ls st h len (.ifnonnull off) = some (.inl (pc', ls', st', h'))) : GS k pc ls st h pc' ls' st' h' := by
  obtain rfl := (o1_inv hs).1
  replace hs := (o1_inv hs).2
  unfold x_nu at hs
  split at hs
  · rename_i i r
    obtain ⟨t, ht, rfl, rfl, rfl, rfl⟩ := jmp_inv hs
    cases i with
    | zero => exact GS_h fun D dA base p l e R s m args below meth c Q cells slots X H locs lsC hH hL _ _ kk => lv_ifnonnullN X.1 X.2.1 hd (by simpa using kk)
    | succ i => exact GS_h fun D dA base p l e R s m args below meth c Q cells slots X H locs lsC hH hL _ _ kk => lv_ifnonnull X.1 X.2.1 hd ht (by simpa using kk)
  · cases hs
theorem g_ts {d lo hi : Int} {offs : Array Int} (hd : decode (byt k) pc = .ok (.tableswitch d lo hi offs, len)) (hs : exec k pc ls st h len (.tableswitch d lo hi offs) = some (.inl (pc', ls', st', h'))) : GS k pc ls st h pc' ls' st' h' := by
  replace hs : x_ts pc ls st h d lo hi offs = some (.inl (pc', ls', st', h')) := hs
  unfold x_ts at hs
  split at hs
  · split at hs
    · rename_i hx
      obtain ⟨t, ht, rfl, rfl, rfl, rfl⟩ := jmp_inv hs
      exact GS_h fun D dA base p l e R s m args below meth c Q cells slots X H locs lsC hH hL _ _ kk => lv_tableOut X.1 X.2.1 hd hx ht kk
    · rename_i hx
      split at hs
      · rename_i o ho
        obtain ⟨t, ht, rfl, rfl, rfl, rfl⟩ := jmp_inv hs
        exact GS_h fun D dA base p l e R s m args below meth c Q cells slots X H locs lsC hH hL _ _ kk => lv_tableIn X.1 X.2.1 hd (fun q => hx (Or.inl q)) (fun q => hx (Or.inr q)) ho ht kk
      · cases hs
  · cases hs
end GO2
end
section
/-! steps that read or write cells -/
theorem u2_at {α : Type} (f : Nat → Nat → α) (i k : Nat) (v : α) (k' : Nat) : u2 f i k v i k' = if k' = k then v else f i k' := by simp [u2, va_up]
theorem u2_ne {α : Type} (f : Nat → Nat → α) {i j : Nat} (k : Nat) (v : α) (h : j ≠ i) : u2 f i k v j = f j := by simp [u2, va_up, h]
theorem inG_fam {g c : Nat} (h : inG g c = true) : ∃ d, d ∈ fam g ∧ c = d + 1 := by
  unfold inG at h
  split at h
  · rename_i e
    subst e
    simp only [Bool.or_eq_true, beq_iff_eq] at h
    rcases h with ((h | h) | h) | h
    · exact ⟨7, by decide, by omega⟩
    · exact ⟨1, by decide, by omega⟩
    · exact ⟨4, by decide, by omega⟩
    · exact ⟨5, by decide, by omega⟩
  · rename_i e
    simp only [beq_iff_eq] at h
    exact ⟨g, by simp [fam, e], h⟩
theorem vwCl_lt {c : Nat} {r : vw_C} (h : vwCl[c]? = some r) : c < 11 := by
  have := (List.getElem?_eq_some_iff.mp h).1
  simpa [vwCl] using this
theorem fld {o z g s ty : Nat} {fin : Bool} {ref : String} {wd sf c : Nat} (hl : look (ftb o) z = some (g, s, ty, fin, ref, wd, sf)) (hc : c ∈ fam g) :
    ∃ r : vw_C, vwCl[c]? = some r ∧ s < r.2.2 ∧ Cond.fieldLink (ow o) z ref (r.2.1 s).2.1 (r.2.1 s).2.2.1 ∈ TB ∧ (ref = (r.2.1 s).1 ∨ Cond.sameField ref (r.2.1 s).1 (r.2.1 s).2.1 (r.2.1 s).2.2.1 ∈ TB) ∧ tyc c s = ty ∧ (r.2.1 s).2.2.2 = fin ∧ (fin = true → sf = 0 → ref = (r.2.1 s).1) := by
  have h1 := List.all_eq_true.mp (List.all_eq_true.mp (ftb_ok o) _ (look_mem hl)) c hc
  simp only [fOk1] at h1
  cases hr : vwCl[c]? with
  | none => rw [hr] at h1; cases h1
  | some r =>
    rw [hr] at h1
    simp only [Bool.and_eq_true, Bool.or_eq_true, decide_eq_true_eq, beq_iff_eq, Bool.not_eq_true', bne_iff_ne, ne_eq] at h1
    obtain ⟨⟨⟨⟨⟨a, b⟩, d⟩, e⟩, f⟩, g⟩ := h1
    refine ⟨r, rfl, a, isT_TB b, d.imp id isT_TB, e, f, fun q1 q2 => ?_⟩
    rcases g with (g | g) | g
    · rw [q1] at g; cases g
    · exact g
    · exact absurd q2 g
theorem HR.pos {D : va_G} {dA : Nat → ClassId} {base : Nat} {h : Hp} {H : Heap} {i : Nat} (o : HR D dA base h H) (hi : h.2.2.1 i ≠ 0) : ∃ j, i = j + 1 := by
  cases i with
  | zero => exact absurd o.2.1 hi
  | succ j => exact ⟨j, rfl⟩
theorem hsame_of {args : Array Value} {s : State} {ref o n d : String} (hts : ∀ w ∈ TB, w.before args s = true) (h : ref = o ∨ Cond.sameField ref o n d ∈ TB) : ∀ x, s.fieldFound? o n d = some x → s.fieldFound? ref n d = some x := by
  intro x hx
  rcases h with h | h
  · rw [h]; exact hx
  · exact u_same (hts _ h) x hx
theorem getD_map {N : Nat} (V : Nat → Value) {k : Nat} (hk : k < N) : vp_V ((List.range N).map V) k = V k := by
  simp [vp_V, List.getD_eq_getElem?_getD, hk]
section GO3
variable {k pc len : Nat} {ls : Lo} {st : List Value} {h : Hp} {pc' : Nat} {ls' : Lo} {st' : List Value} {h' : Hp}
theorem g_getfield {z : Nat} (hd : decode (byt k) pc = .ok (.getfield z, len)) (hs : exec k pc ls st h len (.getfield z) = some (.inl (pc', ls', st', h'))) : GS k pc ls st h pc' ls' st' h' := by
  obtain rfl := (o1_inv hs).1
  replace hs := (o1_inv hs).2
  unfold x_get at hs
  split at hs
  case h_2 => cases hs
  case h_1 i r =>
    split at hs
    case h_2 => cases hs
    case h_1 g s ty q hl =>
      split at hs
      case isFalse => cases hs
      case isTrue hg =>
        obtain ⟨rfl, rfl, rfl, rfl⟩ := go_inv hs
        obtain ⟨fin, ref, wd, sf⟩ := q
        refine GS_h fun D dA base p l e R s0 m args below meth c Q cells slots X H locs lsC hH hL _ _ kk => ?_
        obtain ⟨hx, hb, -, -, hown, hts, -, -, hst, -⟩ := X
        obtain ⟨cc, hcc, hC⟩ := inG_fam hg
        obtain ⟨⟨C, T, N⟩, hr, hlt, hlink, hsm, hty, -, -⟩ := fld hl hcc
        replace hlt : s < N := hlt
        obtain ⟨j, rfl⟩ := hH.pos (i := i) (by omega)
        have ob := (hH.2.2.2 j).1 cc _ hC hr
        have hP : va_P D vwCl [(base + j, .inr (cc, (List.range N).map (fun k => cv base (fva (tyc cc k) h' (j + 1) k))))] H := fun k0 q0 h0 => by
          have hk0 : k0 < 1 := (List.getElem?_eq_some_iff.mp h0).1
          rw [show k0 = 0 by omega] at h0
          cases h0
          exact ⟨_, hr, ob.to (fun k1 hk1 => (getD_map (N := N) (fun k => cv base (fva (tyc cc k) h' (j + 1) k)) hk1).symm)⟩
        refine va_get hx hb hts (clp cc _ hr).1 hown hst.1 hP 0 rfl hr s hlt (hts _ hlink) (hsame_of hts hsm) (v := cv base (fva ty h' (j + 1) s)) ?_ hd kk
        rw [← hty, List.getElem?_map, List.getElem?_range hlt]
        rfl
/-- a field is written -/
theorem W_put {D : va_G} {dA : Nat → ClassId} {base : Nat} {p : Program} {l : Launch} {e : Env} {R : Room} {s : State} {m : MethodId} {args : Array Value} {below : List Frame} {meth : Method} {c : Code} {Q : State → Prop} {cells slots : Nat} (X : Cx D dA base k p R s m args meth c) {H : Heap} {locs : List Loc} {lsC : Array Slot} {cc a f : Nat} {r : vw_C} {V0 : Nat → Value} {ref : String} {z : Nat} {v : Value} {rest : List Value}
    (hr : vwCl[cc]? = some r) (ob : t_OB a (D.1 cc) r.2.2 (D.2 cc) H V0) (hf : f < r.2.2) (hlink : Cond.fieldLink (ow (mOw k)) z ref (r.2.1 f).2.1 (r.2.1 f).2.2.1 ∈ TB) (hsm : ref = (r.2.1 f).1 ∨ Cond.sameField ref (r.2.1 f).1 (r.2.1 f).2.1 (r.2.1 f).2.2.1 ∈ TB)
    (hfin : (r.2.1 f).2.2.2 = false ∨ ((r.2.1 f).2.2.2 = true ∧ (mNm k).name = "<init>" ∧ (r.2.1 f).1 = ow (mOw k))) (hn : narrow (tyF.getD cc (fun _ => .int) f) v = v) (hfit : fits (tyF.getD cc (fun _ => .int) f) v = true) (hd : decode (byt k) pc = .ok (.putfield z, 3))
    (kk : ∀ H' : Heap, t_OB a (D.1 cc) r.2.2 (D.2 cc) H' (updV V0 f v) → H'.size = H.size → (∀ q, q ≠ a → H'[q]? = H[q]?) → W p l e R s m args below meth c H' (locs ++ [⟨a, D.2 cc f⟩]) cells slots Q (F0 m (pc + 3) lsC rest)) : W p l e R s m args below meth c H locs cells slots Q (F0 m pc lsC (v :: .ref a :: rest)) := by
  obtain ⟨hx, hb, -, -, hown, hts, -, hmn, hst, -⟩ := X
  obtain ⟨hin, hty, hnm, -, -⟩ := clp cc r hr
  obtain ⟨C, T, N⟩ := r
  have hap := va_apart (own := ow (mOw k)) hts hin _ hty hnm hst.1 hr
  obtain ⟨cell, q1, q2, q3, q4⟩ := ob
  obtain ⟨hS, hfc, kC, hkC, hkind⟩ := hst.1.1 cc _ hr
  obtain ⟨cf, kf, fi, fd, hi, hsl⟩ := hS f hf
  have hlay := hts _ (hin _ (u_in_lay hf))
  have hstt := (u_facts hfc hkC (u_lays hts hin hf) hi).1
  have hsame := hsame_of hts hsm
  unfold u_lay at hlay
  rcases hfin with hfin | ⟨hfin, hini, hdecl⟩
  · rw [if_neg (by rw [hfin]; decide)] at hlay
    have h6 := u_store hfc hkC hkind hlay hi (hty f hf) hn hfit
    refine W.putK hx hb (f := fd) ⟨hown, hts _ hlink, ⟨_, _, _, hsame _ hi⟩, hstt⟩ (by rw [q2]; exact h6) q1 q3 (by rw [hsl]; exact k2_hasslot (q4 f hf)) rfl rfl hd fun H' e1 e2 e3 => ?_
    rw [hsl] at e1 ⊢
    exact kk H' ⟨_, e1, q2, q3, t_set q4 hap hf v⟩ e2 e3
  · rw [if_pos hfin] at hlay
    have hcf : m.cls = cf := by
      obtain ⟨_, _, c', _, _, _, -, -, hf', -, -, -, hown2, -⟩ := Cond.laysFinal_spec hlay
      have e1 : c' = cf := by have := hi.symm.trans hf'; simp at this; exact this.1.symm
      rw [hdecl] at hown2
      rw [← e1]; exact Option.some.inj (hown.symm.trans hown2)
    have h6 := u_fits hfc hkC hkind (Or.inr hlay) hi (hty f hf) hn hfit
    refine W.putFinK hx hb hown (hts _ hlink) (hsame _ hi) hstt hcf (hmn.trans hini) (by rw [q2]; exact h6) q1 q3 (by rw [hsl]; exact k2_hasslot (q4 f hf)) rfl rfl hd fun H' e1 e2 e3 => ?_
    rw [hsl] at e1 ⊢
    exact kk H' ⟨_, e1, q2, q3, t_set q4 hap hf v⟩ e2 e3
/-- one cell's contents change -/
theorem GS_w {st0 : List Value} {i : Nat} (e1 : h'.1 = h.1) (e2 : h'.2.1 = h.2.1) (eC : h'.2.2.1 = h.2.2.1) (eZ : h'.2.2.2.1 = h.2.2.2.1) (eI : ∀ j, j ≠ i + 1 → h'.2.2.2.2.1 j = h.2.2.2.2.1 j) (eL : ∀ j, j ≠ i + 1 → h'.2.2.2.2.2.1 j = h.2.2.2.2.2.1 j) (eR : ∀ j, j ≠ i + 1 → h'.2.2.2.2.2.2 j = h.2.2.2.2.2.2 j)
    (row : ∀ (D : va_G) (dA : Nat → ClassId) (base : Nat) (p : Program) (l : Launch) (e : Env) (R : Room) (s : State) (m : MethodId) (args : Array Value) (below : List Frame) (meth : Method) (c : Code) (Q : State → Prop) (cells slots : Nat), Cx D dA base k p R s m args meth c → ∀ (H : Heap) (locs : List Loc) (lsC : Array Slot), HR D dA base h H →
      (∀ (H' : Heap) (o : Nat), cellOK D dA base h' i H' → H'.size = H.size → (∀ q, q ≠ base + i → H'[q]? = H[q]?) → W p l e R s m args below meth c H' (locs ++ [⟨base + i, o⟩]) cells slots Q (F0 m pc' lsC (st'.map (cv base)))) → W p l e R s m args below meth c H locs cells slots Q (F0 m pc lsC (st0.map (cv base)))) : GS k pc ls st0 h pc' ls st' h' := by
  refine ⟨⟨by rw [e1]; exact Nat.le_refl _, by rw [e2]; exact Nat.le_refl _, rfl⟩, fun D dA base n0 sl0 p l e R s m args below meth c Q X hc hs hV hn hsl hll H locs lsC hH hS hL => ?_⟩
  refine row D dA base p l e R s m args below meth c Q _ _ X H locs lsC hH fun H' o ok z oq => ?_
  have := hV (by rw [e1]; exact hn) (by rw [e2]; exact hsl) hll H' _ lsC (hH.set z oq e1 eC eZ eI eL eR ok) (hS.put (k := o) z oq (Nat.le_add_right _ _)) hL
  rw [e1, e2] at this
  exact this
theorem tcode_ty {t : FieldType} {n : Nat} (h : tcode t = n) : (n = 0 → t = .int) ∧ (n = 1 → t = .long) ∧ (n = 3 → t = .boolean) ∧ (n = 2 → (∃ c, t = .object c) ∨ ∃ c, t = .array c) := by
  cases t <;> simp [tcode] at h <;> subst h <;> simp
theorem g_putfield {z : Nat} (hd : decode (byt k) pc = .ok (.putfield z, len)) (hs : exec k pc ls st h len (.putfield z) = some (.inl (pc', ls', st', h'))) : GS k pc ls st h pc' ls' st' h' := by
  obtain rfl := (o1_inv hs).1
  replace hs := (o1_inv hs).2
  unfold x_put at hs
  split at hs
  case h_2 => cases hs
  case h_1 v i r =>
    split at hs
    case h_2 => cases hs
    case h_1 g f ty fin ref q hl =>
      split at hs
      case isFalse => cases hs
      case isTrue hg =>
        obtain ⟨hg, hfin⟩ := hg
        obtain ⟨wd, sf⟩ := q
        obtain ⟨cc, hcc, hC⟩ := inG_fam hg
        obtain ⟨rr, hr, hf, hlink, hsm, hty, hfe, hfd⟩ := fld hl hcc
        have hc11 := vwCl_lt hr
        have hfin' : (rr.2.1 f).2.2.2 = false ∨ ((rr.2.1 f).2.2.2 = true ∧ (mNm k).name = "<init>" ∧ (rr.2.1 f).1 = ow (mOw k)) := by
          rcases hfin with q | ⟨q1, q2, q3⟩
          · exact Or.inl (hfe.trans q)
          · cases hb : fin with
            | false => exact Or.inl (hfe.trans hb)
            | true => exact Or.inr ⟨hfe.trans hb, by simpa [isIni] using q1, (hfd hb q3).symm.trans q2⟩
        have htc := tcode_ty hty
        have fin3 : ∀ (D : va_G) (dA : Nat → ClassId) (base j : Nat) (h2 : Hp) (H' : Heap) (V0 : Nat → Value) (v : Value), i = j + 1 → h2.2.2.1 = h.2.2.1 → t_OB (base + j) (D.1 cc) rr.2.2 (D.2 cc) H' (updV V0 f v) → (∀ k, k < rr.2.2 → cv base (fva (tyc cc k) h2 (j + 1) k) = updV V0 f v k) → cellOK D dA base h2 j H' := by
          intro D dA base j h2 H' V0 v e eC ob ev
          subst e
          refine ⟨fun c2 r2 h3 h4 => ?_, fun h3 => ?_, fun h3 => ?_, fun t ht h3 => ?_⟩
          · rw [eC, hC] at h3
            have : c2 = cc := by omega
            subst this
            cases hr.symm.trans h4
            exact ob.to (fun k hk => (ev k hk).symm)
          · rw [eC, hC] at h3; omega
          · rw [eC, hC] at h3; omega
          · rw [eC, hC] at h3; omega
        have hi : ∀ (D : va_G) (dA : Nat → ClassId) (base : Nat) (H : Heap), HR D dA base h H → ∃ j, i = j + 1 := fun D dA base H hH => hH.pos (by omega)
        cases i with
        | zero =>
          have nope : ∀ (D : va_G) (dA : Nat → ClassId) (base : Nat) (H : Heap), ¬ HR D dA base h H := fun D dA base H hH => by have e0 : h.2.2.1 0 = cc + 1 := hC; have := hH.2.1; omega
          have key : ∀ (h2 : Hp), h2.1 = h.1 → h2.2.1 = h.2.1 → GS k pc ls (v :: .ref 0 :: r) h (pc + 3) ls r h2 := fun h2 e1 e2 => ⟨⟨by rw [e1]; exact Nat.le_refl _, by rw [e2]; exact Nat.le_refl _, rfl⟩, fun D dA base n0 sl0 p l e R s m args below meth c Q X hc hs hV hn hsl hll H locs lsC hH hS hL => absurd hH (nope D dA base H)⟩
          split at hs
          all_goals first | (cases hs; done) | (split at hs; all_goals first | (cases hs; done) | (obtain ⟨rfl, rfl, rfl, rfl⟩ := go_inv hs; exact key _ rfl rfl))
        | succ j =>
          split at hs
          · split at hs
            case isFalse => cases hs
            case isTrue ht =>
              rename_i x
              obtain ⟨rfl, rfl, rfl, rfl⟩ := go_inv hs
              refine GS_w (i := j) rfl rfl rfl rfl (fun j' hj => u2_ne _ _ _ hj) (fun _ _ => rfl) (fun _ _ => rfl) fun D dA base p l e R s m args below meth c Q cells slots X H locs lsC hH kk => ?_
              refine W_put (v := .int x) X hr ((hH.2.2.2 j).1 cc _ hC hr) hf hlink hsm hfin' ?_ ?_ hd fun H' ob z oq => kk H' _ (fin3 D dA base j _ H' _ _ rfl rfl ob fun k1 hk1 => ?_) z oq
              · rcases ht with ht | ⟨ht, hx⟩
                · rw [htc.1 ht]; rfl
                · rw [htc.2.2.1 ht]
                  rcases hx with rfl | rfl <;> rfl
              · rcases ht with ht | ⟨ht, hx⟩
                · rw [htc.1 ht]; rfl
                · rw [htc.2.2.1 ht]
                  rcases hx with rfl | rfl <;> rfl
              · by_cases hk : k1 = f
                · subst hk
                  have h1 : ¬ tyc cc k1 = 1 := by rw [hty]; omega
                  have h2 : ¬ tyc cc k1 = 2 := by rw [hty]; omega
                  simp [fva, updV, h1, h2, cv, u2_at]
                · simp only [fva, updV, hk, if_false, u2_at]
          · split at hs
            case isFalse => cases hs
            case isTrue ht =>
              rename_i x
              obtain ⟨rfl, rfl, rfl, rfl⟩ := go_inv hs
              refine GS_w (i := j) rfl rfl rfl rfl (fun _ _ => rfl) (fun j' hj => u2_ne _ _ _ hj) (fun _ _ => rfl) fun D dA base p l e R s m args below meth c Q cells slots X H locs lsC hH kk => ?_
              refine W_put (v := .long x) X hr ((hH.2.2.2 j).1 cc _ hC hr) hf hlink hsm hfin' ?_ ?_ hd fun H' ob z oq => kk H' _ (fin3 D dA base j _ H' _ _ rfl rfl ob fun k1 hk1 => ?_) z oq
              · rw [htc.2.1 ht]; rfl
              · rw [htc.2.1 ht]; rfl
              · by_cases hk : k1 = f
                · subst hk
                  have h1 : tyc cc k1 = 1 := by rw [hty]; exact ht
                  simp [fva, updV, h1, cv, u2_at]
                · simp only [fva, updV, hk, if_false, u2_at]
          · split at hs
            case isFalse => cases hs
            case isTrue ht =>
              rename_i x
              obtain ⟨rfl, rfl, rfl, rfl⟩ := go_inv hs
              refine GS_w (i := j) rfl rfl rfl rfl (fun _ _ => rfl) (fun _ _ => rfl) (fun j' hj => u2_ne _ _ _ hj) fun D dA base p l e R s m args below meth c Q cells slots X H locs lsC hH kk => ?_
              refine W_put (v := cvr base x) X hr ((hH.2.2.2 j).1 cc _ hC hr) hf hlink hsm hfin' ?_ ?_ hd fun H' ob z oq => kk H' _ (fin3 D dA base j _ H' _ _ rfl rfl ob fun k1 hk1 => ?_) z oq
              · rcases htc.2.2.2 ht with ⟨c2, e2⟩ | ⟨c2, e2⟩ <;> rw [e2] <;> cases x <;> rfl
              · rcases htc.2.2.2 ht with ⟨c2, e2⟩ | ⟨c2, e2⟩ <;> rw [e2] <;> cases x <;> rfl
              · by_cases hk : k1 = f
                · subst hk
                  have h1 : ¬ tyc cc k1 = 1 := by rw [hty]; omega
                  have h2 : tyc cc k1 = 2 := by rw [hty]; exact ht
                  simp [fva, updV, h2, cv, u2_at]
                · simp only [fva, updV, hk, if_false, u2_at]
          · cases hs
end GO3
end
section
/-! steps that read, write, make arrays; new objects; instanceof; Object.<init>, arraycopy, Math -/
theorem inb_iff {y : Int32} {n : Nat} (h : inb y n = true) : vp_in y n ∧ ¬ y < 0 ∧ y.toNatClampNeg < n := by
  unfold inb ix at h
  obtain ⟨h1, h2⟩ := (Bool.and_eq_true _ _).mp h
  replace h1 := of_decide_eq_true h1
  replace h2 := of_decide_eq_true h2
  exact ⟨fun q => q.elim h1 (fun q => by omega), h1, h2⟩
theorem tys_at {D : va_G} {dA : Nat → ClassId} {s : State} (h : Stt D dA s) (t : Nat) {q : ClassId × FieldType} (ht : (tysL dA)[t]? = some q) : ArrOfT s q.1 q.2 ∧ va_RA s q.1 q.2 := h.1.2 t q ht
theorem ref_ty (dA : Nat → ClassId) {t : Nat} (ht : t < 3) : ∃ ty : FieldType, (tysL dA)[2 + t]? = some (dA (2 + t), ty) ∧ ty.isReference = true := by
  match t, ht with
  | 0, _ => exact ⟨_, rfl, rfl⟩
  | 1, _ => exact ⟨_, rfl, rfl⟩
  | 2, _ => exact ⟨_, rfl, rfl⟩
section GO4
variable {k pc len : Nat} {ls : Lo} {st : List Value} {h : Hp} {pc' : Nat} {ls' : Lo} {st' : List Value} {h' : Hp}
theorem g_iaload (hd : decode (byt k) pc = .ok (.iaload, len)) (hs : exec k pc ls st h len .iaload = some (.inl (pc', ls', st', h'))) : GS k pc ls st h pc' ls' st' h' := by
  obtain rfl := (o1_inv hs).1
  replace hs := (o1_inv hs).2
  unfold x_ald at hs
  split at hs
  case h_2 => cases hs
  case h_1 y i r =>
    split at hs
    case isFalse => cases hs
    case isTrue hin =>
      rw [if_pos rfl] at hs
      split at hs
      case isFalse => cases hs
      case isTrue hC =>
        obtain ⟨rfl, rfl, rfl, rfl⟩ := go_inv hs
        refine GS_h fun D dA base p l e R s m args below meth c Q cells slots X H locs lsC hH hL _ _ kk => ?_
        obtain ⟨hx, hb, -, -, hown, hts, -, -, hst, -⟩ := X
        obtain ⟨j, rfl⟩ := hH.pos (i := i) (by omega)
        have hc := (hH.2.2.2 j).2.1 hC
        obtain ⟨h1, h2, h3⟩ := inb_iff hin
        exact W.iald hx hb hc ((tys_at hst 0 rfl).1 _ _) (fun q => by cases q) (by rw [arrV_size]; exact h1) (arrV_read _ _ h3) rfl rfl hd kk
theorem g_laload (hd : decode (byt k) pc = .ok (.laload, len)) (hs : exec k pc ls st h len .laload = some (.inl (pc', ls', st', h'))) : GS k pc ls st h pc' ls' st' h' := by
  obtain rfl := (o1_inv hs).1
  replace hs := (o1_inv hs).2
  unfold x_ald at hs
  split at hs
  case h_2 => cases hs
  case h_1 y i r =>
    split at hs
    case isFalse => cases hs
    case isTrue hin =>
      rw [if_neg (by decide), if_pos rfl] at hs
      split at hs
      case isFalse => cases hs
      case isTrue hC =>
        obtain ⟨rfl, rfl, rfl, rfl⟩ := go_inv hs
        refine GS_h fun D dA base p l e R s m args below meth c Q cells slots X H locs lsC hH hL _ _ kk => ?_
        obtain ⟨hx, hb, -, -, hown, hts, -, -, hst, -⟩ := X
        obtain ⟨j, rfl⟩ := hH.pos (i := i) (by omega)
        have hc := (hH.2.2.2 j).2.2.1 hC
        obtain ⟨h1, h2, h3⟩ := inb_iff hin
        exact W.lald hx hb hc ((tys_at hst 1 rfl).1 _ _) (fun q => by cases q) (by rw [arrV_size]; exact h1) (arrV_read _ _ h3) rfl rfl hd kk
theorem g_aaload (hd : decode (byt k) pc = .ok (.aaload, len)) (hs : exec k pc ls st h len .aaload = some (.inl (pc', ls', st', h'))) : GS k pc ls st h pc' ls' st' h' := by
  obtain rfl := (o1_inv hs).1
  replace hs := (o1_inv hs).2
  unfold x_ald at hs
  split at hs
  case h_2 => cases hs
  case h_1 y i r =>
    split at hs
    case isFalse => cases hs
    case isTrue hin =>
      rw [if_neg (by decide), if_neg (by decide)] at hs
      split at hs
      case isFalse => cases hs
      case isTrue hC =>
        obtain ⟨rfl, rfl, rfl, rfl⟩ := go_inv hs
        obtain ⟨t, ht, hC⟩ : ∃ t, t < 3 ∧ h'.2.2.1 i = 23 + t := by
          rcases hC with q | q | q
          · exact ⟨0, by omega, q⟩
          · exact ⟨1, by omega, q⟩
          · exact ⟨2, by omega, q⟩
        refine GS_h fun D dA base p l e R s m args below meth c Q cells slots X H locs lsC hH hL _ _ kk => ?_
        obtain ⟨hx, hb, -, -, hown, hts, -, -, hst, -⟩ := X
        obtain ⟨j, rfl⟩ := hH.pos (i := i) (by omega)
        have hc := (hH.2.2.2 j).2.2.2 t ht hC
        obtain ⟨h1, h2, h3⟩ := inb_iff hin
        obtain ⟨ty, hty, hrf⟩ := ref_ty dA ht
        exact W.aald hx hb hc ((tys_at hst (2 + t) hty).1 _ _) hrf (fun q => by cases q) (by rw [arrV_size]; exact h1) (arrV_read _ _ h3) rfl rfl hd kk
theorem upd_arr {α : Type} (f : Nat → Nat → α) (mk : α → Value) (i j : Nat) (x : α) : updV (fun q => mk (f i q)) j (mk x) = fun q => mk (u2 f i j x i q) := by
  funext q
  by_cases hq : q = j <;> simp [updV, u2_at, hq]
theorem g_iastore (hd : decode (byt k) pc = .ok (.iastore, len)) (hs : exec k pc ls st h len .iastore = some (.inl (pc', ls', st', h'))) : GS k pc ls st h pc' ls' st' h' := by
  obtain rfl := (o1_inv hs).1
  replace hs := (o1_inv hs).2
  unfold x_ast at hs
  split at hs
  case h_4 => cases hs
  case h_2 => simp at hs
  case h_3 => simp at hs
  case h_1 x y i r =>
    split at hs
    case isFalse => cases hs
    case isTrue hin =>
      obtain ⟨-, hin, hC⟩ := hin
      obtain ⟨rfl, rfl, rfl, rfl⟩ := go_inv hs
      cases i with
      | zero => exact ⟨⟨Nat.le_refl _, Nat.le_refl _, rfl⟩, fun D dA base n0 sl0 p l e R s m args below meth c Q X hc hs hV hn hsl hll H locs lsC hH hS hL => absurd hH.2.1 (by have e0 : h.2.2.1 0 = 21 := hC; omega)⟩
      | succ j =>
        replace hC : h.2.2.1 (j + 1) = 21 := hC
        replace hin : inb y (h.2.2.2.1 (j + 1)) = true := hin
        refine GS_w (i := j) rfl rfl rfl rfl (fun j' hj => u2_ne _ _ _ hj) (fun _ _ => rfl) (fun _ _ => rfl) fun D dA base p l e R s m args below meth c Q cells slots X H locs lsC hH kk => ?_
        obtain ⟨hx, hb, -, -, hown, hts, -, -, hst, -⟩ := X
        have hc := (hH.2.2.2 j).2.1 hC
        obtain ⟨h1, h2, h3⟩ := inb_iff hin
        refine W.iast hx hb hc ((tys_at hst 0 rfl).1 _ _) (fun q => by cases q) (by rw [arrV_size]; exact h1) rfl rfl hd fun H' e1 e2 e3 => kk H' _ ⟨fun c2 r2 h5 h6 => ?_, fun _ => ?_, fun h5 => ?_, fun t ht h5 => ?_⟩ e2 e3
        · replace h5 : h.2.2.1 (j + 1) = c2 + 1 := h5
          have := vwCl_lt h6
          omega
        · rw [e1, arrV_store]
          exact congrArg (fun z => some (arrV _ _ z)) (upd_arr h.2.2.2.2.1 (fun z => .int z) (j + 1) (ix y) x)
        · replace h5 : h.2.2.1 (j + 1) = 22 := h5
          omega
        · replace h5 : h.2.2.1 (j + 1) = 23 + t := h5
          omega
theorem g_lastore (hd : decode (byt k) pc = .ok (.lastore, len)) (hs : exec k pc ls st h len .lastore = some (.inl (pc', ls', st', h'))) : GS k pc ls st h pc' ls' st' h' := by
  obtain rfl := (o1_inv hs).1
  replace hs := (o1_inv hs).2
  unfold x_ast at hs
  split at hs
  case h_4 => cases hs
  case h_1 => simp at hs
  case h_3 => simp at hs
  case h_2 x y i r =>
    split at hs
    case isFalse => cases hs
    case isTrue hin =>
      obtain ⟨-, hin, hC⟩ := hin
      obtain ⟨rfl, rfl, rfl, rfl⟩ := go_inv hs
      cases i with
      | zero => exact ⟨⟨Nat.le_refl _, Nat.le_refl _, rfl⟩, fun D dA base n0 sl0 p l e R s m args below meth c Q X hc hs hV hn hsl hll H locs lsC hH hS hL => absurd hH.2.1 (by have e0 : h.2.2.1 0 = 22 := hC; omega)⟩
      | succ j =>
        replace hC : h.2.2.1 (j + 1) = 22 := hC
        replace hin : inb y (h.2.2.2.1 (j + 1)) = true := hin
        refine GS_w (i := j) rfl rfl rfl rfl (fun _ _ => rfl) (fun j' hj => u2_ne _ _ _ hj) (fun _ _ => rfl) fun D dA base p l e R s m args below meth c Q cells slots X H locs lsC hH kk => ?_
        obtain ⟨hx, hb, -, -, hown, hts, -, -, hst, -⟩ := X
        have hc := (hH.2.2.2 j).2.2.1 hC
        obtain ⟨h1, h2, h3⟩ := inb_iff hin
        refine W.last hx hb hc ((tys_at hst 1 rfl).1 _ _) (fun q => by cases q) (by rw [arrV_size]; exact h1) rfl rfl hd fun H' e1 e2 e3 => kk H' _ ⟨fun c2 r2 h5 h6 => ?_, fun h5 => ?_, fun _ => ?_, fun t ht h5 => ?_⟩ e2 e3
        · replace h5 : h.2.2.1 (j + 1) = c2 + 1 := h5
          have := vwCl_lt h6
          omega
        · replace h5 : h.2.2.1 (j + 1) = 21 := h5
          omega
        · rw [e1, arrV_store]
          exact congrArg (fun z => some (arrV _ _ z)) (upd_arr h.2.2.2.2.2.1 (fun z => .long z) (j + 1) (ix y) x)
        · replace h5 : h.2.2.1 (j + 1) = 23 + t := h5
          omega
theorem okS_t {a v : Nat} (h : okS a v = true) : (a = 24 ∧ inG 7 v = true) ∨ (a = 25 ∧ v = 7) := by
  simpa [okS] using h
theorem g_aastore (hd : decode (byt k) pc = .ok (.aastore, len)) (hs : exec k pc ls st h len .aastore = some (.inl (pc', ls', st', h'))) : GS k pc ls st h pc' ls' st' h' := by
  obtain rfl := (o1_inv hs).1
  replace hs := (o1_inv hs).2
  unfold x_ast at hs
  split at hs
  case h_4 => cases hs
  case h_1 => simp at hs
  case h_2 => simp at hs
  case h_3 x y i r =>
    split at hs
    case isFalse => cases hs
    case isTrue hin =>
      obtain ⟨-, hin, hC⟩ := hin
      obtain ⟨rfl, rfl, rfl, rfl⟩ := go_inv hs
      obtain ⟨t, ht, ht0, hCi⟩ : ∃ t, t < 3 ∧ 0 < t ∧ h.2.2.1 i = 23 + t := by
        rcases hC with ⟨-, q | q⟩ | q
        · exact ⟨1, by omega, by omega, q⟩
        · exact ⟨2, by omega, by omega, q⟩
        · rcases okS_t q with q | q
          · exact ⟨1, by omega, by omega, q.1⟩
          · exact ⟨2, by omega, by omega, q.1⟩
      cases i with
      | zero => exact ⟨⟨Nat.le_refl _, Nat.le_refl _, rfl⟩, fun D dA base n0 sl0 p l e R s m args below meth c Q X hc hs hV hn hsl hll H locs lsC hH hS hL => absurd hH.2.1 (by have e0 : h.2.2.1 0 = 23 + t := hCi; omega)⟩
      | succ j =>
        replace hC : (x = 0 ∧ (h.2.2.1 (j + 1) = 24 ∨ h.2.2.1 (j + 1) = 25)) ∨ okS (h.2.2.1 (j + 1)) (h.2.2.1 x) = true := hC
        replace hCi : h.2.2.1 (j + 1) = 23 + t := hCi
        replace hin : inb y (h.2.2.2.1 (j + 1)) = true := hin
        refine GS_w (i := j) rfl rfl rfl rfl (fun _ _ => rfl) (fun _ _ => rfl) (fun j' hj => u2_ne _ _ _ hj) fun D dA base p l e R s m args below meth c Q cells slots X H locs lsC hH kk => ?_
        obtain ⟨hx, hb, -, -, hown, hts, -, -, hst, -⟩ := X
        have hc := (hH.2.2.2 j).2.2.2 t ht hCi
        obtain ⟨h1, h2, h3⟩ := inb_iff hin
        have fin : ∀ H' : Heap, H'[base + j]? = some ((arrV (dA (2 + t)) (h.2.2.2.1 (j + 1)) (fun q => cvr base (h.2.2.2.2.2.2 (j + 1) q))).setSlot y.toNatClampNeg (cvr base x)) → cellOK D dA base (h.1, h.2.1, h.2.2.1, h.2.2.2.1, h.2.2.2.2.1, h.2.2.2.2.2.1, u2 h.2.2.2.2.2.2 (j + 1) (ix y) x) j H' := fun H' e1 => by
          refine ⟨fun c2 r2 h5 h6 => ?_, fun h5 => ?_, fun h5 => ?_, fun t2 ht2 h5 => ?_⟩
          · replace h5 : h.2.2.1 (j + 1) = c2 + 1 := h5
            have := vwCl_lt h6
            omega
          · replace h5 : h.2.2.1 (j + 1) = 21 := h5
            omega
          · replace h5 : h.2.2.1 (j + 1) = 22 := h5
            omega
          · replace h5 : h.2.2.1 (j + 1) = 23 + t2 := h5
            have : t2 = t := by omega
            subst this
            rw [e1, arrV_store]
            exact congrArg (fun z => some (arrV _ _ z)) (upd_arr h.2.2.2.2.2.2 (fun z => cvr base z) (j + 1) (ix y) x)
        obtain ⟨E, hE⟩ : ∃ E : String, (tysL dA)[2 + t]? = some (dA (2 + t), .object E) := by
          match t, ht, ht0 with
          | 1, _, _ => exact ⟨_, rfl⟩
          | 2, _, _ => exact ⟨_, rfl⟩
        cases x with
        | zero => exact va_WaastN (C := E) hx hb hc ((tys_at hst _ hE).1 _ _) (fun q => by cases q) (by rw [arrV_size]; exact h1) rfl rfl hd fun H' e1 e2 e3 => kk H' _ (fin H' e1) e2 e3
        | succ v =>
          have hok : okS (h.2.2.1 (j + 1)) (h.2.2.1 (v + 1)) = true := by
            rcases hC with ⟨q, -⟩ | q
            · exact absurd q (Nat.succ_ne_zero v)
            · exact q
          obtain ⟨kA, comp, k1, k2, k3, -⟩ := (tys_at hst _ hE).2
          obtain ⟨kE, hkE, -⟩ := Vm.findClass_spec k3
          obtain ⟨cc, r2, hr2, hCv, hasg⟩ : ∃ (cc : Nat) (r2 : vw_C), vwCl[cc]? = some r2 ∧ h.2.2.1 (v + 1) = cc + 1 ∧ (r2.1 = E ∨ va_Nw (.castable r2.1 E) s) := by
            rcases okS_t hok with ⟨q1, q2⟩ | ⟨q1, q2⟩
            · have e1 : t = 1 := by omega
              subst e1
              have e2 : E = "SteerBench$Steps" := by simp [tysL] at hE; exact hE.symm
              subst e2
              have hcs := hst.2.2.1
              simp only [inG, if_true, Bool.or_eq_true, beq_iff_eq] at q2
              rcases q2 with ((q2 | q2) | q2) | q2
              · exact ⟨7, _, rfl, by omega, Or.inl rfl⟩
              · exact ⟨1, _, rfl, by omega, Or.inr (hcs _ (List.mem_of_getElem? (i := 1) rfl))⟩
              · exact ⟨4, _, rfl, by omega, Or.inr (hcs _ (List.mem_of_getElem? (i := 2) rfl))⟩
              · exact ⟨5, _, rfl, by omega, Or.inr (hcs _ (List.mem_of_getElem? (i := 3) rfl))⟩
            · have e1 : t = 2 := by omega
              subst e1
              have e2 : E = "SteerBench$Sheet" := by simp [tysL] at hE; exact hE.symm
              subst e2
              exact ⟨6, _, rfl, by omega, Or.inl rfl⟩
          obtain ⟨cellV, g1, g2, g3, -⟩ := (hH.2.2.2 v).1 cc r2 hCv hr2
          have hcls := (hst.1.1 cc r2 hr2).2
          obtain ⟨kC, hkC, -⟩ := hcls.2
          have hassign : s.vm.assignable (D.1 cc) comp = true := by
            rcases hasg with q | q
            · have : comp = D.1 cc := Option.some.inj (k3.symm.trans (by rw [← q]; exact hcls.1))
              rw [this]
              exact va_asg _ _
            · obtain ⟨c0, t1, f1, f2, f3⟩ := Cond.castable_spec (va_Nw.use (A := args) rfl q)
              cases hcls.1.symm.trans f1
              cases k3.symm.trans f2
              exact f3
          exact W.aast hx hb hc (fun q h => by cases h) (fun h => by cases h) k1 k2 rfl hkE ⟨h2, by rw [arrV_size]; exact h3⟩ g1 (fun q h => by rw [g3] at h; cases h) (by rw [g2]; exact hkC) (by rw [g2]; exact hassign) rfl rfl hd fun H' e1 e2 e3 => kk H' _ (fin H' e1) e2 e3
theorem g_alen (hd : decode (byt k) pc = .ok (.arraylength, len)) (hs : exec k pc ls st h len .arraylength = some (.inl (pc', ls', st', h'))) : GS k pc ls st h pc' ls' st' h' := by
  obtain rfl := (o1_inv hs).1
  replace hs := (o1_inv hs).2
  unfold x_len at hs
  split at hs
  case h_2 => cases hs
  case h_1 i r =>
    split at hs
    case isFalse => cases hs
    case isTrue hC =>
      obtain ⟨rfl, rfl, rfl, rfl⟩ := go_inv hs
      refine GS_h fun D dA base p l e R s m args below meth c Q cells slots X H locs lsC hH hL _ _ kk => ?_
      obtain ⟨hx, hb, -, -, hown, hts, -, -, hst, -⟩ := X
      obtain ⟨j, rfl⟩ := hH.pos (i := i) (by omega)
      obtain ⟨o1, o2, o3, o4⟩ := hH.2.2.2 j
      have ok : ∃ (cA : ClassId) (f : Nat → Value) (ty : FieldType), H[base + j]? = some (arrV cA (h'.2.2.2.1 (j + 1)) f) ∧ s.isArrayOf (arrV cA (h'.2.2.2.1 (j + 1)) f) ty := by
        by_cases h1 : h'.2.2.1 (j + 1) = 21
        · exact ⟨_, _, _, o2 h1, (tys_at hst 0 rfl).1 _ _⟩
        · by_cases h2 : h'.2.2.1 (j + 1) = 22
          · exact ⟨_, _, _, o3 h2, (tys_at hst 1 rfl).1 _ _⟩
          · have ht : h'.2.2.1 (j + 1) - 23 < 3 := by omega
            obtain ⟨ty, hty, -⟩ := ref_ty dA ht
            exact ⟨_, _, ty, o4 (h'.2.2.1 (j + 1) - 23) ht (by omega), (tys_at hst _ hty).1 _ _⟩
      obtain ⟨cA, f, ty, hc, ha⟩ := ok
      exact W.alen hx hb hc ha (by rw [arrV_size]) rfl rfl hd kk
end GO4
end
section
/-! new cells; instanceof; Object.<init>, arraycopy, Math -/
theorem va_up_at {α : Type} (f : Nat → α) (i : Nat) (v : α) : va_up f i v i = v := by simp [va_up]
theorem va_up_no {α : Type} (f : Nat → α) {i j : Nat} (v : α) (h : j ≠ i) : va_up f i v j = f j := by simp [va_up, h]
theorem tyc_ok : ∀ (c : Nat) (r : vw_C), vwCl[c]? = some r → ∀ k, k < r.2.2 → tyc c k ≠ 9
  | 0, _, h => by cases h; decide +kernel
  | 1, _, h => by cases h; decide +kernel
  | 2, _, h => by cases h; decide +kernel
  | 3, _, h => by cases h; decide +kernel
  | 4, _, h => by cases h; decide +kernel
  | 5, _, h => by cases h; decide +kernel
  | 6, _, h => by cases h; decide +kernel
  | 7, _, h => by cases h; decide +kernel
  | 8, _, h => by cases h; decide +kernel
  | 9, _, h => by cases h; decide +kernel
  | 10, _, h => by cases h; decide +kernel
  | _ + 11, _, h => by simp [vwCl] at h
section GO5
variable {k pc len : Nat} {ls : Lo} {st : List Value} {h : Hp} {pc' : Nat} {ls' : Lo} {st' : List Value} {h' : Hp}
/-- m new cells with q slots -/
theorem GS_n {st0 : List Value} {m q : Nat} (e1 : h'.1 = h.1 + m) (e2 : h'.2.1 = h.2.1 + q) (eC : ∀ j, j ≤ h.1 ∨ h.1 + m < j → h'.2.2.1 j = h.2.2.1 j) (eZ : ∀ j, j ≤ h.1 → h'.2.2.2.1 j = h.2.2.2.1 j) (eI : ∀ j, j ≤ h.1 → h'.2.2.2.2.1 j = h.2.2.2.2.1 j) (eL : ∀ j, j ≤ h.1 → h'.2.2.2.2.2.1 j = h.2.2.2.2.2.1 j) (eR : ∀ j, j ≤ h.1 → h'.2.2.2.2.2.2 j = h.2.2.2.2.2.2 j)
    (row : ∀ (D : va_G) (dA : Nat → ClassId) (base : Nat) (p : Program) (l : Launch) (e : Env) (R : Room) (s : State) (mm : MethodId) (args : Array Value) (below : List Frame) (meth : Method) (c : Code) (Q : State → Prop) (cells slots : Nat), Cx D dA base k p R s mm args meth c → ∀ (H : Heap) (locs : List Loc) (lsC : Array Slot), HR D dA base h H → cells + m ≤ R.cells → slots + q ≤ R.slots →
      (∀ H' : Heap, (∀ j, j < m → cellOK D dA base h' (h.1 + j) H') → H'.size = H.size + m → (∀ x, x < H.size → H'[x]? = H[x]?) → W p l e R s mm args below meth c H' locs (cells + m) (slots + q) Q (F0 mm pc' lsC (st'.map (cv base)))) → W p l e R s mm args below meth c H locs cells slots Q (F0 mm pc lsC (st0.map (cv base)))) : GS k pc ls st0 h pc' ls st' h' := by
  refine ⟨⟨by rw [e1]; omega, by rw [e2]; omega, rfl⟩, fun D dA base n0 sl0 p l e R s mm args below meth c Q X hc hs hV hn hsl hll H locs lsC hH hS hL => ?_⟩
  refine row D dA base p l e R s mm args below meth c Q _ _ X H locs lsC hH (by rw [e1] at hc; omega) (by rw [e2] at hs; omega) fun H' ok z oq => ?_
  have := hV (by rw [e1]; omega) (by rw [e2]; omega) hll H' locs lsC (hH.grow z oq e1 eC eZ eI eL eR ok) ⟨by have := hS.1; omega, fun x h1 h2 => (oq x (Nat.lt_of_lt_of_le h1 hS.1)).trans (hS.2.1 x h1 h2), hS.2.2⟩ hL
  rw [e1, e2] at this
  rwa [show h.1 + m - n0 = h.1 - n0 + m by omega, show h.2.1 + q - sl0 = h.2.1 - sl0 + q by omega] at this
theorem newa_snd {x : Int32} {r : List Value} {c0 : Nat} (h0 : ¬ x < 0) (hn : ix x ≤ 1000) (hc0 : c0 = 21 ∨ c0 = 22 ∨ c0 = 24 ∨ c0 = 25)
    (row : ∀ (D : va_G) (dA : Nat → ClassId) (base : Nat) (p : Program) (l : Launch) (e : Env) (R : Room) (s : State) (mm : MethodId) (args : Array Value) (below : List Frame) (meth : Method) (c : Code) (Q : State → Prop) (cells slots : Nat), Cx D dA base k p R s mm args meth c → ∀ (H : Heap) (locs : List Loc) (lsC : Array Slot), H.size = base + h.1 → cells + 1 ≤ R.cells → slots + ix x ≤ R.slots →
      (∀ H' : Heap, H'[base + h.1]? = some (arrV (dA (c0 - 21)) (ix x) (fun _ => if c0 = 21 then .int 0 else if c0 = 22 then .long 0 else .null)) → H'.size = H.size + 1 → (∀ x, x < H.size → H'[x]? = H[x]?) → W p l e R s mm args below meth c H' locs (cells + 1) (slots + ix x) Q (F0 mm pc' lsC (.ref (base + h.1) :: r.map (cv base)))) → W p l e R s mm args below meth c H locs cells slots Q (F0 mm pc lsC (.int x :: r.map (cv base)))) : GS k pc ls (.int x :: r) h pc' ls (.ref (h.1 + 1) :: r) (nwA h c0 (ix x)) := by
  refine GS_n (m := 1) (q := ix x) rfl rfl (fun j hj => va_up_no _ _ (by omega)) (fun j hj => va_up_no _ _ (by omega)) (fun j hj => va_up_no _ _ (by omega)) (fun j hj => va_up_no _ _ (by omega)) (fun j hj => va_up_no _ _ (by omega)) fun D dA base p l e R s mm args below meth c Q cells slots X H locs lsC hH hc hsl kk => ?_
  refine row D dA base p l e R s mm args below meth c Q cells slots X H locs lsC hH.1 hc hsl fun H' e1 z oq => kk H' (fun j hj => ?_) z oq
  have : j = 0 := by omega
  subst this
  refine ⟨fun c2 r2 h5 h6 => ?_, fun h5 => ?_, fun h5 => ?_, fun t ht h5 => ?_⟩
  · replace h5 : va_up h.2.2.1 (h.1 + 1) c0 (h.1 + 1) = c2 + 1 := h5
    rw [va_up_at] at h5
    have := vwCl_lt h6
    omega
  · replace h5 : va_up h.2.2.1 (h.1 + 1) c0 (h.1 + 1) = 21 := h5
    rw [va_up_at] at h5
    subst h5
    show H'[base + h.1]? = some (arrV (dA 0) (va_up h.2.2.2.1 (h.1 + 1) (ix x) (h.1 + 1)) (fun j => .int (va_up h.2.2.2.2.1 (h.1 + 1) (fun _ => 0) (h.1 + 1) j)))
    rw [e1, va_up_at, va_up_at]
    rfl
  · replace h5 : va_up h.2.2.1 (h.1 + 1) c0 (h.1 + 1) = 22 := h5
    rw [va_up_at] at h5
    subst h5
    show H'[base + h.1]? = some (arrV (dA 1) (va_up h.2.2.2.1 (h.1 + 1) (ix x) (h.1 + 1)) (fun j => .long (va_up h.2.2.2.2.2.1 (h.1 + 1) (fun _ => 0) (h.1 + 1) j)))
    rw [e1, va_up_at, va_up_at]
    rfl
  · replace h5 : va_up h.2.2.1 (h.1 + 1) c0 (h.1 + 1) = 23 + t := h5
    rw [va_up_at] at h5
    show H'[base + h.1]? = some (arrV (dA (2 + t)) (va_up h.2.2.2.1 (h.1 + 1) (ix x) (h.1 + 1)) (fun j => cvr base (va_up h.2.2.2.2.2.2 (h.1 + 1) (fun _ => 0) (h.1 + 1) j)))
    rw [e1, va_up_at, va_up_at, if_neg (by omega), if_neg (by omega), show c0 - 21 = 2 + t by omega]
    rfl
theorem newa_inv {pc : Nat} {ls : Lo} {st : List Value} {h : Hp} {c0 pc' : Nat} {ls' : Lo} {st' : List Value} {h' : Hp} (e : x_newa pc ls st h c0 = some (.inl (pc', ls', st', h'))) : ∃ (x : Int32) (r : List Value), st = .int x :: r ∧ ¬ x < 0 ∧ ix x ≤ 1000 ∧ pc' = pc ∧ ls' = ls ∧ st' = .ref (h.1 + 1) :: r ∧ h' = nwA h c0 (ix x) := by
  unfold x_newa at e
  split at e
  · split at e
    · rename_i hx
      obtain ⟨rfl, rfl, rfl, rfl⟩ := go_inv e
      exact ⟨_, _, rfl, hx.1, hx.2, rfl, rfl, rfl, rfl⟩
    · cases e
  · cases e
theorem g_newarray {a : ArrayType} (hd : decode (byt k) pc = .ok (.newarray a, len)) (hs : exec k pc ls st h len (.newarray a) = some (.inl (pc', ls', st', h'))) : GS k pc ls st h pc' ls' st' h' := by
  obtain rfl := (o1_inv hs).1
  replace hs := (o1_inv hs).2
  cases a <;> first | (cases hs; done) | skip
  · obtain ⟨x, r, rfl, h0, hn, rfl, rfl, rfl, rfl⟩ := newa_inv hs
    refine newa_snd h0 hn (by omega) fun D dA base p l e R s mm args below meth c Q cells slots X H locs lsC hz hc hsl kk => ?_
    obtain ⟨hx, hb, -, -, hown, hts, -, -, hst, -⟩ := X
    refine va_newaK (atype := .int) (N := ix x) hx hb (hts _ (TB_at 102 (w := .arrayClass .int) (by decide +kernel) rfl)) rfl hd rfl h0 rfl (by show ix x * 4 ≤ _; omega) hc hsl hz fun H' cA e1 e2 e3 e4 e5 => ?_
    have : cA = dA 0 := Option.some.inj (e5.symm.trans (tys_at hst 0 rfl).2)
    subst this
    exact kk H' e1 (by rw [e2, hz]) (fun q hq => e3 q (by rw [← hz]; exact hq))
  · obtain ⟨x, r, rfl, h0, hn, rfl, rfl, rfl, rfl⟩ := newa_inv hs
    refine newa_snd h0 hn (by omega) fun D dA base p l e R s mm args below meth c Q cells slots X H locs lsC hz hc hsl kk => ?_
    obtain ⟨hx, hb, -, -, hown, hts, -, -, hst, -⟩ := X
    refine va_newaK (atype := .long) (N := ix x) hx hb (hts _ (TB_at 101 (w := .arrayClass .long) (by decide +kernel) rfl)) rfl hd rfl h0 rfl (by show ix x * 8 ≤ _; omega) hc hsl hz fun H' cA e1 e2 e3 e4 e5 => ?_
    have : cA = dA 1 := Option.some.inj (e5.symm.trans (tys_at hst 1 rfl).2)
    subst this
    exact kk H' e1 (by rw [e2, hz]) (fun q hq => e3 q (by rw [← hz]; exact hq))
theorem g_anewarray {z : Nat} (hd : decode (byt k) pc = .ok (.anewarray z, len)) (hs : exec k pc ls st h len (.anewarray z) = some (.inl (pc', ls', st', h'))) : GS k pc ls st h pc' ls' st' h' := by
  obtain rfl := (o1_inv hs).1
  replace hs := (o1_inv hs).2
  unfold x_anew at hs
  split at hs
  case h_2 => cases hs
  case h_1 cq pq hl =>
    have hlk := ctb_at hl
    split at hs
    · rename_i hcq
      subst hcq
      obtain ⟨x, r, rfl, h0, hn, rfl, rfl, rfl, rfl⟩ := newa_inv hs
      refine newa_snd h0 hn (by omega) fun D dA base p l e R s mm args below meth c Q cells slots X H locs lsC hz hc hsl kk => ?_
      obtain ⟨hx, hb, -, -, hown, hts, -, -, hst, -⟩ := X
      refine W.anew (C := "SteerBench$Steps") hx hb hown (hts _ hlk) (va_AO.use hst.2.2.2.1) rfl hd rfl h0 (by show ix x * 4 ≤ _; omega) hc hsl fun cA kA comp f1 f2 f3 f4 => ?_
      have : cA = dA 3 := by
        obtain ⟨_, _, _, _, _, q⟩ := (tys_at hst 3 rfl).2
        exact Option.some.inj (f1.symm.trans q)
      subst this
      have := kk (H.push ({ cls := dA 3, slots := Array.replicate x.toNatClampNeg .null, vm := .none } : Cell)) (by rw [← hz, Array.getElem?_push_size, arrV_new]; rfl) (by rw [Array.size_push]) (fun q hq => by rw [Array.getElem?_push, if_neg (Nat.ne_of_lt hq)])
      rw [← hz] at this
      exact this
    · split at hs
      case isFalse => cases hs
      case isTrue hcq =>
        subst hcq
        obtain ⟨x, r, rfl, h0, hn, rfl, rfl, rfl, rfl⟩ := newa_inv hs
        refine newa_snd h0 hn (by omega) fun D dA base p l e R s mm args below meth c Q cells slots X H locs lsC hz hc hsl kk => ?_
        obtain ⟨hx, hb, -, -, hown, hts, -, -, hst, -⟩ := X
        refine W.anew (C := "SteerBench$Sheet") hx hb hown (hts _ hlk) (va_AO.use hst.2.2.2.2.1) rfl hd rfl h0 (by show ix x * 4 ≤ _; omega) hc hsl fun cA kA comp f1 f2 f3 f4 => ?_
        have : cA = dA 4 := by
          obtain ⟨_, _, _, _, _, q⟩ := (tys_at hst 4 rfl).2
          exact Option.some.inj (f1.symm.trans q)
        subst this
        have := kk (H.push ({ cls := dA 4, slots := Array.replicate x.toNatClampNeg .null, vm := .none } : Cell)) (by rw [← hz, Array.getElem?_push_size, arrV_new]; rfl) (by rw [Array.size_push]) (fun q hq => by rw [Array.getElem?_push, if_neg (Nat.ne_of_lt hq)])
        rw [← hz] at this
        exact this
theorem g_new {z : Nat} (hd : decode (byt k) pc = .ok (.new z, len)) (hs : exec k pc ls st h len (.new z) = some (.inl (pc', ls', st', h'))) : GS k pc ls st h pc' ls' st' h' := by
  obtain rfl := (o1_inv hs).1
  replace hs := (o1_inv hs).2
  unfold x_new at hs
  split at hs
  case h_2 => cases hs
  case h_1 cq pq hl =>
    have hlk := ctb_at hl
    split at hs
    case isFalse => cases hs
    case isTrue hcq =>
      obtain ⟨rfl, rfl, rfl, rfl⟩ := go_inv hs
      obtain ⟨r, hr⟩ : ∃ r, vwCl[cq]? = some r := ⟨_, List.getElem?_eq_getElem (by simpa [vwCl] using hcq)⟩
      have hcn : clN cq = r.1 := by simp [clN, hr, show cq ≠ 23 by omega]
      have hnf : nfs cq = r.2.2 := by simp [nfs, hr]
      refine GS_n (m := 1) (q := nfs cq) rfl rfl (fun j hj => va_up_no _ _ (by omega)) (fun j hj => rfl) (fun j hj => va_up_no _ _ (by omega)) (fun j hj => va_up_no _ _ (by omega)) (fun j hj => va_up_no _ _ (by omega)) fun D dA base p l e R s mm args below meth c Q cells slots X H locs lsC hH hc hsl kk => ?_
      obtain ⟨hx, hb, -, -, hown, hts, -, -, hst, -⟩ := X
      obtain ⟨hin, hty, hnm, hinst, hini⟩ := clp cq r hr
      have hKn := hst.1.1 cq r hr
      rw [hcn] at hlk
      rw [hnf] at hsl kk
      refine W.newcK hx hb hown (hts _ hlk) (hts _ hinst) (hts _ hini) rfl hd hc hsl hKn.2.1 hH.1 fun H1 kC hkC e1 z1 o1 => ?_
      refine kk H1 (fun j hj => ?_) (by rw [z1, hH.1]) (fun q hq => o1 q (by rw [← hH.1]; exact hq))
      have : j = 0 := by omega
      subst this
      refine ⟨fun c2 r2 h5 h6 => ?_, fun h5 => ?_, fun h5 => ?_, fun t ht h5 => ?_⟩
      · replace h5 : va_up h.2.2.1 (h.1 + 1) (cq + 1) (h.1 + 1) = c2 + 1 := h5
        rw [va_up_at] at h5
        have : c2 = cq := by omega
        subst this
        cases hr.symm.trans h6
        refine (u_born _ hts hin hKn hkC e1 hty).to (fun k1 hk1 => ?_)
        have hne := tyc_ok c2 r hr k1 hk1
        simp only [fva, nwO, Nat.add_zero, va_up_at]
        unfold tyc at hne ⊢
        cases ht : tyF.getD c2 (fun _ => .int) k1 <;> simp [ht, tcode] at hne <;> simp [tcode, defaultValue, cv, cvr]
      · replace h5 : va_up h.2.2.1 (h.1 + 1) (cq + 1) (h.1 + 1) = 21 := h5
        rw [va_up_at] at h5
        omega
      · replace h5 : va_up h.2.2.1 (h.1 + 1) (cq + 1) (h.1 + 1) = 22 := h5
        rw [va_up_at] at h5
        omega
      · replace h5 : va_up h.2.2.1 (h.1 + 1) (cq + 1) (h.1 + 1) = 23 + t := h5
        rw [va_up_at] at h5
        omega
end GO5
end
section
section GO6
variable {k pc len : Nat} {ls : Lo} {st : List Value} {h : Hp} {pc' : Nat} {ls' : Lo} {st' : List Value} {h' : Hp}
theorem outer_arr (c : ClassId) (N h0 : Nat) : ∀ i : Nat, Jvm.Free.Multi.outerC c N h0 i = arrV c N (fun j => if j < i then .ref (h0 + 1 + j) else .null)
  | 0 => by
    show ({ cls := c, slots := Array.replicate N .null, vm := .none } : Cell) = _
    rw [arrV_new]
    refine congrArg (arrV c N) (funext fun j => ?_)
    simp
  | i + 1 => by
    show (Jvm.Free.Multi.outerC c N h0 i).setSlot i (.ref (h0 + 1 + i)) = _
    rw [outer_arr c N h0 i, arrV_store]
    refine congrArg (arrV c N) (funext fun j => ?_)
    by_cases e : j = i
    · subst e
      simp [updV]
    · by_cases h : j < i
      · simp [updV, e, h, Nat.lt_succ_of_lt h]
      · simp [updV, e, h, show ¬ j < i + 1 by omega]
theorem g_mna {z d : Nat} (hd : decode (byt k) pc = .ok (.multianewarray z d, len)) (hs : exec k pc ls st h len (.multianewarray z d) = some (.inl (pc', ls', st', h'))) : GS k pc ls st h pc' ls' st' h' := by
  obtain rfl := (o1_inv hs).1
  replace hs := (o1_inv hs).2
  split at hs
  case isFalse => cases hs
  case isTrue hd2 =>
    subst hd2
    unfold x_mna at hs
    split at hs
    case h_2 => cases hs
    case h_1 y x r =>
      split at hs
      case h_2 => cases hs
      case h_1 cq pq hl =>
        have hlk := ctb_at hl
        split at hs
        case isFalse => cases hs
        case isTrue hx =>
          obtain ⟨rfl, hx0, hxn, hy0, hyn⟩ := hx
          obtain ⟨rfl, rfl, rfl, rfl⟩ := go_inv hs
          have hb2 : ix x * ix y ≤ 1000 * 1000 := Nat.mul_le_mul hxn hyn
          refine GS_n (m := 1 + ix x) (q := ix x + ix x * ix y) (by show h.1 + 1 + ix x = _; omega) (by show h.2.1 + ix x + ix x * ix y = _; omega) (fun j hj => ?_) (fun j hj => ?_) (fun j hj => rfl) (fun j hj => ?_) (fun j hj => ?_) fun D dA base p l e R s mm args below meth c Q cells slots X H locs lsC hH hc hsl kk => ?_
          · show (if j = h.1 + 1 then 23 else if h.1 + 1 < j ∧ j ≤ h.1 + 1 + ix x then 22 else h.2.2.1 j) = _
            rw [if_neg (by omega), if_neg (by omega)]
          · show (if j = h.1 + 1 then ix x else if h.1 + 1 < j ∧ j ≤ h.1 + 1 + ix x then ix y else h.2.2.2.1 j) = _
            rw [if_neg (by omega), if_neg (by omega)]
          · show (if h.1 + 1 < j ∧ j ≤ h.1 + 1 + ix x then (fun _ => 0) else h.2.2.2.2.2.1 j) = _
            rw [if_neg (by omega)]
          · show (if j = h.1 + 1 then (fun i => if i < ix x then h.1 + 2 + i else 0) else h.2.2.2.2.2.2 j) = _
            rw [if_neg (by omega)]
          · obtain ⟨hx, hb, -, -, hown, hts, -, -, hst, -⟩ := X
            intro T hT Xs
            obtain ⟨vm₁, cA, comp, -, fA, fC, -, -, X', step⟩ := Xs.multianewarray2F (ty := .long) hx hown (hts _ hlk) (show (Cond.arrayOver (.array .long)).before args s = true from hst.2.2.2.2.2.1) (hts _ (TB_at 101 (w := .arrayClass .long) (by decide +kernel) rfl)) (g := F0 mm pc lsC (.int y :: .int x :: r.map (cv base))) rfl (by rw [hb]; exact hd) rfl hx0 hy0 (by show ix x * 4 ≤ _; omega) (by show ix y * 8 ≤ _; omega) (by show ix y ≤ _; omega) rfl rfl hc hsl
            have ec : comp = dA 1 := Option.some.inj (fC.symm.trans (tys_at hst 1 rfl).2)
            have eA : cA = dA 2 := Option.some.inj (fA.symm.trans (tys_at hst 2 rfl).2)
            subst ec
            subst eA
            generalize hF : Jvm.Free.Multi.fill (T.setVm vm₁) (dA 2) (dA 1) x.toNatClampNeg y.toNatClampNeg (defaultValue .long) x.toNatClampNeg = F at X' step
            have hTh : (T.setVm vm₁).heap = H := hT
            obtain ⟨f1, f2, -, -⟩ := Jvm.Free.Multi.fill_facts (T.setVm vm₁) (dA 2) (dA 1) x.toNatClampNeg y.toNatClampNeg (defaultValue .long) x.toNatClampNeg
            rw [hF, hTh] at f1 f2
            have hold : ∀ q : Nat, q < H.size → F.heap[q]? = H[q]? := fun q hq => by
              have := Jvm.Free.Multi.fill_old (T.setVm vm₁) (dA 2) (dA 1) x.toNatClampNeg y.toNatClampNeg (defaultValue .long) (a := q) (by rw [hTh]; exact hq) x.toNatClampNeg
              rw [hF, hTh] at this
              exact this
            have hrow : ∀ j : Nat, j < ix x → F.heap[H.size + 1 + j]? = some (arrV (dA 1) (ix y) (fun _ => .long 0)) := fun j hj => by
              have := Jvm.Free.Multi.fill_inner (T.setVm vm₁) (dA 2) (dA 1) x.toNatClampNeg y.toNatClampNeg (defaultValue .long) x.toNatClampNeg j hj
              rw [hF, hTh] at this
              rw [this]
              exact congrArg some (arrV_new _ _ _)
            rw [outer_arr] at f2
            have hsz := hH.1
            have hok : ∀ j, j < 1 + ix x → cellOK D dA base (nwG h (ix x) (ix y)) (h.1 + j) F.heap := by
              intro j hj
              by_cases hj0 : j = 0
              · subst hj0
                have eC : (nwG h (ix x) (ix y)).2.2.1 (h.1 + 0 + 1) = 23 := by show (if h.1 + 1 = h.1 + 1 then 23 else _) = 23; rw [if_pos rfl]
                refine ⟨fun c2 r2 h5 h6 => ?_, fun h5 => ?_, fun h5 => ?_, fun t ht h5 => ?_⟩
                · rw [eC] at h5
                  have := vwCl_lt h6
                  omega
                · rw [eC] at h5
                  omega
                · rw [eC] at h5
                  omega
                · rw [eC] at h5
                  have : t = 0 := by omega
                  subst this
                  show F.heap[base + h.1]? = some (arrV (dA 2) (if h.1 + 1 = h.1 + 1 then ix x else _) (fun q => cvr base ((if h.1 + 1 = h.1 + 1 then (fun i => if i < ix x then h.1 + 2 + i else 0) else h.2.2.2.2.2.2 (h.1 + 1)) q)))
                  rw [if_pos rfl, if_pos rfl, ← hsz, f2]
                  refine congrArg (fun z => some (arrV (dA 2) (ix x) z)) (funext fun q => ?_)
                  show (if q < ix x then Value.ref (H.size + 1 + q) else .null) = _
                  by_cases hq : q < ix x
                  · rw [if_pos hq, if_pos hq, show h.1 + 2 + q = (h.1 + 1 + q) + 1 by omega, hsz]
                    exact congrArg Value.ref (show base + h.1 + 1 + q = base + (h.1 + 1 + q) by omega)
                  · rw [if_neg hq, if_neg hq]
                    rfl
              · have eC : (nwG h (ix x) (ix y)).2.2.1 (h.1 + j + 1) = 22 := by
                  show (if h.1 + j + 1 = h.1 + 1 then 23 else if h.1 + 1 < h.1 + j + 1 ∧ h.1 + j + 1 ≤ h.1 + 1 + ix x then 22 else _) = 22
                  rw [if_neg (by omega), if_pos (by omega)]
                refine ⟨fun c2 r2 h5 h6 => ?_, fun h5 => ?_, fun h5 => ?_, fun t ht h5 => ?_⟩
                · rw [eC] at h5
                  have := vwCl_lt h6
                  omega
                · rw [eC] at h5
                  omega
                · show F.heap[base + (h.1 + j)]? = some (arrV (dA 1) (if h.1 + j + 1 = h.1 + 1 then ix x else if h.1 + 1 < h.1 + j + 1 ∧ h.1 + j + 1 ≤ h.1 + 1 + ix x then ix y else _) (fun q => .long ((if h.1 + 1 < h.1 + j + 1 ∧ h.1 + j + 1 ≤ h.1 + 1 + ix x then (fun _ => 0) else h.2.2.2.2.2.1 (h.1 + j + 1)) q)))
                  rw [if_neg (by omega), if_pos (by omega), if_pos (by omega), show base + (h.1 + j) = H.size + 1 + (j - 1) by omega, hrow (j - 1) (by omega)]
                · rw [eC] at h5
                  omega
            obtain ⟨t, a1, b1⟩ := kk F.heap hok (by rw [f1]; show H.size + 1 + ix x = _; omega) hold F rfl (by rw [show cells + (1 + ix x) = cells + 1 + x.toNatClampNeg by show _ = cells + 1 + ix x; omega, show slots + (ix x + ix x * ix y) = slots + x.toNatClampNeg + x.toNatClampNeg * y.toNatClampNeg by show _ = slots + ix x + ix x * ix y; omega]; exact X')
            refine ⟨t, step t ?_, b1⟩
            have e : T.heap.size = base + h.1 := by rw [hT, hsz]
            rw [e]
            exact a1
theorem g_io {z : Nat} (hd : decode (byt k) pc = .ok (.instanceof z, len)) (hs : exec k pc ls st h len (.instanceof z) = some (.inl (pc', ls', st', h'))) : GS k pc ls st h pc' ls' st' h' := by
  obtain rfl := (o1_inv hs).1
  replace hs := (o1_inv hs).2
  unfold x_io at hs
  split at hs
  case h_2 => cases hs
  case h_1 i r =>
    split at hs
    case h_2 => cases hs
    case h_1 cq pq hl =>
      have hlk := ctb_at hl
      split at hs
      case isFalse => cases hs
      case isTrue hx =>
        obtain ⟨hg, hcq⟩ := hx
        obtain ⟨rfl, rfl, rfl, rfl⟩ := go_inv hs
        refine GS_h fun D dA base p l e R s m args below meth c Q cells slots X H locs lsC hH hL _ _ kk => ?_
        obtain ⟨hx, hb, -, -, hown, hts, -, -, hst, -⟩ := X
        have hg2 := hg
        simp only [inG, if_true, Bool.or_eq_true, beq_iff_eq] at hg
        obtain ⟨j, rfl⟩ := hH.pos (i := i) (by omega)
        have rc : ∀ (cc : Nat) (r2 : vw_C), h'.2.2.1 (j + 1) = cc + 1 → vwCl[cc]? = some r2 → ∃ cell : Cell, H[base + j]? = some cell ∧ cell.vm.isStatics = false ∧ s.vm.findClass r2.1 = some cell.cls := fun cc r2 e1 e2 => by
          obtain ⟨cell, g1, g2, g3, -⟩ := (hH.2.2.2 j).1 cc r2 e1 e2
          exact ⟨cell, g1, by rw [g3]; rfl, by rw [g2]; exact (hst.1.1 cc r2 e2).2.1⟩
        have yes : ∀ C : String, va_Nw (.castable C (clN cq)) s → (∃ cell : Cell, H[base + j]? = some cell ∧ cell.vm.isStatics = false ∧ s.vm.findClass C = some cell.cls) → isa (h'.2.2.1 (j + 1)) cq = true → W p l e R s m args below meth c H locs cells slots Q (F0 m pc lsC ((Value.ref (j + 1) :: r).map (cv base))) := fun C q1 q2 q3 => by
          rw [if_pos q3] at kk
          exact va_instY hx hb hown (hts _ hlk) q1 q2 hd kk
        have no : ∀ C : String, va_Nc C (clN cq) s → (∃ cell : Cell, H[base + j]? = some cell ∧ cell.vm.isStatics = false ∧ s.vm.findClass C = some cell.cls) → ¬ isa (h'.2.2.1 (j + 1)) cq = true → W p l e R s m args below meth c H locs cells slots Q (F0 m pc lsC ((Value.ref (j + 1) :: r).map (cv base))) := fun C q1 q2 q3 => by
          rw [if_neg q3] at kk
          exact va_instNo hx hb hown (hts _ hlk) q1 q2 hd kk
        have slf : ∀ r2 : vw_C, h'.2.2.1 (j + 1) = cq + 1 → vwCl[cq]? = some r2 → clN cq = r2.1 → W p l e R s m args below meth c H locs cells slots Q (F0 m pc lsC ((Value.ref (j + 1) :: r).map (cv base))) := fun r2 e1 e2 e3 => by
          rw [if_pos (by simp [isa, e1])] at kk
          have hca := (hst.1.1 cq r2 e2).2
          rw [e3] at hlk
          obtain ⟨cell, g1, g2, g3, -⟩ := (hH.2.2.2 j).1 cq r2 e1 e2
          exact va_instS hx hb hown (hts _ hlk) hca ⟨cell, g1, by rw [g3]; rfl, by rw [g2]; exact hca.1⟩ hd kk
        have nc := hst.2.2.2.2.2.2
        have cs := hst.2.2.1
        rcases hcq with rfl | rfl | rfl
        · rcases hg with ((e1 | e1) | e1) | e1
          · exact no _ (nc ("SteerBench$Steps", "SteerBench$Flow") (List.mem_of_getElem? (i := 2) rfl)) (rc 7 _ e1 rfl) (by rw [e1]; decide)
          · exact slf _ e1 rfl rfl
          · exact no _ (nc ("SteerBench$Loop", "SteerBench$Flow") (List.mem_of_getElem? (i := 3) rfl)) (rc 4 _ e1 rfl) (by rw [e1]; decide)
          · exact no _ (nc ("SteerBench$Part", "SteerBench$Flow") (List.mem_of_getElem? (i := 4) rfl)) (rc 5 _ e1 rfl) (by rw [e1]; decide)
        · rcases hg with ((e1 | e1) | e1) | e1
          · exact no _ (nc ("SteerBench$Steps", "SteerBench$Loop") (List.mem_of_getElem? (i := 0) rfl)) (rc 7 _ e1 rfl) (by rw [e1]; decide)
          · exact no _ (nc ("SteerBench$Flow", "SteerBench$Loop") (List.mem_of_getElem? (i := 1) rfl)) (rc 1 _ e1 rfl) (by rw [e1]; decide)
          · exact slf _ e1 rfl rfl
          · exact yes _ (cs ("SteerBench$Part", "SteerBench$Loop") (List.mem_of_getElem? (i := 0) rfl)) (rc 5 _ e1 rfl) (by rw [e1]; decide)
        · rcases hg with ((e1 | e1) | e1) | e1
          · exact no _ (nc ("SteerBench$Steps", "SteerBench$Part") (List.mem_of_getElem? (i := 5) rfl)) (rc 7 _ e1 rfl) (by rw [e1]; decide)
          · exact no _ (nc ("SteerBench$Flow", "SteerBench$Part") (List.mem_of_getElem? (i := 6) rfl)) (rc 1 _ e1 rfl) (by rw [e1]; decide)
          · exact no _ (nc ("SteerBench$Loop", "SteerBench$Part") (List.mem_of_getElem? (i := 7) rfl)) (rc 4 _ e1 rfl) (by rw [e1]; decide)
          · exact slf _ e1 rfl rfl
end GO6
section GO7
variable {k pc len : Nat} {ls : Lo} {st : List Value} {h : Hp} {pc' : Nat} {ls' : Lo} {st' : List Value} {h' : Hp}
theorem vt_at {o z : Nat} {q : Nat × Nat × MethodName × String × List (Nat × Nat × List Nat) × List Nat} (hl : look (vtb o) z = some q) : vOk o (z, q) = true := List.all_eq_true.mp (vtb_ok o) _ (look_mem hl)
theorem rmL_at {k n : Nat} (h : rmL k n = true) : 1 ≤ mFr k ∧ n ≤ mLo k := by
  simpa [rmL] using h
theorem cat_map (base : Nat) (st : List Value) : ((st.map (cv base)).map fun v => v.category).sum = wsum st := by
  unfold wsum
  rw [List.map_map]
  congr 1
  exact List.map_congr_left (fun v _ => cat_cv base v)
theorem g_cpy {z na : Nat} {x : MethodName} {s0 : String} {al : List (Nat × Nat × List Nat)} {wd : List Nat} {v y sp : Int32} {b a : Nat} {r : List Value} (hd : decode (byt k) pc = .ok (.invokestatic z, 3)) (hl : look (vtb (mOw k)) z = some (6, na, x, s0, al, wd)) (hr : rmL k 48 = true) (hw : wsum r ≤ 8) (hCa : h.2.2.1 a = 22) (hCb : h.2.2.1 b = 22) (h1 : ¬ sp < 0) (h2 : ¬ y < 0) (h3 : ¬ v < 0) (h4 : ix sp + ix v ≤ h.2.2.2.1 a) (h5 : ix y + ix v ≤ h.2.2.2.1 b) : GS k pc ls (.int v :: .int y :: .ref b :: .int sp :: .ref a :: r) h (pc + 3) ls r (cpyL h a b (ix sp) (ix y) (ix v)) := by
  refine ⟨⟨Nat.le_refl _, Nat.le_refl _, rfl⟩, fun D dA base n0 sl0 p l e R s m args below meth c Q X hc hs hV hn hsl hll H locs lsC hH hS hL => ?_⟩
  have hok : (isT (wd.getD 0 0) (.methodLink (ow (mOw k)) z arraycopyName) && isT (wd.getD 1 0) (.native arraycopyName) && isT (wd.getD 2 0) (.static arraycopyName) && isT (wd.getD 3 0) (.initialized "java/lang/System")) = true := vt_at hl
  simp only [Bool.and_eq_true] at hok
  obtain ⟨⟨⟨w1, w2⟩, w3⟩, w4⟩ := hok
  obtain ⟨hx, hb, -, hml, hown, hts, -, -, hst, -, hfr, hlo⟩ := X
  obtain ⟨ra, rfl⟩ := hH.pos (i := a) (by omega)
  obtain ⟨rb, rfl⟩ := hH.pos (i := b) (by omega)
  have hca := (hH.2.2.2 ra).2.2.1 hCa
  have hcb := (hH.2.2.2 rb).2.2.1 hCb
  have nn : ∀ z : Int32, ¬ z < 0 → z.toInt = (z.toNatClampNeg : Int) := by
    intro z hz
    have hz0 : (0 : Int) ≤ z.toInt := by
      have := Int32.not_lt.mp hz
      simpa using Int32.le_iff_toInt_le.mp this
    show z.toInt = ((z.toInt.toNat : Nat) : Int)
    omega
  obtain ⟨hr1, hr2⟩ := rmL_at hr
  intro T hT Xs
  obtain ⟨-, k0, hk0, cm0, hkk0⟩ := (tys_at hst 1 rfl).1 (h.2.2.2.1 (ra + 1)) (fun j => .long (h.2.2.2.2.2.1 (ra + 1) j))
  obtain ⟨-, k1, hk1, cm1, hkk1⟩ := (tys_at hst 1 rfl).1 (h.2.2.2.1 (rb + 1)) (fun j => .long (h.2.2.2.2.2.1 (rb + 1) j))
  obtain ⟨vm', X', step⟩ := Xs.arraycopy (cs := arrV (dA 1) (h.2.2.2.1 (ra + 1)) (fun j => .long (h.2.2.2.2.2.1 (ra + 1) j))) (cd := arrV (dA 1) (h.2.2.2.1 (rb + 1)) (fun j => .long (h.2.2.2.2.2.1 (rb + 1) j))) hx hown (hts _ (isT_TB w1)) (hts _ (isT_TB w2)) (hts _ (isT_TB w3)) (hts _ (isT_TB w4)) (src := base + ra) (dst := base + rb) (srcPos := sp) (destPos := y) (n := v) (by rw [hT]; exact hca) (by rw [hT]; exact hcb)
    (fun _ h => by cases h) (fun _ h => by cases h) (fun h => by cases h) (fun h => by cases h) hk0 hk1 hkk0 hkk1 (by simp [refKind]) h1 h2 h3
    (by rw [nn sp h1, nn v h3, arrV_size]; show ¬ ((ix sp : Int) + (ix v : Int) > _); omega)
    (by rw [nn y h2, nn v h3, arrV_size]; show ¬ ((ix y : Int) + (ix v : Int) > _); omega)
    (fun vm₁ _ i hi => by
      have hi' : i < ix v := hi
      have e : (arrV (dA 1) (h.2.2.2.1 (ra + 1)) (fun j => .long (h.2.2.2.2.2.1 (ra + 1) j))).slots.getD (sp.toNatClampNeg + i) .null = .long (h.2.2.2.2.2.1 (ra + 1) (ix sp + i)) := by
        have e2 := arrV_read (dA 1) (fun j => Value.long (h.2.2.2.2.2.1 (ra + 1) j)) (show ix sp + i < h.2.2.2.1 (ra + 1) by omega)
        rw [Array.getD_eq_getD_getElem?]
        show ((arrV (dA 1) (h.2.2.2.1 (ra + 1)) (fun j => Value.long (h.2.2.2.2.2.1 (ra + 1) j))).slots[ix sp + i]?).getD _ = _
        rw [e2]
        rfl
      refine ⟨?_, ?_⟩
      · rw [e]
        rfl
      · rw [e]
        exact trivial)
    (g := F0 m pc lsC (.int v :: .int y :: .ref (base + rb) :: .int sp :: .ref (base + ra) :: r.map (cv base))) rfl (by rw [hml]; exact hL.1) (rest := r.map (cv base)) rfl (by rw [hb]; exact hd) (by omega) (by rw [cat_map]; show 2 * 0 + wsum r + (7 + 11) ≤ _; omega)
  have e1 : copied (arrV (dA 1) (h.2.2.2.1 (ra + 1)) (fun j => .long (h.2.2.2.2.2.1 (ra + 1) j))) (arrV (dA 1) (h.2.2.2.1 (rb + 1)) (fun j => .long (h.2.2.2.2.2.1 (rb + 1) j))) sp y v = arrV (dA 1) (h.2.2.2.1 (rb + 1)) (fun j => .long (va_cpy (h.2.2.2.2.2.1 (ra + 1)) (h.2.2.2.2.2.1 (rb + 1)) (ix sp) (ix y) (ix v) j)) := va_copied (fun z => .long z) _ _ _ _ h4
  rw [e1] at X' step
  have hlt : base + rb < H.size := (Array.getElem?_eq_some_iff.mp hcb).1
  have oq : ∀ q : Nat, q ≠ base + rb → (H.setIfInBounds (base + rb) (arrV (dA 1) (h.2.2.2.1 (rb + 1)) (fun j => .long (va_cpy (h.2.2.2.2.2.1 (ra + 1)) (h.2.2.2.2.2.1 (rb + 1)) (ix sp) (ix y) (ix v) j))))[q]? = H[q]? := fun q hq => by simp [Array.getElem?_setIfInBounds, Ne.symm hq]
  have ok : cellOK D dA base (cpyL h (ra + 1) (rb + 1) (ix sp) (ix y) (ix v)) rb (H.setIfInBounds (base + rb) (arrV (dA 1) (h.2.2.2.1 (rb + 1)) (fun j => .long (va_cpy (h.2.2.2.2.2.1 (ra + 1)) (h.2.2.2.2.2.1 (rb + 1)) (ix sp) (ix y) (ix v) j)))) := by
    refine ⟨fun c2 r2 h5 h6 => ?_, fun h5 => ?_, fun _ => ?_, fun t ht h5 => ?_⟩
    · replace h5 : h.2.2.1 (rb + 1) = c2 + 1 := h5
      have := vwCl_lt h6
      omega
    · replace h5 : h.2.2.1 (rb + 1) = 21 := h5
      omega
    · show (H.setIfInBounds (base + rb) _)[base + rb]? = some (arrV (dA 1) (h.2.2.2.1 (rb + 1)) (fun j => .long (va_up h.2.2.2.2.2.1 (rb + 1) (va_cpy (h.2.2.2.2.2.1 (ra + 1)) (h.2.2.2.2.2.1 (rb + 1)) (ix sp) (ix y) (ix v)) (rb + 1) j)))
      rw [va_up_at]
      simp [Array.getElem?_setIfInBounds, hlt]
    · replace h5 : h.2.2.1 (rb + 1) = 23 + t := h5
      omega
  have hH' := hH.set (h' := cpyL h (ra + 1) (rb + 1) (ix sp) (ix y) (ix v)) (i := rb) (by simp) oq rfl rfl rfl (fun _ _ => rfl) (fun j hj => va_up_no _ _ hj) (fun _ _ => rfl) ok
  obtain ⟨t, a1, b1⟩ := hV hn hsl hll _ _ lsC hH' ⟨by simp; exact hS.1, fun q g1 g2 => by
      rw [oq q (fun e => g2 (by rw [e]; exact Nat.le_add_right _ _))]
      exact hS.2.1 q g1 g2, fun q hq => by
      rcases List.mem_append.mp hq with h | h
      · exact hS.2.2 q h
      · obtain ⟨z, -, hz⟩ := List.mem_map.mp h
        rw [← hz]
        exact Nat.le_add_right _ _⟩ hL _ (by rw [← hT]; rfl) X'
  exact ⟨t, step t a1, b1⟩
theorem g_is {z : Nat} (hd : decode (byt k) pc = .ok (.invokestatic z, len)) (hs : exec k pc ls st h len (.invokestatic z) = some (.inl (pc', ls', st', h'))) : GS k pc ls st h pc' ls' st' h' := by
  obtain rfl := (o1_inv hs).1
  replace hs := (o1_inv hs).2
  unfold x_is at hs
  split at hs
  case h_2 => cases hs
  case h_1 kd na x s0 al wd hl =>
    split at hs
    · split at hs
      · split at hs
        · unfold callA at hs
          split at hs <;> cases hs
        · cases hs
      · cases hs
    · split at hs
      · rename_i hkd
        subst hkd
        split at hs
        · split at hs
          · rename_i hh
            obtain ⟨q1, q2, q3, q4, q5, q6, q7, q8, q9⟩ := hh
            obtain ⟨rfl, rfl, rfl, rfl⟩ := go_inv hs
            exact g_cpy hd hl q1 q2 q3 q4 q5 q6 q7 q8 q9
          · cases hs
        · cases hs
      · split at hs
        · rename_i hkd
          subst hkd
          split at hs
          · split at hs
            · rename_i hh
              obtain ⟨rfl, rfl, rfl, rfl⟩ := go_inv hs
              have hok : (isT (wd.getD 0 0) (.methodLink (ow (mOw k)) z Lib.Math.max.name) && isT (wd.getD 1 0) (.static Lib.Math.max.name) && isT (wd.getD 2 0) (.initialized "java/lang/Math") && isT (wd.getD 3 0) (.code Lib.Math.max.name Lib.Math.max.code 2 (some .int))) = true := vt_at hl
              simp only [Bool.and_eq_true] at hok
              obtain ⟨⟨⟨w1, w2⟩, w3⟩, w4⟩ := hok
              obtain ⟨hr1, hr2⟩ := rmL_at hh.1
              refine GS_h fun D dA base p l e R s m args below meth c Q cells slots X H locs lsC hH hL hc hsl kk => ?_
              obtain ⟨hx, hb, -, hml, hown, hts, -, -, hst, -, hfr, hlo⟩ := X
              exact va_mmax hx hb (hml.trans hL.1.symm) hown (hts _ (isT_TB w1)) (hts _ (isT_TB w2)) (hts _ (isT_TB w3)) (hts _ (isT_TB w4)) (by omega) (by rw [cat_map]; omega) hc hsl hd kk
            · cases hs
          · cases hs
        · split at hs
          · rename_i hkd
            subst hkd
            split at hs
            · split at hs
              · rename_i hh
                obtain ⟨rfl, rfl, rfl, rfl⟩ := go_inv hs
                have hok : (isT (wd.getD 0 0) (.methodLink (ow (mOw k)) z Lib.Math.min.name) && isT (wd.getD 1 0) (.static Lib.Math.min.name) && isT (wd.getD 2 0) (.initialized "java/lang/Math") && isT (wd.getD 3 0) (.code Lib.Math.min.name Lib.Math.min.code 2 (some .int))) = true := vt_at hl
                simp only [Bool.and_eq_true] at hok
                obtain ⟨⟨⟨w1, w2⟩, w3⟩, w4⟩ := hok
                obtain ⟨hr1, hr2⟩ := rmL_at hh.1
                refine GS_h fun D dA base p l e R s m args below meth c Q cells slots X H locs lsC hH hL hc hsl kk => ?_
                obtain ⟨hx, hb, -, hml, hown, hts, -, -, hst, -, hfr, hlo⟩ := X
                exact va_mmin hx hb (hml.trans hL.1.symm) hown (hts _ (isT_TB w1)) (hts _ (isT_TB w2)) (hts _ (isT_TB w3)) (hts _ (isT_TB w4)) (by omega) (by rw [cat_map]; omega) hc hsl hd kk
              · cases hs
            · cases hs
          · split at hs
            · rename_i hkd
              subst hkd
              split at hs
              · split at hs
                · rename_i hh
                  obtain ⟨rfl, rfl, rfl, rfl⟩ := go_inv hs
                  have hok : (isT (wd.getD 0 0) (.methodLink (ow (mOw k)) z Lib.MathLoose.abs_long.x) && isT (wd.getD 1 0) (.static Lib.MathLoose.abs_long.x) && isT (wd.getD 2 0) (.initialized "java/lang/Math") && isT (wd.getD 3 0) (.code Lib.MathLoose.abs_long.x Lib.MathLoose.abs_long.code 2 (some .long))) = true := vt_at hl
                  simp only [Bool.and_eq_true] at hok
                  obtain ⟨⟨⟨w1, w2⟩, w3⟩, w4⟩ := hok
                  obtain ⟨hr1, hr2⟩ := rmL_at hh.1
                  refine GS_h fun D dA base p l e R s m args below meth c Q cells slots X H locs lsC hH hL hc hsl kk => ?_
                  obtain ⟨hx, hb, -, hml, hown, hts, -, -, hst, -, hfr, hlo⟩ := X
                  exact va_mabs_long hx hb (hml.trans hL.1.symm) hown (hts _ (isT_TB w1)) (hts _ (isT_TB w2)) (hts _ (isT_TB w3)) (hts _ (isT_TB w4)) (by omega) (by rw [cat_map]; omega) hc hsl hd kk
                · cases hs
              · cases hs
            · cases hs
theorem g_ip {z : Nat} (hd : decode (byt k) pc = .ok (.invokespecial z, len)) (hs : exec k pc ls st h len (.invokespecial z) = some (.inl (pc', ls', st', h'))) : GS k pc ls st h pc' ls' st' h' := by
  obtain rfl := (o1_inv hs).1
  replace hs := (o1_inv hs).2
  unfold x_ip at hs
  split at hs
  case h_2 => cases hs
  case h_1 kd na x s0 al wd hl =>
    split at hs
    case isFalse => cases hs
    case isTrue hlen =>
      split at hs
      case h_2 => cases hs
      case h_1 i r hst0 =>
        split at hs
        · rename_i hkd
          subst hkd
          split at hs
          · rename_i hh
            obtain ⟨rfl, rfl, rfl, rfl⟩ := go_inv hs
            have hok : (isT (wd.getD 0 0) (.methodLink (ow (mOw k)) z Lib.objectInit) && isT (wd.getD 1 0) (.instanceMethod Lib.objectInit) && isT (wd.getD 2 0) (.code Lib.objectInit ⟨#[0xb1]⟩ 1 none) && decide (na = 0)) = true := vt_at hl
            simp only [Bool.and_eq_true, decide_eq_true_eq] at hok
            obtain ⟨⟨⟨w1, w2⟩, w3⟩, w4⟩ := hok
            subst w4
            have hst1 : st = .ref i :: st' := by simpa using hst0
            subst hst1
            obtain ⟨hr1, hr2⟩ := rmL_at hh.1
            cases i with
            | zero => exact absurd rfl hh.2.2
            | succ j =>
              refine GS_h fun D dA base p l e R s m args below meth c Q cells slots X H locs lsC hH hL hc hsl kk => ?_
              obtain ⟨hx, hb, -, hml, hown, hts, -, -, hst, -, hfr, hlo⟩ := X
              exact W.objInit hx hb hown (hts _ (isT_TB w1)) (hts _ (isT_TB w2)) (hts _ (isT_TB w3)) rfl (hL.1.trans hml.symm) rfl hd (by omega) (by rw [cat_map]; show 2 * 0 + wsum st' + 12 ≤ _; omega) kk
          · cases hs
        · split at hs
          · split at hs
            · unfold callA at hs
              split at hs <;> cases hs
            · cases hs
          · split at hs
            · split at hs
              · unfold callA at hs
                split at hs <;> cases hs
              · cases hs
            · cases hs
theorem g_iv {z : Nat} (hs : exec k pc ls st h len (.invokevirtual z) = some (.inl (pc', ls', st', h'))) : GS k pc ls st h pc' ls' st' h' := by
  replace hs := (o1_inv hs).2
  unfold x_iv at hs
  split at hs
  · split at hs
    · split at hs
      · split at hs
        · unfold callA at hs
          split at hs <;> cases hs
        · cases hs
      · cases hs
    · cases hs
  · cases hs
theorem x_ret_no {ty : Nat} (hs : x_ret k st ty = some (.inl (pc', ls', st', h'))) : False := by
  unfold x_ret at hs
  split at hs <;> first | (cases hs; done) | (split at hs <;> cases hs)
end GO7
end
section
/-! the steps together; returns; calls; the abstract machine's runs are the real one's -/
theorem go_snd {k pc : Nat} {ls : Lo} {st : List Value} {h : Hp} {pc' : Nat} {ls' : Lo} {st' : List Value} {h' : Hp} (hs : stp k pc ls st h = some (.inl (pc', ls', st', h'))) : GS k pc ls st h pc' ls' st' h' := by
  unfold stp at hs
  split at hs
  case h_2 => cases hs
  case h_1 ins len hd =>
    cases ins with
    | iconst z => exact g_iconst hd hs
    | bipush z => exact g_bipush hd hs
    | sipush z => exact g_sipush hd hs
    | lconst z => exact g_lconst hd hs
    | aconst_null => exact g_null hd hs
    | ldc z => exact g_ldc hd hs
    | ldc_w z => exact g_ldc_w hd hs
    | ldc2_w z => exact g_ldc2 hd hs
    | iload z => exact g_iload hd hs
    | iload_n z => exact g_iload_n hd hs
    | lload z => exact g_lload hd hs
    | lload_n z => exact g_lload_n hd hs
    | aload z => exact g_aload hd hs
    | aload_n z => exact g_aload_n hd hs
    | istore z => exact g_istore hd hs
    | istore_n z => exact g_istore_n hd hs
    | lstore z => exact g_lstore hd hs
    | lstore_n z => exact g_lstore_n hd hs
    | astore z => exact g_astore hd hs
    | astore_n z => exact g_astore_n hd hs
    | iinc z q => exact g_iinc hd hs
    | iadd => exact g_iadd hd hs
    | isub => exact g_isub hd hs
    | imul => exact g_imul hd hs
    | iand => exact g_iand hd hs
    | ixor => exact g_ixor hd hs
    | idiv => exact g_idiv hd hs
    | irem => exact g_irem hd hs
    | ishl => exact g_ishl hd hs
    | ishr => exact g_ishr hd hs
    | iushr => exact g_iushr hd hs
    | ladd => exact g_ladd hd hs
    | lsub => exact g_lsub hd hs
    | lmul => exact g_lmul hd hs
    | ldiv => exact g_ldiv hd hs
    | lrem => exact g_lrem hd hs
    | lshl => exact g_lshl hd hs
    | ineg => exact g_ineg hd hs
    | lneg => exact g_lneg hd hs
    | i2l => exact g_i2l hd hs
    | i2b => exact g_i2b hd hs
    | l2i => exact g_l2i hd hs
    | lcmp => exact g_lcmp hd hs
    | dup => exact g_dup hd hs
    | dup_x1 => exact g_dup_x1 hd hs
    | dup2 => exact g_dup2 hd hs
    | pop => exact g_pop hd hs
    | goto off => exact g_goto hd hs
    | ifCond c off => exact g_ifCond hd hs
    | if_icmp c off => exact g_if_icmp hd hs
    | ifnull off => exact g_ifnull hd hs
    | ifnonnull off => exact g_ifnonnull hd hs
    | tableswitch d lo hi offs => exact g_ts hd hs
    | getfield z => exact g_getfield hd hs
    | putfield z => exact g_putfield hd hs
    | iaload => exact g_iaload hd hs
    | laload => exact g_laload hd hs
    | aaload => exact g_aaload hd hs
    | iastore => exact g_iastore hd hs
    | lastore => exact g_lastore hd hs
    | aastore => exact g_aastore hd hs
    | arraylength => exact g_alen hd hs
    | newarray a => exact g_newarray hd hs
    | anewarray z => exact g_anewarray hd hs
    | multianewarray z d => exact g_mna hd hs
    | new z => exact g_new hd hs
    | instanceof z => exact g_io hd hs
    | invokestatic z => exact g_is hd hs
    | invokevirtual z => exact g_iv hs
    | invokespecial z => exact g_ip hd hs
    | ireturn => exact (x_ret_no (o1_inv hs).2).elim
    | lreturn => exact (x_ret_no (o1_inv hs).2).elim
    | areturn => exact (x_ret_no (o1_inv hs).2).elim
    | return_ => exact (x_ret_no (o1_inv hs).2).elim
    | _ => cases hs
def PcK (D : va_G) (dA : Nat → ClassId) (base : Nat) (as : List Value) (h : Hp) : Array Value → State → Prop := fun v U => v = (as.map (cv base)).toArray ∧ HR D dA base h U.heap ∧ Stt D dA U
def QcK (D : va_G) (dA : Nat → ClassId) (base : Nat) (r : Option Value) (h' : Hp) : Array Value → State → Outcome → State → Prop := fun _ st oc t => oc = .returned (r.map (cv base)) ∧ HR D dA base h' t.heap ∧ Stt D dA t ∧ st.heap.size ≤ t.heap.size ∧ ∀ q, q < base → t.heap[q]? = st.heap[q]?
def wsK (k : Nat) : List Cond := .code (mNm k) (byt k) (mxl k) (mRt k) :: TB
theorem PcK.blind {D : va_G} {dA : Nat → ClassId} {base : Nat} {as : List Value} {h : Hp} : FrameBlind (PcK D dA base as h) := fun a U g mk q => ⟨q.1, q.2.1, Stt.same (s := U) (U := U.calling g mk a) (show U.vm = (U.calling g mk a).vm from rfl) q.2.2⟩
theorem mP_of {k : Nat} (hk : k < 168) : mP (mtab.getD k mdf) := by
  have hl : k < mtab.length := Nat.lt_of_lt_of_le hk (by decide +kernel)
  have e : mtab.getD k mdf = mtab[k] := by simp [List.getD_eq_getElem?_getD, hl]
  rw [e]
  exact mpa _ (List.getElem_mem hl)
theorem cvr_or (base v : Nat) : cvr base v = .null ∨ ∃ a, cvr base v = .ref a := by
  cases v with
  | zero => exact Or.inl rfl
  | succ v => exact Or.inr ⟨_, rfl⟩
theorem ret_snd {k pc : Nat} {ls : Lo} {st : List Value} {h : Hp} {r : Option Value} (hs : stp k pc ls st h = some (.inr (.inl r))) (D : va_G) (dA : Nat → ClassId) (base n0 sl0 : Nat) (p : Program) (l : Launch) (e : Env) (R : Room) (s : State) (m : MethodId) (args : Array Value) (below : List Frame) (meth : Method) (c : Code) (X : Cx D dA base k p R s m args meth c) : V D dA base k n0 sl0 p l e R s m args below meth c (MQ below (QcK D dA base r h) args s (h.1 - n0) (h.2.1 - sl0) (fun q => base ≤ q)) pc ls st h := by
  intro hn hsl hll H locs lsC hH hS hL
  obtain ⟨hx, hb, hr, hml, hown, hts, hlocks, -, hst, hbase, -, -⟩ := X
  have post : ∀ (v : Option Value), v = r.map (cv base) → ∀ t : State, t.heap = H → s.WarmedH t.vm → QcK D dA base r h args s (.returned v) t := fun v hv t ht hW => ⟨by rw [hv], by rw [ht]; exact hH, hst.warm hW, by rw [ht]; exact hS.1, fun q hq => by rw [ht]; exact hS.2.1 q (by omega) (by omega)⟩
  unfold stp at hs
  split at hs
  case h_2 => cases hs
  case h_1 ins len hd =>
    have no : ∀ {x : Option Ac}, x = some (.inr (.inl r)) → (∀ a, x = some a → ∃ q, a = Sum.inl q) → False := fun h1 h2 => by
      obtain ⟨q, hq⟩ := h2 _ h1
      cases hq
    have key : ∀ ty : Nat, x_ret k st ty = some (.inr (.inl r)) → (ty = 0 → decode (byt k) pc = .ok (.ireturn, 1)) → (ty = 1 → decode (byt k) pc = .ok (.lreturn, 1)) → (ty = 2 → decode (byt k) pc = .ok (.areturn, 1)) → (ty = 9 → decode (byt k) pc = .ok (.return_, 1)) → W p l e R s m args below meth c H locs (h.1 - n0) (h.2.1 - sl0) (MQ below (QcK D dA base r h) args s (h.1 - n0) (h.2.1 - sl0) (fun q => base ≤ q)) (F0 m pc lsC (st.map (cv base))) := by
      intro ty hs d0 d1 d2 d9
      unfold x_ret at hs
      split at hs
      · split at hs
        · rename_i hh
          cases hs
          exact W.vret hx hb (hr.trans hh.2) (post _ rfl) hS.2.2 (d9 hh.1) hlocks
        · cases hs
      · split at hs
        · rename_i hh
          cases hs
          rcases hh.2 with q | ⟨q, q2⟩
          · exact W.iret hx hb (hr.trans q) (post _ rfl) hS.2.2 (d0 hh.1) hlocks
          · exact W.zret hx hb (hr.trans q) (by rcases q2 with rfl | rfl <;> rfl) (post _ rfl) hS.2.2 (d0 hh.1) hlocks
        · cases hs
      · split at hs
        · rename_i hh
          cases hs
          exact W.lret hx hb (hr.trans hh.2) (post _ rfl) hS.2.2 (d1 hh.1) hlocks
        · cases hs
      · split at hs
        · rename_i hh
          cases hs
          rcases hh.2 with q | q
          · exact W.aret hx hb (hr.trans q) (Or.inl ⟨_, rfl⟩) (cvr_or _ _) (post _ rfl) hS.2.2 (d2 hh.1) hlocks
          · exact W.aret hx hb (hr.trans q) (Or.inr ⟨_, rfl⟩) (cvr_or _ _) (post _ rfl) hS.2.2 (d2 hh.1) hlocks
        · cases hs
      · cases hs
    have go1 : ∀ {a b : Nat} {x y : Lo} {s1 s2 : List Value} {h1 : Hp}, go a x s1 h1 = some (.inr (.inl r)) → False := fun q => by unfold go at q; cases q
    cases ins with
    | ireturn =>
      obtain rfl := (o1_inv hs).1
      exact key 0 (o1_inv hs).2 (fun _ => hd) (fun q => by cases q) (fun q => by cases q) (fun q => by cases q)
    | lreturn =>
      obtain rfl := (o1_inv hs).1
      exact key 1 (o1_inv hs).2 (fun q => by cases q) (fun _ => hd) (fun q => by cases q) (fun q => by cases q)
    | areturn =>
      obtain rfl := (o1_inv hs).1
      exact key 2 (o1_inv hs).2 (fun q => by cases q) (fun q => by cases q) (fun _ => hd) (fun q => by cases q)
    | return_ =>
      obtain rfl := (o1_inv hs).1
      exact key 9 (o1_inv hs).2 (fun q => by cases q) (fun q => by cases q) (fun q => by cases q) (fun _ => hd)
    | _ =>
      exfalso
      simp only [exec, o1, go, x_lo, x_st, x_ii, x_ll, x_u, x_inc, x_lsh, x_cmp, x_dup, x_dx1, x_dup2, x_pop, jmp, x_if, x_ic, x_nu, x_ts, x_get, x_put, x_ald, x_ast, x_len, x_newa, x_anew, x_mna, x_new, x_io, x_is, x_iv, x_ip, callA] at hs
      repeat' (first | (cases hs; done) | split at hs | (simp only [Option.bind_eq_some_iff] at hs; obtain ⟨_, _, hs⟩ := hs))
end
section
/-! calls -/
theorem lay_args (base : Nat) : ∀ (as : List Value) (m : Nat), lp base m (lay as) = lv_args m (as.map (cv base))
  | [], _ => rfl
  | v :: t, m => by
    unfold lay
    by_cases hc : v.category = 2
    · rw [if_pos hc]
      show (m, cv base v) :: lp base (m + 1 + 1) (lay t) = (m, cv base v) :: lv_args (if (cv base v).category = 2 then m + 2 else m + 1) (t.map (cv base))
      rw [cat_cv, if_pos hc, lay_args base t (m + 1 + 1)]
    · rw [if_neg hc]
      show (m, cv base v) :: lp base (m + 1) (lay t) = (m, cv base v) :: lv_args (if (cv base v).category = 2 then m + 2 else m + 1) (t.map (cv base))
      rw [cat_cv, if_neg hc, lay_args base t (m + 1)]
theorem lp_app (base : Nat) : ∀ (l : Lo) (m n : Nat), lp base m (l ++ List.replicate n none) = lp base m l
  | [], m, 0 => rfl
  | [], m, n + 1 => by
    show lp base (m + 1) (List.replicate n none) = []
    have := lp_app base [] (m + 1) n
    rw [List.nil_append] at this
    exact this
  | none :: t, m, n => lp_app base t (m + 1) n
  | some v :: t, m, n => by
    show (m, cv base v) :: lp base (m + 1) (t ++ _) = (m, cv base v) :: lp base (m + 1) t
    rw [lp_app base t (m + 1) n]
theorem lay_len (base : Nat) : ∀ as : List Value, (lg_sl (as.map (cv base))).length = (lay as).length
  | [] => rfl
  | v :: t => by
    have ih := lay_len base t
    unfold lay
    by_cases hc : v.category = 2
    · simp [lg_sl, cat_cv, hc, ← ih]
    · simp [lg_sl, cat_cv, hc, ← ih]
theorem pad_len {n : Nat} {l : Lo} (h : l.length ≤ n) : (pad n l).length = n := by
  simp [pad]
  omega
/-- what a run of a method gives: its contract -/
def VK (l : Launch) (k pc : Nat) (ls : Lo) (st : List Value) (h : Hp) (r : Option Value) (h' : Hp) : Prop := (h.1 ≤ h'.1 ∧ h.2.1 ≤ h'.2.1) ∧ ∀ (D : va_G) (dA : Nat → ClassId) (base n0 sl0 : Nat) (p : Program) (e : Env) (R : Room) (s : State) (m : MethodId) (args : Array Value) (below : List Frame) (meth : Method) (c : Code), Cx D dA base k p R s m args meth c → h'.1 - n0 ≤ R.cells → h'.2.1 - sl0 ≤ R.slots → V D dA base k n0 sl0 p l e R s m args below meth c (MQ below (QcK D dA base r h') args s (h'.1 - n0) (h'.2.1 - sl0) (fun q => base ≤ q)) pc ls st h
theorem met_of {l : Launch} {k : Nat} (hk : k < 168) {as : List Value} {h h' : Hp} {r : Option Value} (hla : (lay as).length ≤ mxl k) (hv : VK l k 0 (pad (mxl k) (lay as)) [] h r h') (D : va_G) (dA : Nat → ClassId) (base : Nat) :
    Met l (mNm k) (wsK k) { frames := mFr k, cells := h'.1 - h.1, slots := h'.2.1 - h.2.1, locals := mLo k } (PcK D dA base as h) (QcK D dA base r h') (h'.1 - h.1) (h'.2.1 - h.2.1) (fun q => base ≤ q) := by
  obtain ⟨m1, m2, m3, m4, m5, m6⟩ := mP_of hk
  refine Met.ofW (cc := byt k) (maxL := mxl k) (ret := mRt k) m4 rfl ?_
  intro p e s m args below meth c s₁ B hml hpre
  obtain ⟨rfl, hH, hst⟩ := hpre
  have hts := atoms_spec (ws := wsK k) B.pre
  have hown : s.vm.findClass (mNm k).cls = some m.cls := findClass_of_methodNamed B.named
  have X : Cx D dA base k p (headSpec (wsK k) { frames := mFr k, cells := h'.1 - h.1, slots := h'.2.1 - h.2.1, locals := mLo k }).room s m (as.map (cv base)).toArray meth c := ⟨B.exec, B.bytes, B.returns, hml, by rw [← show (mNm k).cls = ow (mOw k) from m2]; exact hown, fun w hw => hts w (List.mem_cons_of_mem _ hw), B.notSynchronized, (name_of_methodNamed B.named B.method).1, hst, by rw [hH.1]; omega, Nat.le_refl _, Nat.le_refl _⟩
  have hll : (lg_sl (as.map (cv base))).length ≤ mxl k := by rw [lay_len]; exact hla
  have hl := lv_entry (as.map (cv base)) hll
  rw [lg_entry_eq]
  generalize (lg_sl (as.map (cv base)) ++ List.replicate (mxl k - (lg_sl (as.map (cv base))).length) Slot.unset).toArray = lsC at hl ⊢
  have hL : lv_has lsC (mxl k) (lp base 0 (pad (mxl k) (lay as))) := by
    unfold pad
    rw [lp_app, lay_args]
    exact hl
  have w := hv.2 D dA base h.1 h.2.1 p e _ s m _ below meth c X (Nat.le_refl _) (Nat.le_refl _) (Nat.le_refl _) (Nat.le_refl _) (Nat.le_of_eq (pad_len hla)) s.heap [] lsC hH va_S.rf hL
  rw [Nat.sub_self, Nat.sub_self] at w
  exact w
theorem W_call {D : va_G} {dA : Nat → ClassId} {base : Nat} {p : Program} {l : Launch} {e : Env} {R : Room} {s : State} {m : MethodId} {args : Array Value} {below : List Frame} {meth : Method} {c : Code} {Q : State → Prop} {cells slots mc ms pc : Nat} {H : Heap} {locs : List Loc} {lsC : Array Slot} {st0 rest : List Value} {r : Option Value} {h1 : Hp} {a : Array Value}
    (hr : va_Run p l e R s m args below meth c H locs cells slots mc ms (F0 m pc lsC st0) rest (QcK D dA base r h1 a) (fun q => base ≤ q)) (hS : va_S (fun q => base ≤ q) s.heap H locs)
    (kk : ∀ (H1 : Heap) (locs1 : List Loc), HR D dA base h1 H1 → va_S (fun q => base ≤ q) s.heap H1 locs1 → W p l e R s m args below meth c H1 locs1 (cells + mc) (slots + ms) Q (F0 m (pc + 3) lsC ((r.map (cv base)).toList ++ rest))) : W p l e R s m args below meth c H locs cells slots Q (F0 m pc lsC st0) := by
  intro T hT X
  obtain ⟨v, st₀, t, T', L, h0, X', hL, e1, e2, ⟨hv, hH, -, hz, hk⟩, st⟩ := hr T hT X
  cases hv
  rw [h0] at hz hk
  obtain ⟨t2, a1, b1⟩ := kk T'.heap (locs ++ L) (by rw [e1]; exact hH) ⟨Nat.le_trans hS.1 (by rw [e1]; exact hz), fun q g1 g2 => by
      have hq : q < base := by
        rcases Nat.lt_or_ge q base with z | z
        · exact z
        · exact absurd z g2
      rw [e1, hk q hq]
      exact hS.2.1 q g1 g2, fun q hq => by
      rcases List.mem_append.mp hq with g | g
      · exact hS.2.2 q g
      · exact hL q g⟩ T' rfl X'
  exact ⟨t2, st t2 a1, b1⟩
theorem alt_mem {al : List (Nat × Nat × List Nat)} {c k2 : Nat} (h : alt al c = some k2) : ∃ w, (c, k2, w) ∈ al := by
  unfold alt at h
  cases hl : look al c with
  | none => rw [hl] at h; cases h
  | some q =>
    rw [hl] at h
    cases h
    exact ⟨q.2, look_mem hl⟩
theorem call_inv {k pc' : Nat} {k2 : Nat} {as rest : List Value} {a : Ac} (h : callA k pc' k2 as rest = some a) : wsum rest ≤ 8 ∧ mFr k2 + 1 ≤ mFr k ∧ 8 + (mxl k2 + 11) + mLo k2 ≤ mLo k ∧ (lay as).length ≤ mxl k2 ∧ a = .inr (.inr (k2, pad (mxl k2) (lay as), pc', rest)) := by
  unfold callA at h
  split at h
  · rename_i hh
    cases h
    have := hh.2.1
    simp only [rmOk, Bool.and_eq_true, decide_eq_true_eq] at this
    exact ⟨hh.1, this.1, this.2, hh.2.2, rfl⟩
  · cases h
theorem take_drop_rev (na : Nat) (st : List Value) : ((st.take na).reverse).reverse ++ st.drop na = st := by rw [List.reverse_reverse, List.take_append_drop]
/-- all that a call asks of the words, but for its own -/
theorem good_ws {k : Nat} (hk : k < 168) : GoodIn TB (wsK k) := fun w hw => by
  rcases List.mem_cons.mp hw with rfl | hw
  · exact ⟨(mP_of hk).1, TB_good (mP_of hk).1⟩
  · exact ⟨hw, TB_good hw⟩
theorem npr_len {d : String} {n : Nat} (h : npr d = some n) : ∀ sig, parseMethodDescriptor d = some sig → n = sig.parameters.length := fun sig hs => by
  unfold npr at h
  rw [hs] at h
  exact (Option.some.inj h).symm
end
section
theorem alt_lt_1 : ∀ o : Nat, o < 13 → ((vtb o).all (fun q => q.2.2.2.2.2.1.all (fun a => decide (a.2.1 < 168)))) = true := by decide +kernel
theorem alt_lt {o z kd na : Nat} {x : MethodName} {ow0 : String} {al : List (Nat × Nat × List Nat)} {wd : List Nat} (hl : look (vtb o) z = some (kd, na, x, ow0, al, wd)) {c k2 : Nat} {w : List Nat} (h : (c, k2, w) ∈ al) : k2 < 168 := by
  have ho : ((vtb o).all (fun q => q.2.2.2.2.2.1.all (fun a => decide (a.2.1 < 168)))) = true := by
    by_cases h13 : o < 13
    · exact alt_lt_1 o h13
    · have e : vtb o = [] := by
        match o, h13 with
        | n + 13, _ => rfl
      rw [e]
      rfl
  have := List.all_eq_true.mp (List.all_eq_true.mp ho _ (look_mem hl)) _ h
  simpa using this
section RUN9
variable {p : Program} {l : Launch} {e : Env} {R : Room} {s : State} {m : MethodId} {args : Array Value} {below : List Frame} {meth : Method} {c : Code} {H : Heap} {locs : List Loc} {cells slots : Nat}
/-- super.m(..), where the superclass has m from its own superclass -/
theorem va_run9 {x y : MethodName} {bytes cc : ByteArray} {maxL nL mc ms n index : Nat} {ret : Option FieldType} {ws : List Cond} {rm : Room} {Pc : Array Value → State → Prop} {Qc : Array Value → State → Outcome → State → Prop} {free : Addr → Prop} {Ts : List Cond} {own C : String} {cC : ClassId} {b : Addr} {As rest : List Value} {g : JFrame}
    (hat : ClassAt s C cC) (S : CallFix p m c cc nL s args Ts own) (hM : Met l y ws rm Pc Qc mc ms free) (hrc : rm.cells = mc) (hrs : rm.slots = ms) (hfr : rm.frames + 1 ≤ R.frames) (hlo : 8 + (maxL + 11) + rm.locals ≤ R.locals) (hws : ∀ w ∈ ws, ∀ (a' : Array Value) (U : State), s.WarmedH U.vm → w.before a' U = true) (hcw : Cond.code y bytes maxL ret ∈ ws) (hcode : (Cond.code y bytes maxL ret).before args s = true) (hini : (Cond.initialized y.cls).before args s = true)
    (hl1 : (Cond.methodLink own index x).before args s = true) (hl2 : (Cond.sameMethod x.cls y.cls x.name x.desc).before args s = true) (hl3 : (Cond.superclass own x.cls).before args s = true) (hl5 : (Cond.superclass x.cls y.cls).before args s = true) (hl4 : (Cond.instanceMethod y).before args s = true) (hno : x.name ≠ "<init>") (hy : y = ⟨y.cls, x.name, x.desc⟩) (hlen : ∀ sig, parseMethodDescriptor x.desc = some sig → n = sig.parameters.length) (hp : PreV s H C b Pc As)
    (hg : g.method = m) (hn : As.length = n) (hsize : g.locals.size = nL) (hstack : g.stack = As.reverse ++ .ref b :: rest) (hW : 2 * g.monitorRoom + (rest.map fun v => v.category).sum ≤ 8) (hdg : decode cc g.pc = .ok (.invokespecial index, 3)) (hf : cells + mc ≤ R.cells ∧ slots + ms ≤ R.slots) :
    va_Run p l e R s m args below meth c H locs cells slots mc ms g rest (Qc (Value.ref b :: As).toArray) (free) := by
  have hK : Back l R p e below s args y 3 8 (PreOf R mc ms Pc) (PostOf Qc mc ms free) := back_of (bytes := bytes) (maxL := maxL) (ret := ret) hM hp.1 hrc hrs hfr hlo hws hcw (fun a' U hW => word_at hW (Or.inl (by first | rfl | simp [Cond.onTables, Cond.keeps, Cond.steady])) hini)
  obtain ⟨hx, hb, hml, hown, -⟩ := S
  obtain ⟨-, ⟨cellB, hcB, hoB, hclB⟩, hPc⟩ := hp
  obtain ⟨hfc, kB, hkB, -⟩ := hat
  cases hfc.symm.trans hclB
  intro T hT X
  obtain ⟨mk, methM, hnamed, hmethM, hstM, habM⟩ := Cond.instanceMethod_spec hl4
  obtain ⟨methM', cM, hmethM', -, -, -, -, -, -, hsigM⟩ := Cond.code_spec hnamed hcode
  cases hmethM.symm.trans hmethM'
  obtain ⟨ps, dk, kp, hps, hdk, hkp, hsuper, -, -, hnid⟩ := Cond.superclass_spec hown hl3
  obtain ⟨pq, dq, kq, hpq, hdq, hkq, hsq, -, -, -⟩ := Cond.superclass_spec hps hl5
  have hn2 : s.methodNamed? ⟨y.cls, x.name, x.desc⟩ = some mk := by rw [← hy]; exact hnamed
  have hpm : pq = mk.cls := Option.some.inj (hpq.symm.trans (findClass_of_methodNamed hnamed))
  have hsub : s.vm.isSubclass ps mk.cls = true := by
    rw [← hpm]
    have hz : 0 < s.vm.classes.size := Nat.lt_of_le_of_lt (Nat.zero_le _) (Array.getElem?_eq_some_iff.mp hkq).1
    obtain ⟨n9, hn9⟩ := Nat.exists_eq_succ_of_ne_zero (by omega : s.vm.classes.size ≠ 0)
    simp [Vm.isSubclass, Vm.isSubclassAux, hdq, hsq]
    right
    rw [hn9]
    simp [Vm.isSubclassAux]
  have hlen2 : As.length = methM.sig.parameters.length := hn.trans (hlen _ (by rw [show x.desc = y.desc by rw [hy]]; exact hsigM))
  obtain ⟨vm₁, X₁, hstep₁⟩ := X.invokespecialUp hx hown hl1 hl2 hn2 hmethM hstM habM hno hdk hnid hps hsuper hsub (a := b) (cell := cellB) (by rw [hT]; exact hcB)
    (fun z h => by rw [h] at hoB; cases hoB) hkB (g := g) hg (argsL := As) (rest := rest) hlen2 hstack (by rw [hb]; exact hdg)
  obtain ⟨v, B, X', hpost, hsteps⟩ := hK m meth c ⟨T.setVm vm₁, locs, cells, slots⟩ { g with stack := rest } (.invokespecial index) mk (Value.ref b :: As).toArray X₁ hg (hsize.trans hml.symm) (by rw [hb]; exact hdg) hW (X₁.named hnamed) ⟨hf.1, hf.2, hPc (T.setVm vm₁) hT X₁.warmed⟩
  obtain ⟨U', l2, c2, s2⟩ := B
  obtain ⟨g', mk', t, L, e1, e2, hq, h1, hL, h2, h3⟩ := hpost
  dsimp only [Pt.U, Pt.locs, Pt.cells, Pt.slots] at X' e1 e2 h1 h2 h3 hsteps
  subst h1; subst h2; subst h3
  exact ⟨v, (T.setVm vm₁).calling g' mk' (Value.ref b :: As).toArray, t, U', L, hT, X', hL, e1, e2, hq, fun target h => hstep₁ _ (by rw [doInvoke_state]; exact hsteps.trans h)⟩
end RUN9
/-- from a call's run to the caller's -/
theorem call_gen {l : Launch} {k pc : Nat} {ls : Lo} {st : List Value} {h : Hp} {k2 : Nat} {as rest : List Value} {r1 : Option Value} {h1 : Hp} {r : Option Value} {h' : Hp} (hk2 : k2 < 168) (hla : (lay as).length ≤ mxl k2)
    (hv : VK l k2 0 (pad (mxl k2) (lay as)) [] h r1 h1) (hn : VK l k (pc + 3) ls (r1.toList ++ rest) h1 r h')
    (run : ∀ (D : va_G) (dA : Nat → ClassId) (base : Nat) (p : Program) (e : Env) (R : Room) (s : State) (m : MethodId) (args : Array Value) (below : List Frame) (meth : Method) (c : Code) (cells slots : Nat), Cx D dA base k p R s m args meth c → ∀ (H : Heap) (locs : List Loc) (lsC : Array Slot), HR D dA base h H → lsC.size = mxl k → cells + (h1.1 - h.1) ≤ R.cells → slots + (h1.2.1 - h.2.1) ≤ R.slots → Met l (mNm k2) (wsK k2) { frames := mFr k2, cells := h1.1 - h.1, slots := h1.2.1 - h.2.1, locals := mLo k2 } (PcK D dA base as h) (QcK D dA base r1 h1) (h1.1 - h.1) (h1.2.1 - h.2.1) (fun q => base ≤ q) → ∃ a, va_Run p l e R s m args below meth c H locs cells slots (h1.1 - h.1) (h1.2.1 - h.2.1) (F0 m pc lsC (st.map (cv base))) (rest.map (cv base)) (QcK D dA base r1 h1 a) (fun q => base ≤ q)) : VK l k pc ls st h r h' := by
  obtain ⟨⟨v1, v2⟩, -⟩ := id hv
  obtain ⟨⟨n1, n2⟩, nn⟩ := hn
  refine ⟨⟨by omega, by omega⟩, fun D dA base n0 sl0 p e R s m args below meth c X hc hs hn0 hsl hll H locs lsC hH hS hL => ?_⟩
  obtain ⟨a, hr⟩ := run D dA base p e R s m args below meth c (h.1 - n0) (h.2.1 - sl0) X H locs lsC hH hL.1 (by omega) (by omega) (met_of hk2 hla hv D dA base)
  refine W_call hr hS fun H1 locs1 hH1 hS1 => ?_
  have w := nn D dA base n0 sl0 p e R s m args below meth c X hc hs (by omega) (by omega) hll H1 locs1 lsC hH1 hS1 hL
  rw [show h1.1 - n0 = h.1 - n0 + (h1.1 - h.1) by omega, show h1.2.1 - sl0 = h.2.1 - sl0 + (h1.2.1 - h.2.1) by omega, show (r1.toList ++ rest).map (cv base) = (r1.map (cv base)).toList ++ rest.map (cv base) by cases r1 <;> simp] at w
  exact w
section CALLS
variable {l : Launch} {k pc len : Nat} {ls : Lo} {st : List Value} {h : Hp} {k2 : Nat} {as' : Lo} {pc' : Nat} {st' : List Value} {r1 : Option Value} {h1 : Hp} {r : Option Value} {h' : Hp}
theorem room_ok {D : va_G} {dA : Nat → ClassId} {base : Nat} {p : Program} {R : Room} {s : State} {m : MethodId} {args : Array Value} {meth : Method} {c : Code} (X : Cx D dA base k p R s m args meth c) {hf : mFr k2 + 1 ≤ mFr k} {hl : 8 + (mxl k2 + 11) + mLo k2 ≤ mLo k} : mFr k2 + 1 ≤ R.frames ∧ 8 + (mxl k2 + 11) + mLo k2 ≤ R.locals := by
  obtain ⟨-, -, -, -, -, -, -, -, -, -, a, b⟩ := X
  omega
theorem cb_of {D : va_G} {dA : Nat → ClassId} {base : Nat} {p : Program} {R : Room} {s : State} {m : MethodId} {args : Array Value} {meth : Method} {c : Code} (X : Cx D dA base k p R s m args meth c) (hk2 : k2 < 168) (hf : mFr k2 + 1 ≤ mFr k) (hl : 8 + (mxl k2 + 11) + mLo k2 ≤ mLo k) {z mc ms n : Nat} (hlink : Cond.methodLink (ow (mOw k)) z (mNm k2) ∈ TB) (hn : npr (mNm k2).desc = some n) : CallB R s args (ow (mOw k)) z (mNm k2) (byt k2) (mxl k2) (mRt k2) (wsK k2) { frames := mFr k2, cells := mc, slots := ms, locals := mLo k2 } mc ms n := by
  obtain ⟨m1, m2, m3, m4, m5, m6⟩ := mP_of hk2
  obtain ⟨q1, q2⟩ := room_ok (k2 := k2) X (hf := hf) (hl := hl)
  have hts := X.2.2.2.2.2.1
  exact ⟨rfl, rfl, q1, q2, pay_in hts (good_ws hk2), List.mem_cons_self, hts _ m1, hts _ m3, ⟨m5, m6⟩, npr_len hn, hts _ hlink⟩
theorem cn_of {D : va_G} {dA : Nat → ClassId} {base : Nat} {p : Program} {R : Room} {s : State} {m : MethodId} {args : Array Value} {meth : Method} {c : Code} (X : Cx D dA base k p R s m args meth c) (hk2 : k2 < 168) (hf : mFr k2 + 1 ≤ mFr k) (hl : 8 + (mxl k2 + 11) + mLo k2 ≤ mLo k) {z mc ms n : Nat} {host : String} (hlink : Cond.methodLinkNest (ow (mOw k)) z (mNm k2) host ∈ nwN) (hn : npr (mNm k2).desc = some n) : va_CN R s args (ow (mOw k)) z (mNm k2) host (byt k2) (mxl k2) (mRt k2) (wsK k2) { frames := mFr k2, cells := mc, slots := ms, locals := mLo k2 } mc ms n := by
  obtain ⟨m1, m2, m3, m4, m5, m6⟩ := mP_of hk2
  obtain ⟨q1, q2⟩ := room_ok (k2 := k2) X (hf := hf) (hl := hl)
  have hts := X.2.2.2.2.2.1
  exact ⟨⟨rfl, rfl, q1, q2, pay_in hts (good_ws hk2), List.mem_cons_self⟩, hts _ m1, hts _ m3, ⟨m5, m6⟩, npr_len hn, va_Nw.use rfl (X.2.2.2.2.2.2.2.2.1.2.1 _ hlink)⟩
theorem fix_of {D : va_G} {dA : Nat → ClassId} {base : Nat} {p : Program} {R : Room} {s : State} {m : MethodId} {args : Array Value} {meth : Method} {c : Code} (X : Cx D dA base k p R s m args meth c) : CallFix p m c (byt k) (mxl k) s args TB (ow (mOw k)) := ⟨X.1, X.2.1, X.2.2.2.1, X.2.2.2.2.1, X.2.2.2.2.2.1⟩
theorem preS_of {D : va_G} {dA : Nat → ClassId} {base : Nat} {p : Program} {R : Room} {s : State} {m : MethodId} {args : Array Value} {meth : Method} {c : Code} (X : Cx D dA base k p R s m args meth c) {H : Heap} (hH : HR D dA base h H) {as : List Value} : PreS s H (PcK D dA base as h) (as.map (cv base)) := ⟨PcK.blind, fun U hU hW => ⟨rfl, by rw [hU]; exact hH, X.2.2.2.2.2.2.2.2.1.warm hW⟩⟩
theorem preV_of {D : va_G} {dA : Nat → ClassId} {base : Nat} {p : Program} {R : Room} {s : State} {m : MethodId} {args : Array Value} {meth : Method} {c : Code} (X : Cx D dA base k p R s m args meth c) {H : Heap} (hH : HR D dA base h H) {as : List Value} {j cc : Nat} {rr : vw_C} (hC : h.2.2.1 (j + 1) = cc + 1) (hr : vwCl[cc]? = some rr) : PreV s H rr.1 (base + j) (PcK D dA base (.ref (j + 1) :: as) h) (as.map (cv base)) := by
  obtain ⟨cell, g1, g2, g3, -⟩ := (hH.2.2.2 j).1 cc rr hC hr
  exact ⟨PcK.blind, ⟨cell, g1, by rw [g3]; rfl, by rw [g2]; exact (X.2.2.2.2.2.2.2.2.1.1.1 cc rr hr).2.1⟩, fun U hU hW => ⟨rfl, by rw [hU]; exact hH, X.2.2.2.2.2.2.2.2.1.warm hW⟩⟩
theorem hW_of {base : Nat} {rest : List Value} {m : MethodId} {lsC : Array Slot} {st0 : List Value} (hw : wsum rest ≤ 8) : 2 * (F0 m pc lsC st0).monitorRoom + ((rest.map (cv base)).map fun v => v.category).sum ≤ 8 := by
  rw [cat_map]
  show 2 * 0 + wsum rest ≤ 8
  omega
theorem c_is {z : Nat} (hd : decode (byt k) pc = .ok (.invokestatic z, len)) (hs : exec k pc ls st h len (.invokestatic z) = some (.inr (.inr (k2, as', pc', st')))) : k2 < 168 ∧ ∀ (r1 : Option Value) (h1 : Hp) (r : Option Value) (h' : Hp), VK l k2 0 as' [] h r1 h1 → VK l k pc' ls (r1.toList ++ st') h1 r h' → VK l k pc ls st h r h' := by
  obtain rfl := (o1_inv hs).1
  replace hs := (o1_inv hs).2
  unfold x_is at hs
  split at hs
  case h_2 => cases hs
  case h_1 kd na x s0 al wd hl =>
    split at hs
    · rename_i hkd
      split at hs
      · rename_i hlen
        split at hs
        · rename_i k3 ha
          obtain ⟨w1, w2, w3, w4, e⟩ := call_inv hs
          cases e
          obtain ⟨wq, hm⟩ := alt_mem ha
          have hk2 := alt_lt hl hm
          refine ⟨hk2, fun r1 h1 r h' hv hn => call_gen hk2 w4 hv hn fun D dA base p e R s m args below meth c cells slots X H locs lsC hH hsz hc hsl hM => ⟨((st.take na).reverse.map (cv base)).toArray, ?_⟩⟩
          have hst : st.map (cv base) = ((st.take na).reverse.map (cv base)).reverse ++ (st.drop na).map (cv base) := by
            rw [← List.map_reverse, ← List.map_append, take_drop_rev]
          rcases hkd with rfl | rfl
          · have hok : (isT (wd.getD 0 0) (.methodLink (ow (mOw k)) z x) && isT (wd.getD 1 0) (.static x) && al.all (fun a => decide (mNm a.2.1 = x)) && decide (npr x.desc = some na)) = true := vt_at hl
            simp only [Bool.and_eq_true, decide_eq_true_eq] at hok
            obtain ⟨⟨⟨q1, q2⟩, q3⟩, q4⟩ := hok
            have hx : mNm k2 = x := by simpa using List.all_eq_true.mp q3 _ hm
            rw [← hx] at q1 q2 q4
            exact va_runS (fix_of X) hM ⟨cb_of X hk2 w2 w3 (isT_TB q1) q4, X.2.2.2.2.2.1 _ (isT_TB q2)⟩ (preS_of X hH) rfl (by simp at hlen ⊢; omega) hsz hst (hW_of w1) hd ⟨hc, hsl⟩
          · have hok : (decide (Cond.methodLinkNest (ow (mOw k)) z x "SteerBench" ∈ nwN) && isT (wd.getD 1 0) (.static x) && al.all (fun a => decide (mNm a.2.1 = x)) && decide (npr x.desc = some na)) = true := vt_at hl
            simp only [Bool.and_eq_true, decide_eq_true_eq] at hok
            obtain ⟨⟨⟨q1, q2⟩, q3⟩, q4⟩ := hok
            have hx : mNm k2 = x := by simpa using List.all_eq_true.mp q3 _ hm
            rw [← hx] at q1 q2 q4
            exact va_runSN (fix_of X) hM ⟨cn_of X hk2 w2 w3 q1 q4, X.2.2.2.2.2.1 _ (isT_TB q2), trivial⟩ (preS_of X hH) rfl (by simp at hlen ⊢; omega) hsz hst (hW_of w1) hd ⟨hc, hsl⟩
        · cases hs
      · cases hs
    · exfalso
      simp only [go] at hs
      repeat' (first | (cases hs; done) | split at hs)
theorem cl_of {c : Nat} (h0 : 0 < c) (h1 : c < 12) : ∃ (cc : Nat) (rr : vw_C), c = cc + 1 ∧ vwCl[cc]? = some rr ∧ clN (c - 1) = rr.1 := by
  obtain ⟨rr, hr⟩ : ∃ r, vwCl[c - 1]? = some r := ⟨_, List.getElem?_eq_getElem (by simp [vwCl]; omega)⟩
  exact ⟨c - 1, rr, by omega, hr, by simp [clN, hr, show c - 1 ≠ 23 by omega]⟩
theorem c_iv {z : Nat} (hd : decode (byt k) pc = .ok (.invokevirtual z, len)) (hs : exec k pc ls st h len (.invokevirtual z) = some (.inr (.inr (k2, as', pc', st')))) : k2 < 168 ∧ ∀ (r1 : Option Value) (h1 : Hp) (r : Option Value) (h' : Hp), VK l k2 0 as' [] h r1 h1 → VK l k pc' ls (r1.toList ++ st') h1 r h' → VK l k pc ls st h r h' := by
  obtain rfl := (o1_inv hs).1
  replace hs := (o1_inv hs).2
  unfold x_iv at hs
  split at hs
  case h_2 => cases hs
  case h_1 kd na x s0 al wd hl =>
    split at hs
    case isFalse => cases hs
    case isTrue hh =>
      obtain ⟨hkd, hlen⟩ := hh
      split at hs
      case h_2 => cases hs
      case h_1 i rr hdr =>
        split at hs
        case h_2 => cases hs
        case h_1 k3 ha =>
          obtain ⟨w1, w2, w3, w4, e⟩ := call_inv hs
          cases e
          obtain ⟨wq, hm⟩ := alt_mem ha
          have hk2 := alt_lt hl hm
          refine ⟨hk2, fun r1 h1 r h' hv hn => call_gen hk2 w4 hv hn fun D dA base p e R s m args below meth c cells slots X H locs lsC hH hsz hc hsl hM => ?_⟩
          have hst : st = ((st.take na).reverse).reverse ++ .ref i :: st' := by rw [← hdr, take_drop_rev]
          rcases hkd with rfl | rfl
          · have hok : (isT (wd.getD 0 0) (.methodLink (ow (mOw k)) z x) && isT (wd.getD 1 0) (.instanceMethod x) && isT (wd.getD 2 0) (.selects x.cls x x) && al.all (fun a => decide (mNm a.2.1 = x) && (clN (a.1 - 1) == x.cls) && decide (0 < a.1) && decide (a.1 < 12)) && decide (npr x.desc = some na)) = true := vt_at hl
            simp only [Bool.and_eq_true, decide_eq_true_eq] at hok
            obtain ⟨⟨⟨⟨q1, q2⟩, q3⟩, q5⟩, q4⟩ := hok
            have q6 := List.all_eq_true.mp q5 _ hm
            simp only [Bool.and_eq_true, decide_eq_true_eq, beq_iff_eq] at q6
            obtain ⟨⟨⟨hx, hcl⟩, hc0⟩, hc1⟩ := q6
            obtain ⟨cc, rv, e1, hr, e2⟩ := cl_of hc0 hc1
            rw [← hx] at q1 q2 q3 q4
            have e3 : rv.1 = (mNm k2).cls := by rw [hx, ← hcl, e2]
            obtain ⟨j, rfl⟩ := hH.pos (i := i) (by omega)
            refine ⟨((Value.ref (base + j)) :: (st.take na).reverse.map (cv base)).toArray, ?_⟩
            have hst2 : st.map (cv base) = ((st.take na).reverse.map (cv base)).reverse ++ .ref (base + j) :: st'.map (cv base) := by
              conv => lhs; rw [hst]
              rw [List.map_append, List.map_reverse]
              rfl
            exact va_runV (C := rv.1) (fix_of X) hM ⟨cb_of X hk2 w2 w3 (isT_TB q1) q4, X.2.2.2.2.2.1 _ (isT_TB q2), by rw [e3]; exact X.2.2.2.2.2.1 _ (isT_TB q3)⟩ (preV_of X hH e1 hr) rfl (by simp at hlen ⊢; omega) hsz hst2 (hW_of w1) hd ⟨hc, hsl⟩
          · have hok : (isT (wd.getD 0 0) (.methodLink (ow (mOw k)) z x) && isT (wd.getD 1 0) (.sameMethod x.cls s0 x.name x.desc) && isT (wd.getD 2 0) (.instanceMethod ⟨s0, x.name, x.desc⟩) && decide (mNm (wd.getD 3 0) = ⟨s0, x.name, x.desc⟩) && decide (wd.getD 3 0 < 168) && al.all (fun a => isT (a.2.2.getD 0 0) (.selects (clN (a.1 - 1)) x (mNm a.2.1)) && isT (a.2.2.getD 1 0) (.instanceMethod (mNm a.2.1)) && decide (0 < a.1) && decide (a.1 < 12)) && decide (npr x.desc = some na) && (s0 != "java/lang/invoke/MethodHandle") && (s0 != "java/lang/invoke/VarHandle")) = true := vt_at hl
            simp only [Bool.and_eq_true, decide_eq_true_eq, bne_iff_ne, ne_eq] at hok
            obtain ⟨⟨⟨⟨⟨⟨⟨⟨q1, q2⟩, q3⟩, q7⟩, q8⟩, q5⟩, q4⟩, q9⟩, q10⟩ := hok
            have q6 := List.all_eq_true.mp q5 _ hm
            simp only [Bool.and_eq_true, decide_eq_true_eq] at q6
            obtain ⟨⟨⟨hsel, hinst⟩, hc0⟩, hc1⟩ := q6
            obtain ⟨cc, rv, e1, hr, e2⟩ := cl_of hc0 hc1
            rw [e2] at hsel
            obtain ⟨m1, m2, m3, m4, m5, m6⟩ := mP_of hk2
            obtain ⟨o1, -⟩ := mP_of q8
            replace o1 : Cond.code (mNm (wd.getD 3 0)) (byt (wd.getD 3 0)) (mxl (wd.getD 3 0)) (mRt (wd.getD 3 0)) ∈ TB := o1
            rw [q7] at o1
            have hts := X.2.2.2.2.2.1
            obtain ⟨p1, p2⟩ := room_ok (k2 := k2) X (hf := w2) (hl := w3)
            obtain ⟨j, rfl⟩ := hH.pos (i := i) (by omega)
            refine ⟨((Value.ref (base + j)) :: (st.take na).reverse.map (cv base)).toArray, ?_⟩
            have hst2 : st.map (cv base) = ((st.take na).reverse.map (cv base)).reverse ++ .ref (base + j) :: st'.map (cv base) := by
              conv => lhs; rw [hst]
              rw [List.map_append, List.map_reverse]
              rfl
            exact va_runU (C := rv.1) (fix_of X) hM ⟨⟨rfl, rfl, p1, p2, pay_in hts (good_ws hk2), List.mem_cons_self⟩, hts _ m1, hts _ m3, ⟨q9, q10⟩, npr_len q4, hts _ (isT_TB q1), hts _ (isT_TB q2), va_Decl.of (hts _ (isT_TB q3)) (hts _ o1), hts _ (isT_TB hsel), hts _ (isT_TB hinst)⟩ (preV_of X hH e1 hr) rfl (by simp at hlen ⊢; omega) hsz hst2 (hW_of w1) hd ⟨hc, hsl⟩
theorem c_ip {z : Nat} (hd : decode (byt k) pc = .ok (.invokespecial z, len)) (hs : exec k pc ls st h len (.invokespecial z) = some (.inr (.inr (k2, as', pc', st')))) : k2 < 168 ∧ ∀ (r1 : Option Value) (h1 : Hp) (r : Option Value) (h' : Hp), VK l k2 0 as' [] h r1 h1 → VK l k pc' ls (r1.toList ++ st') h1 r h' → VK l k pc ls st h r h' := by
  obtain rfl := (o1_inv hs).1
  replace hs := (o1_inv hs).2
  unfold x_ip at hs
  split at hs
  case h_2 => cases hs
  case h_1 kd na x s0 al wd hl =>
    split at hs
    case isFalse => cases hs
    case isTrue hlen =>
      split at hs
      case h_2 => cases hs
      case h_1 i rr hdr =>
        split at hs
        · split at hs
          · unfold go at hs
            cases hs
          · cases hs
        · split at hs
          · rename_i hh
            obtain ⟨hkd, hi0⟩ := hh
            split at hs
            case h_2 => cases hs
            case h_1 k3 ha =>
              obtain ⟨w1, w2, w3, w4, e⟩ := call_inv hs
              cases e
              obtain ⟨wq, hm⟩ := alt_mem ha
              have hk2 := alt_lt hl hm
              refine ⟨hk2, fun r1 h1 r h' hv hn => call_gen hk2 w4 hv hn fun D dA base p e R s m args below meth c cells slots X H locs lsC hH hsz hc hsl hM => ?_⟩
              have hst : st = ((st.take na).reverse).reverse ++ .ref i :: st' := by rw [← hdr, take_drop_rev]
              obtain ⟨j, rfl⟩ := Nat.exists_eq_succ_of_ne_zero hi0
              refine ⟨((Value.ref (base + j)) :: (st.take na).reverse.map (cv base)).toArray, ?_⟩
              have hst2 : st.map (cv base) = ((st.take na).reverse.map (cv base)).reverse ++ .ref (base + j) :: st'.map (cv base) := by
                conv => lhs; rw [hst]
                rw [List.map_append, List.map_reverse]
                rfl
              have hp : PreS s H (PcK D dA base (.ref (j + 1) :: (st.take na).reverse) h) (.ref (base + j) :: (st.take na).reverse.map (cv base)) := preS_of X hH
              rcases hkd with rfl | rfl
              · have hok : (isT (wd.getD 0 0) (.methodLink (ow (mOw k)) z x) && isT (wd.getD 1 0) (.instanceMethod x) && al.all (fun a => decide (mNm a.2.1 = x) && decide (mRt a.2.1 = none)) && decide (npr x.desc = some na) && (x.name == "<init>")) = true := vt_at hl
                simp only [Bool.and_eq_true, decide_eq_true_eq, beq_iff_eq] at hok
                obtain ⟨⟨⟨⟨q1, q2⟩, q3⟩, q4⟩, q5⟩ := hok
                have q6 := List.all_eq_true.mp q3 _ hm
                simp only [Bool.and_eq_true, decide_eq_true_eq] at q6
                obtain ⟨hx, hrt⟩ := q6
                rw [← hx] at q1 q2 q4 q5
                have cb := cb_of (mc := h1.1 - h.1) (ms := h1.2.1 - h.2.1) X hk2 w2 w3 (isT_TB q1) q4
                rw [hrt] at cb
                exact va_runI (fix_of X) hM ⟨cb, q5, X.2.2.2.2.2.1 _ (isT_TB q2)⟩ hp rfl (by simp at hlen ⊢; omega) hsz hst2 (hW_of w1) hd ⟨hc, hsl⟩
              · have hok : (decide (Cond.methodLinkNest (ow (mOw k)) z x "SteerBench" ∈ nwN) && isT (wd.getD 1 0) (.instanceMethod x) && al.all (fun a => decide (mNm a.2.1 = x) && decide (mRt a.2.1 = none)) && decide (npr x.desc = some na) && (x.name == "<init>")) = true := vt_at hl
                simp only [Bool.and_eq_true, decide_eq_true_eq, beq_iff_eq] at hok
                obtain ⟨⟨⟨⟨q1, q2⟩, q3⟩, q4⟩, q5⟩ := hok
                have q6 := List.all_eq_true.mp q3 _ hm
                simp only [Bool.and_eq_true, decide_eq_true_eq] at q6
                obtain ⟨hx, hrt⟩ := q6
                rw [← hx] at q1 q2 q4 q5
                have cb := cn_of (mc := h1.1 - h.1) (ms := h1.2.1 - h.2.1) X hk2 w2 w3 q1 q4
                rw [hrt] at cb
                exact va_runIN (fix_of X) hM ⟨cb, q5, X.2.2.2.2.2.1 _ (isT_TB q2)⟩ hp rfl (by simp at hlen ⊢; omega) hsz hst2 (hW_of w1) hd ⟨hc, hsl⟩
          · split at hs
            case isFalse => cases hs
            case isTrue hh =>
              obtain ⟨hkd, hg⟩ := hh
              split at hs
              case h_2 => cases hs
              case h_1 k3 ha =>
                obtain ⟨w1, w2, w3, w4, e⟩ := call_inv hs
                cases e
                obtain ⟨wq, hm⟩ := alt_mem ha
                have hk2 := alt_lt hl hm
                refine ⟨hk2, fun r1 h1 r h' hv hn => call_gen hk2 w4 hv hn fun D dA base p e R s m args below meth c cells slots X H locs lsC hH hsz hc hsl hM => ?_⟩
                have hst : st = ((st.take na).reverse).reverse ++ .ref i :: st' := by rw [← hdr, take_drop_rev]
                obtain ⟨cc, hcf, hC⟩ := inG_fam hg
                obtain ⟨rv, hr⟩ : ∃ r, vwCl[cc]? = some r := by
                  simp only [fam, if_true, List.mem_cons, List.not_mem_nil, or_false] at hcf
                  rcases hcf with rfl | rfl | rfl | rfl <;> exact ⟨_, rfl⟩
                obtain ⟨j, rfl⟩ := hH.pos (i := i) (by omega)
                refine ⟨((Value.ref (base + j)) :: (st.take na).reverse.map (cv base)).toArray, ?_⟩
                have hst2 : st.map (cv base) = ((st.take na).reverse.map (cv base)).reverse ++ .ref (base + j) :: st'.map (cv base) := by
                  conv => lhs; rw [hst]
                  rw [List.map_append, List.map_reverse]
                  rfl
                have hcat := (X.2.2.2.2.2.2.2.2.1.1.1 cc rv hr).2
                have hts := X.2.2.2.2.2.1
                obtain ⟨m1, m2, m3, m4, m5, m6⟩ := mP_of hk2
                obtain ⟨p1, p2⟩ := room_ok (k2 := k2) X (hf := w2) (hl := w3)
                rcases hkd with rfl | rfl
                · have hok : (isT (wd.getD 0 0) (.methodLink (ow (mOw k)) z x) && isT (wd.getD 1 0) (.sameMethod x.cls x.cls x.name x.desc) && isT (wd.getD 2 0) (.superclass (ow (mOw k)) x.cls) && isT (wd.getD 3 0) (.instanceMethod x) && al.all (fun a => decide (mNm a.2.1 = x)) && decide (npr x.desc = some na) && (x.name != "<init>")) = true := vt_at hl
                  simp only [Bool.and_eq_true, decide_eq_true_eq, bne_iff_ne, ne_eq] at hok
                  obtain ⟨⟨⟨⟨⟨⟨q1, q2⟩, q3⟩, q4⟩, q5⟩, q6⟩, q7⟩ := hok
                  have hx : mNm k2 = x := by simpa using List.all_eq_true.mp q5 _ hm
                  rw [← hx] at q1 q2 q3 q4 q6 q7
                  exact va_runSU (C := rv.1) hcat (fix_of X) hM ⟨⟨rfl, rfl, p1, p2, pay_in hts (good_ws hk2), List.mem_cons_self⟩, hts _ (isT_TB q1), hts _ (isT_TB q2), hts _ (isT_TB q3), hts _ (isT_TB q4), hts _ m3, hts _ m1, q7, npr_len q6⟩ (preV_of X hH hC hr) rfl (by simp at hlen ⊢; omega) hsz hst2 (hW_of w1) hd ⟨hc, hsl⟩
                · have hok : (isT (wd.getD 0 0) (.methodLink (ow (mOw k)) z x) && isT (wd.getD 1 0) (.sameMethod x.cls s0 x.name x.desc) && isT (wd.getD 2 0) (.superclass (ow (mOw k)) x.cls) && isT (wd.getD 3 0) (.superclass x.cls s0) && isT (wd.getD 4 0) (.instanceMethod ⟨s0, x.name, x.desc⟩) && al.all (fun a => decide (mNm a.2.1 = ⟨s0, x.name, x.desc⟩)) && decide (npr x.desc = some na) && (x.name != "<init>")) = true := vt_at hl
                  simp only [Bool.and_eq_true, decide_eq_true_eq, bne_iff_ne, ne_eq] at hok
                  obtain ⟨⟨⟨⟨⟨⟨⟨q1, q2⟩, q3⟩, q4⟩, q5⟩, q6⟩, q7⟩, q8⟩ := hok
                  have hx : mNm k2 = ⟨s0, x.name, x.desc⟩ := by simpa using List.all_eq_true.mp q6 _ hm
                  have hc1 : s0 = (mNm k2).cls := by rw [hx]
                  rw [← hx] at q5
                  rw [hc1] at q2 q4
                  exact va_run9 (C := rv.1) (x := x) hcat (fix_of X) hM rfl rfl p1 p2 (pay_in hts (good_ws hk2)) List.mem_cons_self (hts _ m1) (hts _ m3) (hts _ (isT_TB q1)) (hts _ (isT_TB q2)) (hts _ (isT_TB q3)) (hts _ (isT_TB q4)) (hts _ (isT_TB q5)) q8 (by rw [← hc1]; exact hx) (npr_len q7) (preV_of X hH hC hr) rfl (by simp at hlen ⊢; omega) hsz hst2 (hW_of w1) hd ⟨hc, hsl⟩
theorem call_snd (hs : stp k pc ls st h = some (.inr (.inr (k2, as', pc', st')))) : k2 < 168 ∧ ∀ (r1 : Option Value) (h1 : Hp) (r : Option Value) (h' : Hp), VK l k2 0 as' [] h r1 h1 → VK l k pc' ls (r1.toList ++ st') h1 r h' → VK l k pc ls st h r h' := by
  unfold stp at hs
  split at hs
  case h_2 => cases hs
  case h_1 ins len hd =>
    cases ins with
    | invokestatic z => exact c_is hd hs
    | invokevirtual z => exact c_iv hd hs
    | invokespecial z => exact c_ip hd hs
    | _ =>
      exfalso
      simp only [exec, o1, go, x_lo, x_st, x_ii, x_ll, x_u, x_inc, x_lsh, x_cmp, x_dup, x_dx1, x_dup2, x_pop, jmp, x_if, x_ic, x_nu, x_ts, x_get, x_put, x_ald, x_ast, x_len, x_newa, x_anew, x_mna, x_new, x_io, x_ret] at hs
      repeat' (first | (cases hs; done) | split at hs | (simp only [Option.bind_eq_some_iff] at hs; obtain ⟨_, _, hs⟩ := hs))
/-- SOUNDNESS: what the abstract machine's run gives, the real one's gives -/
theorem run_snd (l : Launch) : ∀ (f k pc : Nat) (ls : Lo) (st : List Value) (h : Hp) (r : Option Value) (h' : Hp), arun f k pc ls st h = some (r, h') → VK l k pc ls st h r h'
  | 0, _, _, _, _, _, _, _, e => by cases e
  | f + 1, k, pc, ls, st, h, r, h', e => by
    unfold arun at e
    cases hs : stp k pc ls st h with
    | none => rw [hs] at e; cases e
    | some a =>
      rw [hs] at e
      match a, hs, e with
      | .inl (pc', ls', st', h1), hs, e =>
        obtain ⟨⟨g1, g2, g3⟩, g4⟩ := go_snd hs
        obtain ⟨⟨i1, i2⟩, i3⟩ := run_snd l f k pc' ls' st' h1 r h' e
        exact ⟨⟨Nat.le_trans g1 i1, Nat.le_trans g2 i2⟩, fun D dA base n0 sl0 p ev R s m args below meth c X hc hsl => g4 D dA base n0 sl0 p l ev R s m args below meth c _ X (by omega) (by omega) (i3 D dA base n0 sl0 p ev R s m args below meth c X hc hsl)⟩
      | .inr (.inl r0), hs, e =>
        cases e
        exact ⟨⟨Nat.le_refl _, Nat.le_refl _⟩, fun D dA base n0 sl0 p ev R s m args below meth c X _ _ => ret_snd hs D dA base n0 sl0 p l ev R s m args below meth c X⟩
      | .inr (.inr (k2, as', pc', st')), hs, e =>
        dsimp only at e
        cases hc : arun f k2 0 as' [] h with
        | none => rw [hc] at e; cases e
        | some w =>
          rw [hc] at e
          obtain ⟨r1, h1⟩ := w
          exact (call_snd hs).2 r1 h1 r h' (run_snd l f k2 0 as' [] h r1 h1 hc) (run_snd l f k pc' ls (r1.toList ++ st') h1 r h' e)
end CALLS
end
