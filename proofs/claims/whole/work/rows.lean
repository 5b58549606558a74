section
-- ===== PART A: goes FIRST, ahead of the names: the tables' words, and 'selects' of the private methods out of them =====
/-- a private method of a class that the tables say can be made, by its rows of tables_1 -/
def lw_okq (q : MethodName × Nat) : Prop := (q.1.cls ≠ "java/lang/invoke/MethodHandle" ∧ q.1.cls ≠ "java/lang/invoke/VarHandle") ∧ Cond.instantiable q.1.cls q.2 ∈ tables_1 ∧ Cond.privateMethod q.1 ∈ tables_1 ∧ Cond.instanceMethod q.1 ∈ tables_1
theorem lw_p0 : lw_okq (⟨"MirroredTalks", "remember", "()V"⟩, 9) := ⟨⟨by decide +kernel, by decide +kernel⟩, List.mem_of_getElem? (i := 16) (by decide +kernel), List.mem_of_getElem? (i := 216) (by decide +kernel), List.mem_of_getElem? (i := 217) (by decide +kernel)⟩
theorem lw_p1 : lw_okq (⟨"MirroredTalks", "planAt", "(I)LMirroredTalks$Plan;"⟩, 9) := ⟨⟨by decide +kernel, by decide +kernel⟩, List.mem_of_getElem? (i := 16) (by decide +kernel), List.mem_of_getElem? (i := 232) (by decide +kernel), List.mem_of_getElem? (i := 233) (by decide +kernel)⟩
theorem lw_p2 : lw_okq (⟨"MirroredTalks$Likeness", "part", "(LMirroredTalks$Plan;)V"⟩, 1) := ⟨⟨by decide +kernel, by decide +kernel⟩, List.mem_of_getElem? (i := 96) (by decide +kernel), List.mem_of_getElem? (i := 301) (by decide +kernel), List.mem_of_getElem? (i := 302) (by decide +kernel)⟩
theorem lw_p3 : lw_okq (⟨"MirroredTalks$Likeness", "leadsAlike", "(LMirroredTalks$Plan;II)Z"⟩, 1) := ⟨⟨by decide +kernel, by decide +kernel⟩, List.mem_of_getElem? (i := 96) (by decide +kernel), List.mem_of_getElem? (i := 305) (by decide +kernel), List.mem_of_getElem? (i := 306) (by decide +kernel)⟩
theorem lw_p4 : lw_okq (⟨"MirroredTalks$Likeness", "areAlike", "(II)Z"⟩, 1) := ⟨⟨by decide +kernel, by decide +kernel⟩, List.mem_of_getElem? (i := 96) (by decide +kernel), List.mem_of_getElem? (i := 310) (by decide +kernel), List.mem_of_getElem? (i := 311) (by decide +kernel)⟩
theorem lw_p5 : lw_okq (⟨"MirroredTalks$Plan", "statesBehind", "(I)I"⟩, 1) := ⟨⟨by decide +kernel, by decide +kernel⟩, List.mem_of_getElem? (i := 24) (by decide +kernel), List.mem_of_getElem? (i := 326) (by decide +kernel), List.mem_of_getElem? (i := 327) (by decide +kernel)⟩
theorem lw_p6 : lw_okq (⟨"MirroredTalks$RowCount", "countWays", "(LMirroredTalks$TalkPairs;)V"⟩, 4) := ⟨⟨by decide +kernel, by decide +kernel⟩, List.mem_of_getElem? (i := 141) (by decide +kernel), List.mem_of_getElem? (i := 511) (by decide +kernel), List.mem_of_getElem? (i := 512) (by decide +kernel)⟩
theorem lw_p7 : lw_okq (⟨"MirroredTalks$RowCount", "setReady", "(I)V"⟩, 4) := ⟨⟨by decide +kernel, by decide +kernel⟩, List.mem_of_getElem? (i := 141) (by decide +kernel), List.mem_of_getElem? (i := 529) (by decide +kernel), List.mem_of_getElem? (i := 530) (by decide +kernel)⟩
theorem lw_p8 : lw_okq (⟨"MirroredTalks$RowCount", "rowsTo", "(I)J"⟩, 4) := ⟨⟨by decide +kernel, by decide +kernel⟩, List.mem_of_getElem? (i := 141) (by decide +kernel), List.mem_of_getElem? (i := 534) (by decide +kernel), List.mem_of_getElem? (i := 535) (by decide +kernel)⟩
theorem lw_p9 : lw_okq (⟨"MirroredTalks$RowCount", "goAlong", "(IJ)V"⟩, 4) := ⟨⟨by decide +kernel, by decide +kernel⟩, List.mem_of_getElem? (i := 141) (by decide +kernel), List.mem_of_getElem? (i := 545) (by decide +kernel), List.mem_of_getElem? (i := 546) (by decide +kernel)⟩
theorem lw_p10 : lw_okq (⟨"MirroredTalks$PlanText", "setFault", "(III)V"⟩, 7) := ⟨⟨by decide +kernel, by decide +kernel⟩, List.mem_of_getElem? (i := 66) (by decide +kernel), List.mem_of_getElem? (i := 664) (by decide +kernel), List.mem_of_getElem? (i := 665) (by decide +kernel)⟩
theorem lw_p11 : lw_okq (⟨"MirroredTalks$PlanText", "characterAt", "(I)I"⟩, 7) := ⟨⟨by decide +kernel, by decide +kernel⟩, List.mem_of_getElem? (i := 66) (by decide +kernel), List.mem_of_getElem? (i := 672) (by decide +kernel), List.mem_of_getElem? (i := 673) (by decide +kernel)⟩
theorem lw_p12 : lw_okq (⟨"MirroredTalks$PlanText", "takeState", "(II)V"⟩, 7) := ⟨⟨by decide +kernel, by decide +kernel⟩, List.mem_of_getElem? (i := 66) (by decide +kernel), List.mem_of_getElem? (i := 682) (by decide +kernel), List.mem_of_getElem? (i := 683) (by decide +kernel)⟩
theorem lw_p13 : lw_okq (⟨"MirroredTalksModel", "records", "()V"⟩, 25) := ⟨⟨by decide +kernel, by decide +kernel⟩, List.mem_of_getElem? (i := 716) (by decide +kernel), List.mem_of_getElem? (i := 813) (by decide +kernel), List.mem_of_getElem? (i := 814) (by decide +kernel)⟩
theorem lw_p14 : lw_okq (⟨"MirroredTalksModel", "kindOf", "(II)I"⟩, 25) := ⟨⟨by decide +kernel, by decide +kernel⟩, List.mem_of_getElem? (i := 716) (by decide +kernel), List.mem_of_getElem? (i := 817) (by decide +kernel), List.mem_of_getElem? (i := 818) (by decide +kernel)⟩
theorem lw_p15 : lw_okq (⟨"MirroredTalksModel", "words", "(II)I"⟩, 25) := ⟨⟨by decide +kernel, by decide +kernel⟩, List.mem_of_getElem? (i := 716) (by decide +kernel), List.mem_of_getElem? (i := 831) (by decide +kernel), List.mem_of_getElem? (i := 832) (by decide +kernel)⟩
def lw_privs_1 : List (MethodName × Nat) := [(⟨"MirroredTalks", "remember", "()V"⟩, 9), (⟨"MirroredTalks", "planAt", "(I)LMirroredTalks$Plan;"⟩, 9), (⟨"MirroredTalks$Likeness", "part", "(LMirroredTalks$Plan;)V"⟩, 1), (⟨"MirroredTalks$Likeness", "leadsAlike", "(LMirroredTalks$Plan;II)Z"⟩, 1), (⟨"MirroredTalks$Likeness", "areAlike", "(II)Z"⟩, 1), (⟨"MirroredTalks$Plan", "statesBehind", "(I)I"⟩, 1), (⟨"MirroredTalks$RowCount", "countWays", "(LMirroredTalks$TalkPairs;)V"⟩, 4), (⟨"MirroredTalks$RowCount", "setReady", "(I)V"⟩, 4), (⟨"MirroredTalks$RowCount", "rowsTo", "(I)J"⟩, 4), (⟨"MirroredTalks$RowCount", "goAlong", "(IJ)V"⟩, 4), (⟨"MirroredTalks$PlanText", "setFault", "(III)V"⟩, 7), (⟨"MirroredTalks$PlanText", "characterAt", "(I)I"⟩, 7), (⟨"MirroredTalks$PlanText", "takeState", "(II)V"⟩, 7), (⟨"MirroredTalksModel", "records", "()V"⟩, 25), (⟨"MirroredTalksModel", "kindOf", "(II)I"⟩, 25), (⟨"MirroredTalksModel", "words", "(II)I"⟩, 25)]
theorem lw_r1 : ∀ q ∈ lw_privs_1, lw_okq q := List.forall_mem_cons.mpr ⟨lw_p0, List.forall_mem_cons.mpr ⟨lw_p1, List.forall_mem_cons.mpr ⟨lw_p2, List.forall_mem_cons.mpr ⟨lw_p3, List.forall_mem_cons.mpr ⟨lw_p4, List.forall_mem_cons.mpr ⟨lw_p5, List.forall_mem_cons.mpr ⟨lw_p6, List.forall_mem_cons.mpr ⟨lw_p7, List.forall_mem_cons.mpr ⟨lw_p8, List.forall_mem_cons.mpr ⟨lw_p9, List.forall_mem_cons.mpr ⟨lw_p10, List.forall_mem_cons.mpr ⟨lw_p11, List.forall_mem_cons.mpr ⟨lw_p12, List.forall_mem_cons.mpr ⟨lw_p13, List.forall_mem_cons.mpr ⟨lw_p14, List.forall_mem_cons.mpr ⟨lw_p15, fun _ h => absurd h List.not_mem_nil⟩⟩⟩⟩⟩⟩⟩⟩⟩⟩⟩⟩⟩⟩⟩⟩
theorem lw_p16 : lw_okq (⟨"MirroredTalksModel", "led", "(III)I"⟩, 25) := ⟨⟨by decide +kernel, by decide +kernel⟩, List.mem_of_getElem? (i := 716) (by decide +kernel), List.mem_of_getElem? (i := 835) (by decide +kernel), List.mem_of_getElem? (i := 836) (by decide +kernel)⟩
theorem lw_p17 : lw_okq (⟨"MirroredTalksModel", "going", "(I)I"⟩, 25) := ⟨⟨by decide +kernel, by decide +kernel⟩, List.mem_of_getElem? (i := 716) (by decide +kernel), List.mem_of_getElem? (i := 851) (by decide +kernel), List.mem_of_getElem? (i := 852) (by decide +kernel)⟩
theorem lw_p18 : lw_okq (⟨"MirroredTalksModel", "alikeTo", "(II)I"⟩, 25) := ⟨⟨by decide +kernel, by decide +kernel⟩, List.mem_of_getElem? (i := 716) (by decide +kernel), List.mem_of_getElem? (i := 863) (by decide +kernel), List.mem_of_getElem? (i := 864) (by decide +kernel)⟩
theorem lw_p19 : lw_okq (⟨"MirroredTalksModel", "findAlike", "(I)V"⟩, 25) := ⟨⟨by decide +kernel, by decide +kernel⟩, List.mem_of_getElem? (i := 716) (by decide +kernel), List.mem_of_getElem? (i := 867) (by decide +kernel), List.mem_of_getElem? (i := 868) (by decide +kernel)⟩
theorem lw_p20 : lw_okq (⟨"MirroredTalksModel", "haveSame", "(III)Z"⟩, 25) := ⟨⟨by decide +kernel, by decide +kernel⟩, List.mem_of_getElem? (i := 716) (by decide +kernel), List.mem_of_getElem? (i := 871) (by decide +kernel), List.mem_of_getElem? (i := 872) (by decide +kernel)⟩
theorem lw_p21 : lw_okq (⟨"MirroredTalksModel", "leadAlike", "(III)Z"⟩, 25) := ⟨⟨by decide +kernel, by decide +kernel⟩, List.mem_of_getElem? (i := 716) (by decide +kernel), List.mem_of_getElem? (i := 875) (by decide +kernel), List.mem_of_getElem? (i := 876) (by decide +kernel)⟩
theorem lw_p22 : lw_okq (⟨"MirroredTalksModel", "leads", "(III)I"⟩, 25) := ⟨⟨by decide +kernel, by decide +kernel⟩, List.mem_of_getElem? (i := 716) (by decide +kernel), List.mem_of_getElem? (i := 879) (by decide +kernel), List.mem_of_getElem? (i := 880) (by decide +kernel)⟩
theorem lw_p23 : lw_okq (⟨"MirroredTalksModel", "reached", "(II)I"⟩, 25) := ⟨⟨by decide +kernel, by decide +kernel⟩, List.mem_of_getElem? (i := 716) (by decide +kernel), List.mem_of_getElem? (i := 886) (by decide +kernel), List.mem_of_getElem? (i := 887) (by decide +kernel)⟩
theorem lw_p24 : lw_okq (⟨"MirroredTalksModel", "goThrough", "(IIZ)V"⟩, 25) := ⟨⟨by decide +kernel, by decide +kernel⟩, List.mem_of_getElem? (i := 716) (by decide +kernel), List.mem_of_getElem? (i := 902) (by decide +kernel), List.mem_of_getElem? (i := 903) (by decide +kernel)⟩
theorem lw_p25 : lw_okq (⟨"MirroredTalksModel", "finds", "(III)V"⟩, 25) := ⟨⟨by decide +kernel, by decide +kernel⟩, List.mem_of_getElem? (i := 716) (by decide +kernel), List.mem_of_getElem? (i := 906) (by decide +kernel), List.mem_of_getElem? (i := 907) (by decide +kernel)⟩
theorem lw_p26 : lw_okq (⟨"MirroredTalksModel", "follows", "(IIIIZ)I"⟩, 25) := ⟨⟨by decide +kernel, by decide +kernel⟩, List.mem_of_getElem? (i := 716) (by decide +kernel), List.mem_of_getElem? (i := 910) (by decide +kernel), List.mem_of_getElem? (i := 911) (by decide +kernel)⟩
theorem lw_p27 : lw_okq (⟨"MirroredTalksModel", "behind", "(IIII)I"⟩, 25) := ⟨⟨by decide +kernel, by decide +kernel⟩, List.mem_of_getElem? (i := 716) (by decide +kernel), List.mem_of_getElem? (i := 917) (by decide +kernel), List.mem_of_getElem? (i := 918) (by decide +kernel)⟩
theorem lw_p28 : lw_okq (⟨"MirroredTalksModel", "firstStuck", "(II)I"⟩, 25) := ⟨⟨by decide +kernel, by decide +kernel⟩, List.mem_of_getElem? (i := 716) (by decide +kernel), List.mem_of_getElem? (i := 921) (by decide +kernel), List.mem_of_getElem? (i := 922) (by decide +kernel)⟩
theorem lw_p29 : lw_okq (⟨"MirroredTalksModel", "why", "(III)I"⟩, 25) := ⟨⟨by decide +kernel, by decide +kernel⟩, List.mem_of_getElem? (i := 716) (by decide +kernel), List.mem_of_getElem? (i := 925) (by decide +kernel), List.mem_of_getElem? (i := 926) (by decide +kernel)⟩
theorem lw_p30 : lw_okq (⟨"MirroredTalksModel", "missing", "(III)I"⟩, 25) := ⟨⟨by decide +kernel, by decide +kernel⟩, List.mem_of_getElem? (i := 716) (by decide +kernel), List.mem_of_getElem? (i := 929) (by decide +kernel), List.mem_of_getElem? (i := 930) (by decide +kernel)⟩
theorem lw_p31 : lw_okq (⟨"MirroredTalksModel", "wordOf", "(II)I"⟩, 25) := ⟨⟨by decide +kernel, by decide +kernel⟩, List.mem_of_getElem? (i := 716) (by decide +kernel), List.mem_of_getElem? (i := 936) (by decide +kernel), List.mem_of_getElem? (i := 937) (by decide +kernel)⟩
def lw_privs_2 : List (MethodName × Nat) := [(⟨"MirroredTalksModel", "led", "(III)I"⟩, 25), (⟨"MirroredTalksModel", "going", "(I)I"⟩, 25), (⟨"MirroredTalksModel", "alikeTo", "(II)I"⟩, 25), (⟨"MirroredTalksModel", "findAlike", "(I)V"⟩, 25), (⟨"MirroredTalksModel", "haveSame", "(III)Z"⟩, 25), (⟨"MirroredTalksModel", "leadAlike", "(III)Z"⟩, 25), (⟨"MirroredTalksModel", "leads", "(III)I"⟩, 25), (⟨"MirroredTalksModel", "reached", "(II)I"⟩, 25), (⟨"MirroredTalksModel", "goThrough", "(IIZ)V"⟩, 25), (⟨"MirroredTalksModel", "finds", "(III)V"⟩, 25), (⟨"MirroredTalksModel", "follows", "(IIIIZ)I"⟩, 25), (⟨"MirroredTalksModel", "behind", "(IIII)I"⟩, 25), (⟨"MirroredTalksModel", "firstStuck", "(II)I"⟩, 25), (⟨"MirroredTalksModel", "why", "(III)I"⟩, 25), (⟨"MirroredTalksModel", "missing", "(III)I"⟩, 25), (⟨"MirroredTalksModel", "wordOf", "(II)I"⟩, 25)]
theorem lw_r2 : ∀ q ∈ lw_privs_2, lw_okq q := List.forall_mem_cons.mpr ⟨lw_p16, List.forall_mem_cons.mpr ⟨lw_p17, List.forall_mem_cons.mpr ⟨lw_p18, List.forall_mem_cons.mpr ⟨lw_p19, List.forall_mem_cons.mpr ⟨lw_p20, List.forall_mem_cons.mpr ⟨lw_p21, List.forall_mem_cons.mpr ⟨lw_p22, List.forall_mem_cons.mpr ⟨lw_p23, List.forall_mem_cons.mpr ⟨lw_p24, List.forall_mem_cons.mpr ⟨lw_p25, List.forall_mem_cons.mpr ⟨lw_p26, List.forall_mem_cons.mpr ⟨lw_p27, List.forall_mem_cons.mpr ⟨lw_p28, List.forall_mem_cons.mpr ⟨lw_p29, List.forall_mem_cons.mpr ⟨lw_p30, List.forall_mem_cons.mpr ⟨lw_p31, fun _ h => absurd h List.not_mem_nil⟩⟩⟩⟩⟩⟩⟩⟩⟩⟩⟩⟩⟩⟩⟩⟩
theorem lw_p32 : lw_okq (⟨"MirroredTalksModel", "stuckOnes", "(II)I"⟩, 25) := ⟨⟨by decide +kernel, by decide +kernel⟩, List.mem_of_getElem? (i := 716) (by decide +kernel), List.mem_of_getElem? (i := 944) (by decide +kernel), List.mem_of_getElem? (i := 945) (by decide +kernel)⟩
theorem lw_p33 : lw_okq (⟨"MirroredTalksModel", "ends", "(II)I"⟩, 25) := ⟨⟨by decide +kernel, by decide +kernel⟩, List.mem_of_getElem? (i := 716) (by decide +kernel), List.mem_of_getElem? (i := 948) (by decide +kernel), List.mem_of_getElem? (i := 949) (by decide +kernel)⟩
theorem lw_p34 : lw_okq (⟨"MirroredTalksModel", "isEnd", "(III)Z"⟩, 25) := ⟨⟨by decide +kernel, by decide +kernel⟩, List.mem_of_getElem? (i := 716) (by decide +kernel), List.mem_of_getElem? (i := 952) (by decide +kernel), List.mem_of_getElem? (i := 953) (by decide +kernel)⟩
theorem lw_p35 : lw_okq (⟨"MirroredTalksModel", "countsAll", "(II)Z"⟩, 25) := ⟨⟨by decide +kernel, by decide +kernel⟩, List.mem_of_getElem? (i := 716) (by decide +kernel), List.mem_of_getElem? (i := 956) (by decide +kernel), List.mem_of_getElem? (i := 957) (by decide +kernel)⟩
theorem lw_p36 : lw_okq (⟨"MirroredTalksModel", "counts", "(III)Z"⟩, 25) := ⟨⟨by decide +kernel, by decide +kernel⟩, List.mem_of_getElem? (i := 716) (by decide +kernel), List.mem_of_getElem? (i := 960) (by decide +kernel), List.mem_of_getElem? (i := 961) (by decide +kernel)⟩
theorem lw_p37 : lw_okq (⟨"MirroredTalksModel", "fewest", "(II)I"⟩, 25) := ⟨⟨by decide +kernel, by decide +kernel⟩, List.mem_of_getElem? (i := 716) (by decide +kernel), List.mem_of_getElem? (i := 966) (by decide +kernel), List.mem_of_getElem? (i := 967) (by decide +kernel)⟩
theorem lw_p38 : lw_okq (⟨"MirroredTalksModel", "comeTo", "(Z)I"⟩, 25) := ⟨⟨by decide +kernel, by decide +kernel⟩, List.mem_of_getElem? (i := 716) (by decide +kernel), List.mem_of_getElem? (i := 970) (by decide +kernel), List.mem_of_getElem? (i := 971) (by decide +kernel)⟩
theorem lw_p39 : lw_okq (⟨"MirroredTalksModel", "canStand", "(II)I"⟩, 25) := ⟨⟨by decide +kernel, by decide +kernel⟩, List.mem_of_getElem? (i := 716) (by decide +kernel), List.mem_of_getElem? (i := 985) (by decide +kernel), List.mem_of_getElem? (i := 986) (by decide +kernel)⟩
theorem lw_p40 : lw_okq (⟨"MirroredTalksModel", "firstAgainst", "(II)I"⟩, 25) := ⟨⟨by decide +kernel, by decide +kernel⟩, List.mem_of_getElem? (i := 716) (by decide +kernel), List.mem_of_getElem? (i := 989) (by decide +kernel), List.mem_of_getElem? (i := 990) (by decide +kernel)⟩
theorem lw_p41 : lw_okq (⟨"MirroredTalksModel", "whyNot", "(III)I"⟩, 25) := ⟨⟨by decide +kernel, by decide +kernel⟩, List.mem_of_getElem? (i := 716) (by decide +kernel), List.mem_of_getElem? (i := 993) (by decide +kernel), List.mem_of_getElem? (i := 994) (by decide +kernel)⟩
theorem lw_p42 : lw_okq (⟨"MirroredTalksModel", "wanted", "(III)I"⟩, 25) := ⟨⟨by decide +kernel, by decide +kernel⟩, List.mem_of_getElem? (i := 716) (by decide +kernel), List.mem_of_getElem? (i := 997) (by decide +kernel), List.mem_of_getElem? (i := 998) (by decide +kernel)⟩
theorem lw_p43 : lw_okq (⟨"MirroredTalksModel", "wantedThen", "(III)I"⟩, 25) := ⟨⟨by decide +kernel, by decide +kernel⟩, List.mem_of_getElem? (i := 716) (by decide +kernel), List.mem_of_getElem? (i := 1005) (by decide +kernel), List.mem_of_getElem? (i := 1006) (by decide +kernel)⟩
theorem lw_p44 : lw_okq (⟨"MirroredTalksModel", "arrows", "()I"⟩, 25) := ⟨⟨by decide +kernel, by decide +kernel⟩, List.mem_of_getElem? (i := 716) (by decide +kernel), List.mem_of_getElem? (i := 1013) (by decide +kernel), List.mem_of_getElem? (i := 1014) (by decide +kernel)⟩
theorem lw_p45 : lw_okq (⟨"MirroredTalksModel", "faulty", "()I"⟩, 25) := ⟨⟨by decide +kernel, by decide +kernel⟩, List.mem_of_getElem? (i := 716) (by decide +kernel), List.mem_of_getElem? (i := 1034) (by decide +kernel), List.mem_of_getElem? (i := 1035) (by decide +kernel)⟩
theorem lw_p46 : lw_okq (⟨"MirroredTalksModel", "readState", "()I"⟩, 25) := ⟨⟨by decide +kernel, by decide +kernel⟩, List.mem_of_getElem? (i := 716) (by decide +kernel), List.mem_of_getElem? (i := 1038) (by decide +kernel), List.mem_of_getElem? (i := 1039) (by decide +kernel)⟩
theorem lw_p47 : lw_okq (⟨"MirroredTalksModel", "takes", "(II)Z"⟩, 25) := ⟨⟨by decide +kernel, by decide +kernel⟩, List.mem_of_getElem? (i := 716) (by decide +kernel), List.mem_of_getElem? (i := 1042) (by decide +kernel), List.mem_of_getElem? (i := 1043) (by decide +kernel)⟩
def lw_privs_3 : List (MethodName × Nat) := [(⟨"MirroredTalksModel", "stuckOnes", "(II)I"⟩, 25), (⟨"MirroredTalksModel", "ends", "(II)I"⟩, 25), (⟨"MirroredTalksModel", "isEnd", "(III)Z"⟩, 25), (⟨"MirroredTalksModel", "countsAll", "(II)Z"⟩, 25), (⟨"MirroredTalksModel", "counts", "(III)Z"⟩, 25), (⟨"MirroredTalksModel", "fewest", "(II)I"⟩, 25), (⟨"MirroredTalksModel", "comeTo", "(Z)I"⟩, 25), (⟨"MirroredTalksModel", "canStand", "(II)I"⟩, 25), (⟨"MirroredTalksModel", "firstAgainst", "(II)I"⟩, 25), (⟨"MirroredTalksModel", "whyNot", "(III)I"⟩, 25), (⟨"MirroredTalksModel", "wanted", "(III)I"⟩, 25), (⟨"MirroredTalksModel", "wantedThen", "(III)I"⟩, 25), (⟨"MirroredTalksModel", "arrows", "()I"⟩, 25), (⟨"MirroredTalksModel", "faulty", "()I"⟩, 25), (⟨"MirroredTalksModel", "readState", "()I"⟩, 25), (⟨"MirroredTalksModel", "takes", "(II)Z"⟩, 25)]
theorem lw_r3 : ∀ q ∈ lw_privs_3, lw_okq q := List.forall_mem_cons.mpr ⟨lw_p32, List.forall_mem_cons.mpr ⟨lw_p33, List.forall_mem_cons.mpr ⟨lw_p34, List.forall_mem_cons.mpr ⟨lw_p35, List.forall_mem_cons.mpr ⟨lw_p36, List.forall_mem_cons.mpr ⟨lw_p37, List.forall_mem_cons.mpr ⟨lw_p38, List.forall_mem_cons.mpr ⟨lw_p39, List.forall_mem_cons.mpr ⟨lw_p40, List.forall_mem_cons.mpr ⟨lw_p41, List.forall_mem_cons.mpr ⟨lw_p42, List.forall_mem_cons.mpr ⟨lw_p43, List.forall_mem_cons.mpr ⟨lw_p44, List.forall_mem_cons.mpr ⟨lw_p45, List.forall_mem_cons.mpr ⟨lw_p46, List.forall_mem_cons.mpr ⟨lw_p47, fun _ h => absurd h List.not_mem_nil⟩⟩⟩⟩⟩⟩⟩⟩⟩⟩⟩⟩⟩⟩⟩⟩
theorem lw_p48 : lw_okq (⟨"MirroredTalksModel", "breaksOff", "()I"⟩, 25) := ⟨⟨by decide +kernel, by decide +kernel⟩, List.mem_of_getElem? (i := 716) (by decide +kernel), List.mem_of_getElem? (i := 1046) (by decide +kernel), List.mem_of_getElem? (i := 1047) (by decide +kernel)⟩
theorem lw_p49 : lw_okq (⟨"MirroredTalksModel", "kindTaken", "()I"⟩, 25) := ⟨⟨by decide +kernel, by decide +kernel⟩, List.mem_of_getElem? (i := 716) (by decide +kernel), List.mem_of_getElem? (i := 1050) (by decide +kernel), List.mem_of_getElem? (i := 1051) (by decide +kernel)⟩
theorem lw_p50 : lw_okq (⟨"MirroredTalksModel", "takesArrows", "()Z"⟩, 25) := ⟨⟨by decide +kernel, by decide +kernel⟩, List.mem_of_getElem? (i := 716) (by decide +kernel), List.mem_of_getElem? (i := 1054) (by decide +kernel), List.mem_of_getElem? (i := 1055) (by decide +kernel)⟩
theorem lw_p51 : lw_okq (⟨"MirroredTalksModel", "twice", "()I"⟩, 25) := ⟨⟨by decide +kernel, by decide +kernel⟩, List.mem_of_getElem? (i := 716) (by decide +kernel), List.mem_of_getElem? (i := 1058) (by decide +kernel), List.mem_of_getElem? (i := 1059) (by decide +kernel)⟩
def lw_privs_4 : List (MethodName × Nat) := [(⟨"MirroredTalksModel", "breaksOff", "()I"⟩, 25), (⟨"MirroredTalksModel", "kindTaken", "()I"⟩, 25), (⟨"MirroredTalksModel", "takesArrows", "()Z"⟩, 25), (⟨"MirroredTalksModel", "twice", "()I"⟩, 25)]
theorem lw_r4 : ∀ q ∈ lw_privs_4, lw_okq q := List.forall_mem_cons.mpr ⟨lw_p48, List.forall_mem_cons.mpr ⟨lw_p49, List.forall_mem_cons.mpr ⟨lw_p50, List.forall_mem_cons.mpr ⟨lw_p51, fun _ h => absurd h List.not_mem_nil⟩⟩⟩⟩
def lw_privs : List (MethodName × Nat) := lw_privs_1 ++ (lw_privs_2 ++ (lw_privs_3 ++ (lw_privs_4)))
def lw_tbl : List Cond := k2_sels lw_privs ++ tables_1
theorem lw_privs_ok : ∀ q ∈ lw_privs, lw_okq q := by
  show ∀ q ∈ lw_privs_1 ++ (lw_privs_2 ++ (lw_privs_3 ++ (lw_privs_4))), lw_okq q
  exact List.forall_mem_append.mpr ⟨lw_r1, List.forall_mem_append.mpr ⟨lw_r2, List.forall_mem_append.mpr ⟨lw_r3, lw_r4⟩⟩⟩
-- ===== end of PART A; then your names; then what follows =====
/-! ===== BEGIN words of one list among another's, by their places ===== -/
theorem goodIn_r {big : List Cond} (ws : List Cond) (ps : List Nat) (hp : ws = ps.filterMap (fun i => big[i]?)) (h : ws.all goodWord = true) : GoodIn big ws := by
  intro w hw
  have h1 := List.all_eq_true.mp h w hw
  rw [hp] at hw
  obtain ⟨i, -, hi⟩ := List.mem_filterMap.mp hw
  have hm : w ∈ big := by first | exact List.mem_of_getElem? hi | exact List.getElem?_mem hi
  exact ⟨hm, good_of_word h1⟩
theorem goodIn_app {big a b : List Cond} (ha : GoodIn big a) (hb : GoodIn big b) : GoodIn big (a ++ b) := fun w h => (List.mem_append.mp h).elim (ha w) (hb w)
theorem goodIn_ca {big a b : List Cond} {c : Cond} (ha : GoodIn big (c :: a)) (hb : GoodIn big b) : GoodIn big (c :: (a ++ b)) := fun w h => (List.mem_cons.mp h).elim (fun e => ha w (List.mem_cons.mpr (Or.inl e))) (fun h => (List.mem_append.mp h).elim (fun h => ha w (List.mem_cons.mpr (Or.inr h))) (hb w))
theorem goodIn_sub {big ws : List Cond} (hm : ∀ w ∈ ws, w ∈ big) (h : ws.all goodWord = true) : GoodIn big ws := fun w hw => ⟨hm w hw, good_of_word (List.all_eq_true.mp h w hw)⟩
/-! ===== END ===== -/

/-! ===== BEGIN printed: names, fields, word lists, decode rows ===== -/
def RX0 : String := "MirroredTalks$History"
def TX0 : u_T := fun k => match k with
  | 0 => ("MirroredTalks$History", "entries", "[I", true)
  | _ => ("MirroredTalks$History", "size", "I", false)
def tyX0 : Nat → FieldType := fun k => match k with
  | 0 => .array .int
  | _ => .int
abbrev wsX00 : List Cond := u_ws RX0 TX0 2
theorem nmX0 : ∀ a, a < 2 → ∀ b, b < 2 → a ≠ b → (TX0 a).2.1 ≠ (TX0 b).2.1 := by decide +kernel
theorem tyX0_ok : ∀ k, k < 2 → parseFieldDescriptor (TX0 k).2.2.1 = some (tyX0 k) := by decide +kernel
abbrev cX0_init : ByteArray := prog_2_method_1_code
def yX0_init : MethodName := ⟨RX0, "<init>", "()V"⟩
abbrev cX0_size : ByteArray := prog_2_method_2_code
def yX0_size : MethodName := ⟨RX0, "size", "()I"⟩
abbrev cX0_record : ByteArray := prog_2_method_3_code
def yX0_record : MethodName := ⟨RX0, "record", "(LMirroredTalks$Plan;LMirroredTalks$Plan;LMirroredTalks$Plan;)V"⟩
abbrev cX0_restore : ByteArray := prog_2_method_4_code
def yX0_restore : MethodName := ⟨RX0, "restore", "(LMirroredTalks$Plan;LMirroredTalks$Plan;LMirroredTalks$Plan;)V"⟩
def RX1 : String := "MirroredTalks$Likeness"
def TX1 : u_T := fun k => match k with
  | _ => ("MirroredTalks$Likeness", "alike", "[Z", true)
def tyX1 : Nat → FieldType := fun k => match k with
  | _ => .array .boolean
abbrev wsX10 : List Cond := u_ws RX1 TX1 1
theorem nmX1 : ∀ a, a < 1 → ∀ b, b < 1 → a ≠ b → (TX1 a).2.1 ≠ (TX1 b).2.1 := by decide +kernel
theorem tyX1_ok : ∀ k, k < 1 → parseFieldDescriptor (TX1 k).2.2.1 = some (tyX1 k) := by decide +kernel
abbrev cX1_init : ByteArray := prog_3_method_1_code
def yX1_init : MethodName := ⟨RX1, "<init>", "()V"⟩
abbrev cX1_compare : ByteArray := prog_3_method_2_code
def yX1_compare : MethodName := ⟨RX1, "compare", "(LMirroredTalks$Plan;)V"⟩
abbrev cX1_part : ByteArray := prog_3_method_3_code
def yX1_part : MethodName := ⟨RX1, "part", "(LMirroredTalks$Plan;)V"⟩
abbrev cX1_looksAlike : ByteArray := prog_3_method_4_code
def yX1_looksAlike : MethodName := ⟨RX1, "looksAlike", "(LMirroredTalks$Plan;II)Z"⟩
abbrev cX1_leadsAlike : ByteArray := prog_3_method_5_code
def yX1_leadsAlike : MethodName := ⟨RX1, "leadsAlike", "(LMirroredTalks$Plan;II)Z"⟩
abbrev cX1_areAlike : ByteArray := prog_3_method_6_code
def yX1_areAlike : MethodName := ⟨RX1, "areAlike", "(II)Z"⟩
abbrev cX1_lowestAlike : ByteArray := prog_3_method_7_code
def yX1_lowestAlike : MethodName := ⟨RX1, "lowestAlike", "(I)I"⟩
def RX2 : String := "MirroredTalks$Pairs"
def TX2 : u_T := fun k => match k with
  | _ => ("", "", "", false)
def tyX2 : Nat → FieldType := fun k => match k with
  | _ => .int
abbrev wsX20 : List Cond := u_ws RX2 TX2 0
theorem nmX2 : ∀ a, a < 0 → ∀ b, b < 0 → a ≠ b → (TX2 a).2.1 ≠ (TX2 b).2.1 := by decide +kernel
theorem tyX2_ok : ∀ k, k < 0 → parseFieldDescriptor (TX2 k).2.2.1 = some (tyX2 k) := by decide +kernel
abbrev cX2_init : ByteArray := prog_4_method_1_code
def yX2_init : MethodName := ⟨RX2, "<init>", "(LMirroredTalks$Plan;)V"⟩
abbrev cX2_walk : ByteArray := prog_4_method_4_code
def yX2_walk : MethodName := ⟨RX2, "walk", "(LMirroredTalks$Plan;LMirroredTalks$Plan;)V"⟩
abbrev cX2_add : ByteArray := prog_4_method_5_code
def yX2_add : MethodName := ⟨RX2, "add", "(IIII)V"⟩
abbrev cX2_pairBehind : ByteArray := prog_4_method_6_code
def yX2_pairBehind : MethodName := ⟨RX2, "pairBehind", "(II)I"⟩
abbrev cX2_positionBehind : ByteArray := prog_4_method_7_code
def yX2_positionBehind : MethodName := ⟨RX2, "positionBehind", "(II)I"⟩
abbrev cX2_size : ByteArray := prog_4_method_8_code
def yX2_size : MethodName := ⟨RX2, "size", "()I"⟩
abbrev cX2_has : ByteArray := prog_4_method_9_code
def yX2_has : MethodName := ⟨RX2, "has", "(I)Z"⟩
abbrev cX2_stateOfOne : ByteArray := prog_4_method_10_code
def yX2_stateOfOne : MethodName := ⟨RX2, "stateOfOne", "(I)I"⟩
abbrev cX2_stateOfOther : ByteArray := prog_4_method_11_code
def yX2_stateOfOther : MethodName := ⟨RX2, "stateOfOther", "(I)I"⟩
abbrev cX2_kindOfOne : ByteArray := prog_4_method_12_code
def yX2_kindOfOne : MethodName := ⟨RX2, "kindOfOne", "(I)I"⟩
abbrev cX2_kindOfOther : ByteArray := prog_4_method_13_code
def yX2_kindOfOther : MethodName := ⟨RX2, "kindOfOther", "(I)I"⟩
abbrev cX2_lengthOf : ByteArray := prog_4_method_14_code
def yX2_lengthOf : MethodName := ⟨RX2, "lengthOf", "(I)I"⟩
abbrev cX2_reasonOf : ByteArray := prog_4_method_15_code
def yX2_reasonOf : MethodName := ⟨RX2, "reasonOf", "(I)I"⟩
abbrev cX2_firstLackedWord : ByteArray := prog_4_method_16_code
def yX2_firstLackedWord : MethodName := ⟨RX2, "firstLackedWord", "(I)I"⟩
abbrev cX2_lackedWords : ByteArray := prog_4_method_17_code
def yX2_lackedWords : MethodName := ⟨RX2, "lackedWords", "(III)I"⟩
abbrev cX2_firstFaulty : ByteArray := prog_4_method_18_code
def yX2_firstFaulty : MethodName := ⟨RX2, "firstFaulty", "()I"⟩
abbrev cX2_tellMore : ByteArray := prog_4_method_19_code
def yX2_tellMore : MethodName := ⟨RX2, "tellMore", "(II)I"⟩
abbrev cX2_wordOfRow : ByteArray := prog_4_method_20_code
def yX2_wordOfRow : MethodName := ⟨RX2, "wordOfRow", "(II)I"⟩
def RX3 : String := "MirroredTalks$Plan"
def TX3 : u_T := fun k => match k with
  | _ => ("MirroredTalks$Plan", "cells", "[I", true)
def tyX3 : Nat → FieldType := fun k => match k with
  | _ => .array .int
abbrev wsX30 : List Cond := u_ws RX3 TX3 1
theorem nmX3 : ∀ a, a < 1 → ∀ b, b < 1 → a ≠ b → (TX3 a).2.1 ≠ (TX3 b).2.1 := by decide +kernel
theorem tyX3_ok : ∀ k, k < 1 → parseFieldDescriptor (TX3 k).2.2.1 = some (tyX3 k) := by decide +kernel
abbrev cX3_init : ByteArray := prog_5_method_1_code
def yX3_init : MethodName := ⟨RX3, "<init>", "()V"⟩
abbrev cX3_clear : ByteArray := prog_5_method_2_code
def yX3_clear : MethodName := ⟨RX3, "clear", "()V"⟩
abbrev cX3_kindOf : ByteArray := prog_5_method_3_code
def yX3_kindOf : MethodName := ⟨RX3, "kindOf", "(I)I"⟩
abbrev cX3_setKind : ByteArray := prog_5_method_4_code
def yX3_setKind : MethodName := ⟨RX3, "setKind", "(II)V"⟩
abbrev cX3_targetOf : ByteArray := prog_5_method_5_code
def yX3_targetOf : MethodName := ⟨RX3, "targetOf", "(II)I"⟩
abbrev cX3_setTarget : ByteArray := prog_5_method_6_code
def yX3_setTarget : MethodName := ⟨RX3, "setTarget", "(III)V"⟩
abbrev cX3_wordsOf : ByteArray := prog_5_method_7_code
def yX3_wordsOf : MethodName := ⟨RX3, "wordsOf", "(I)I"⟩
abbrev cX3_arrows : ByteArray := prog_5_method_8_code
def yX3_arrows : MethodName := ⟨RX3, "arrows", "()I"⟩
abbrev cX3_lastingStates : ByteArray := prog_5_method_9_code
def yX3_lastingStates : MethodName := ⟨RX3, "lastingStates", "()I"⟩
abbrev cX3_swapSides : ByteArray := prog_5_method_10_code
def yX3_swapSides : MethodName := ⟨RX3, "swapSides", "()V"⟩
abbrev cX3_comesTo : ByteArray := prog_5_method_11_code
def yX3_comesTo : MethodName := ⟨RX3, "comesTo", "(I)I"⟩
abbrev cX3_statesBehind : ByteArray := prog_5_method_12_code
def yX3_statesBehind : MethodName := ⟨RX3, "statesBehind", "(I)I"⟩
abbrev cX3_take : ByteArray := prog_5_method_13_code
def yX3_take : MethodName := ⟨RX3, "take", "(LMirroredTalks$Plan;)V"⟩
abbrev cX3_saveTo : ByteArray := prog_5_method_14_code
def yX3_saveTo : MethodName := ⟨RX3, "saveTo", "([II)V"⟩
abbrev cX3_loadFrom : ByteArray := prog_5_method_15_code
def yX3_loadFrom : MethodName := ⟨RX3, "loadFrom", "([II)V"⟩
def RX4 : String := "MirroredTalks$PlanText"
def TX4 : u_T := fun k => match k with
  | 0 => ("MirroredTalks$PlanText", "characters", "[I", true)
  | 1 => ("MirroredTalks$PlanText", "length", "I", false)
  | 2 => ("MirroredTalks$PlanText", "draft", "LMirroredTalks$Plan;", true)
  | 3 => ("MirroredTalks$PlanText", "told", "I", false)
  | 4 => ("MirroredTalks$PlanText", "faultPosition", "I", false)
  | 5 => ("MirroredTalks$PlanText", "faultReason", "I", false)
  | _ => ("MirroredTalks$PlanText", "faultCause", "I", false)
def tyX4 : Nat → FieldType := fun k => match k with
  | 0 => .array .int
  | 1 => .int
  | 2 => .object "MirroredTalks$Plan"
  | 3 => .int
  | 4 => .int
  | 5 => .int
  | _ => .int
abbrev wsX40 : List Cond := u_ws RX4 TX4 7
theorem nmX4 : ∀ a, a < 7 → ∀ b, b < 7 → a ≠ b → (TX4 a).2.1 ≠ (TX4 b).2.1 := by decide +kernel
theorem tyX4_ok : ∀ k, k < 7 → parseFieldDescriptor (TX4 k).2.2.1 = some (tyX4 k) := by decide +kernel
abbrev cX4_init : ByteArray := prog_6_method_1_code
def yX4_init : MethodName := ⟨RX4, "<init>", "()V"⟩
abbrev cX4_length : ByteArray := prog_6_method_2_code
def yX4_length : MethodName := ⟨RX4, "length", "()I"⟩
abbrev cX4_isFull : ByteArray := prog_6_method_3_code
def yX4_isFull : MethodName := ⟨RX4, "isFull", "()Z"⟩
abbrev cX4_append : ByteArray := prog_6_method_4_code
def yX4_append : MethodName := ⟨RX4, "append", "(I)V"⟩
abbrev cX4_clear : ByteArray := prog_6_method_5_code
def yX4_clear : MethodName := ⟨RX4, "clear", "()V"⟩
abbrev cX4_draft : ByteArray := prog_6_method_6_code
def yX4_draft : MethodName := ⟨RX4, "draft", "()LMirroredTalks$Plan;"⟩
abbrev cX4_toldStates : ByteArray := prog_6_method_7_code
def yX4_toldStates : MethodName := ⟨RX4, "toldStates", "()I"⟩
abbrev cX4_isFaulty : ByteArray := prog_6_method_8_code
def yX4_isFaulty : MethodName := ⟨RX4, "isFaulty", "()Z"⟩
abbrev cX4_faultPosition : ByteArray := prog_6_method_9_code
def yX4_faultPosition : MethodName := ⟨RX4, "faultPosition", "()I"⟩
abbrev cX4_faultReason : ByteArray := prog_6_method_10_code
def yX4_faultReason : MethodName := ⟨RX4, "faultReason", "()I"⟩
abbrev cX4_faultCause : ByteArray := prog_6_method_11_code
def yX4_faultCause : MethodName := ⟨RX4, "faultCause", "()I"⟩
abbrev cX4_parse : ByteArray := prog_6_method_12_code
def yX4_parse : MethodName := ⟨RX4, "parse", "()V"⟩
abbrev cX4_after : ByteArray := prog_6_method_13_code
def yX4_after : MethodName := ⟨RX4, "after", "(II)I"⟩
abbrev cX4_takeState : ByteArray := prog_6_method_14_code
def yX4_takeState : MethodName := ⟨RX4, "takeState", "(II)V"⟩
abbrev cX4_setFault : ByteArray := prog_6_method_15_code
def yX4_setFault : MethodName := ⟨RX4, "setFault", "(III)V"⟩
abbrev cX4_characterAt : ByteArray := prog_6_method_16_code
def yX4_characterAt : MethodName := ⟨RX4, "characterAt", "(I)I"⟩
def RX5 : String := "MirroredTalks$RowCount"
def TX5 : u_T := fun k => match k with
  | 0 => ("MirroredTalks$RowCount", "openWays", "[I", true)
  | 1 => ("MirroredTalks$RowCount", "rows", "[J", true)
  | 2 => ("MirroredTalks$RowCount", "ready", "[I", true)
  | _ => ("MirroredTalks$RowCount", "readySize", "I", false)
def tyX5 : Nat → FieldType := fun k => match k with
  | 0 => .array .int
  | 1 => .array .long
  | 2 => .array .int
  | _ => .int
abbrev wsX50 : List Cond := u_ws RX5 TX5 4
theorem nmX5 : ∀ a, a < 4 → ∀ b, b < 4 → a ≠ b → (TX5 a).2.1 ≠ (TX5 b).2.1 := by decide +kernel
theorem tyX5_ok : ∀ k, k < 4 → parseFieldDescriptor (TX5 k).2.2.1 = some (tyX5 k) := by decide +kernel
abbrev cX5_init : ByteArray := prog_7_method_1_code
def yX5_init : MethodName := ⟨RX5, "<init>", "()V"⟩
abbrev cX5_rowsToEnds : ByteArray := prog_7_method_2_code
def yX5_rowsToEnds : MethodName := ⟨RX5, "rowsToEnds", "(LMirroredTalks$TalkPairs;)J"⟩
abbrev cX5_countWays : ByteArray := prog_7_method_3_code
def yX5_countWays : MethodName := ⟨RX5, "countWays", "(LMirroredTalks$TalkPairs;)V"⟩
abbrev cX5_goAlong : ByteArray := prog_7_method_4_code
def yX5_goAlong : MethodName := ⟨RX5, "goAlong", "(IJ)V"⟩
abbrev cX5_setReady : ByteArray := prog_7_method_5_code
def yX5_setReady : MethodName := ⟨RX5, "setReady", "(I)V"⟩
abbrev cX5_rowsTo : ByteArray := prog_7_method_6_code
def yX5_rowsTo : MethodName := ⟨RX5, "rowsTo", "(I)J"⟩
abbrev cX5_isPosition : ByteArray := prog_7_method_7_code
def yX5_isPosition : MethodName := ⟨RX5, "isPosition", "(I)Z"⟩
abbrev cX5_capped : ByteArray := prog_7_method_8_code
def yX5_capped : MethodName := ⟨RX5, "capped", "(J)J"⟩
def RX6 : String := "MirroredTalks$StandInPairs"
def TX6 : u_T := fun k => match k with
  | 0 => ("MirroredTalks$Pairs", "pairs", "[I", true)
  | 1 => ("MirroredTalks$Pairs", "positions", "[I", true)
  | 2 => ("MirroredTalks$Pairs", "lengths", "[I", true)
  | 3 => ("MirroredTalks$Pairs", "origins", "[I", true)
  | 4 => ("MirroredTalks$Pairs", "lastWords", "[I", true)
  | 5 => ("MirroredTalks$Pairs", "one", "LMirroredTalks$Plan;", false)
  | 6 => ("MirroredTalks$Pairs", "other", "LMirroredTalks$Plan;", false)
  | _ => ("MirroredTalks$Pairs", "size", "I", false)
def tyX6 : Nat → FieldType := fun k => match k with
  | 0 => .array .int
  | 1 => .array .int
  | 2 => .array .int
  | 3 => .array .int
  | 4 => .array .int
  | 5 => .object "MirroredTalks$Plan"
  | 6 => .object "MirroredTalks$Plan"
  | _ => .int
abbrev wsX60 : List Cond := u_ws RX6 TX6 8
theorem nmX6 : ∀ a, a < 8 → ∀ b, b < 8 → a ≠ b → (TX6 a).2.1 ≠ (TX6 b).2.1 := by decide +kernel
theorem tyX6_ok : ∀ k, k < 8 → parseFieldDescriptor (TX6 k).2.2.1 = some (tyX6 k) := by decide +kernel
abbrev cX6_init : ByteArray := prog_8_method_1_code
def yX6_init : MethodName := ⟨RX6, "<init>", "(LMirroredTalks$Plan;)V"⟩
abbrev cX6_goTogether : ByteArray := prog_8_method_2_code
def yX6_goTogether : MethodName := ⟨RX6, "goTogether", "(II)Z"⟩
abbrev cX6_reasonFor : ByteArray := prog_8_method_3_code
def yX6_reasonFor : MethodName := ⟨RX6, "reasonFor", "(IIII)I"⟩
def RX7 : String := "MirroredTalks$TalkPairs"
def TX7 : u_T := fun k => match k with
  | 0 => ("MirroredTalks$Pairs", "pairs", "[I", true)
  | 1 => ("MirroredTalks$Pairs", "positions", "[I", true)
  | 2 => ("MirroredTalks$Pairs", "lengths", "[I", true)
  | 3 => ("MirroredTalks$Pairs", "origins", "[I", true)
  | 4 => ("MirroredTalks$Pairs", "lastWords", "[I", true)
  | 5 => ("MirroredTalks$Pairs", "one", "LMirroredTalks$Plan;", false)
  | 6 => ("MirroredTalks$Pairs", "other", "LMirroredTalks$Plan;", false)
  | _ => ("MirroredTalks$Pairs", "size", "I", false)
def tyX7 : Nat → FieldType := fun k => match k with
  | 0 => .array .int
  | 1 => .array .int
  | 2 => .array .int
  | 3 => .array .int
  | 4 => .array .int
  | 5 => .object "MirroredTalks$Plan"
  | 6 => .object "MirroredTalks$Plan"
  | _ => .int
abbrev wsX70 : List Cond := u_ws RX7 TX7 8
theorem nmX7 : ∀ a, a < 8 → ∀ b, b < 8 → a ≠ b → (TX7 a).2.1 ≠ (TX7 b).2.1 := by decide +kernel
theorem tyX7_ok : ∀ k, k < 8 → parseFieldDescriptor (TX7 k).2.2.1 = some (tyX7 k) := by decide +kernel
abbrev cX7_init : ByteArray := prog_9_method_1_code
def yX7_init : MethodName := ⟨RX7, "<init>", "(LMirroredTalks$Plan;)V"⟩
abbrev cX7_goTogether : ByteArray := prog_9_method_2_code
def yX7_goTogether : MethodName := ⟨RX7, "goTogether", "(II)Z"⟩
abbrev cX7_reasonFor : ByteArray := prog_9_method_3_code
def yX7_reasonFor : MethodName := ⟨RX7, "reasonFor", "(IIII)I"⟩
abbrev cX7_isEnd : ByteArray := prog_9_method_4_code
def yX7_isEnd : MethodName := ⟨RX7, "isEnd", "(I)Z"⟩
abbrev cX7_stuckPairs : ByteArray := prog_9_method_5_code
def yX7_stuckPairs : MethodName := ⟨RX7, "stuckPairs", "()I"⟩
abbrev cX7_ends : ByteArray := prog_9_method_6_code
def yX7_ends : MethodName := ⟨RX7, "ends", "()I"⟩
abbrev cX7_fewestWordsToEnd : ByteArray := prog_9_method_7_code
def yX7_fewestWordsToEnd : MethodName := ⟨RX7, "fewestWordsToEnd", "()I"⟩
abbrev cX7_statesOfOne : ByteArray := prog_9_method_8_code
def yX7_statesOfOne : MethodName := ⟨RX7, "statesOfOne", "()I"⟩
abbrev cX7_statesOfOther : ByteArray := prog_9_method_9_code
def yX7_statesOfOther : MethodName := ⟨RX7, "statesOfOther", "()I"⟩
def RX8 : String := "MirroredTalks"
def TX8 : u_T := fun k => match k with
  | 0 => ("MirroredTalks", "first", "LMirroredTalks$Plan;", true)
  | 1 => ("MirroredTalks", "second", "LMirroredTalks$Plan;", true)
  | 2 => ("MirroredTalks", "third", "LMirroredTalks$Plan;", true)
  | 3 => ("MirroredTalks", "history", "LMirroredTalks$History;", true)
  | 4 => ("MirroredTalks", "text", "LMirroredTalks$PlanText;", true)
  | 5 => ("MirroredTalks", "likeness", "LMirroredTalks$Likeness;", true)
  | 6 => ("MirroredTalks", "talkPairs", "LMirroredTalks$TalkPairs;", true)
  | 7 => ("MirroredTalks", "rowCount", "LMirroredTalks$RowCount;", true)
  | _ => ("MirroredTalks", "standInPairs", "LMirroredTalks$StandInPairs;", true)
def tyX8 : Nat → FieldType := fun k => match k with
  | 0 => .object "MirroredTalks$Plan"
  | 1 => .object "MirroredTalks$Plan"
  | 2 => .object "MirroredTalks$Plan"
  | 3 => .object "MirroredTalks$History"
  | 4 => .object "MirroredTalks$PlanText"
  | 5 => .object "MirroredTalks$Likeness"
  | 6 => .object "MirroredTalks$TalkPairs"
  | 7 => .object "MirroredTalks$RowCount"
  | _ => .object "MirroredTalks$StandInPairs"
abbrev wsX80 : List Cond := u_ws RX8 TX8 9
theorem nmX8 : ∀ a, a < 9 → ∀ b, b < 9 → a ≠ b → (TX8 a).2.1 ≠ (TX8 b).2.1 := by decide +kernel
theorem tyX8_ok : ∀ k, k < 9 → parseFieldDescriptor (TX8 k).2.2.1 = some (tyX8 k) := by decide +kernel
abbrev cX8_init : ByteArray := prog_1_method_1_code
def yX8_init : MethodName := ⟨RX8, "<init>", "()V"⟩
abbrev cX8_kind : ByteArray := prog_1_method_2_code
def yX8_kind : MethodName := ⟨RX8, "kind", "(III)I"⟩
abbrev cX8_arrow : ByteArray := prog_1_method_3_code
def yX8_arrow : MethodName := ⟨RX8, "arrow", "(IIII)I"⟩
abbrev cX8_erase : ByteArray := prog_1_method_4_code
def yX8_erase : MethodName := ⟨RX8, "erase", "(III)I"⟩
abbrev cX8_copy : ByteArray := prog_1_method_5_code
def yX8_copy : MethodName := ⟨RX8, "copy", "(II)I"⟩
abbrev cX8_mirror : ByteArray := prog_1_method_6_code
def yX8_mirror : MethodName := ⟨RX8, "mirror", "(I)I"⟩
abbrev cX8_stateOf : ByteArray := prog_1_method_7_code
def yX8_stateOf : MethodName := ⟨RX8, "stateOf", "(III)I"⟩
abbrev cX8_unlike : ByteArray := prog_1_method_8_code
def yX8_unlike : MethodName := ⟨RX8, "unlike", "(I)I"⟩
abbrev cX8_pairOf : ByteArray := prog_1_method_9_code
def yX8_pairOf : MethodName := ⟨RX8, "pairOf", "(IIII)I"⟩
abbrev cX8_talk : ByteArray := prog_1_method_10_code
def yX8_talk : MethodName := ⟨RX8, "talk", "(III)I"⟩
abbrev cX8_talks : ByteArray := prog_1_method_11_code
def yX8_talks : MethodName := ⟨RX8, "talks", "(II)J"⟩
abbrev cX8_standsIn : ByteArray := prog_1_method_12_code
def yX8_standsIn : MethodName := ⟨RX8, "standsIn", "(II)I"⟩
abbrev cX8_against : ByteArray := prog_1_method_13_code
def yX8_against : MethodName := ⟨RX8, "against", "(III)I"⟩
abbrev cX8_count : ByteArray := prog_1_method_14_code
def yX8_count : MethodName := ⟨RX8, "count", "(I)I"⟩
abbrev cX8_undo : ByteArray := prog_1_method_15_code
def yX8_undo : MethodName := ⟨RX8, "undo", "()I"⟩
abbrev cX8_type : ByteArray := prog_1_method_16_code
def yX8_type : MethodName := ⟨RX8, "type", "(I)I"⟩
abbrev cX8_clearText : ByteArray := prog_1_method_17_code
def yX8_clearText : MethodName := ⟨RX8, "clearText", "()I"⟩
abbrev cX8_fault : ByteArray := prog_1_method_18_code
def yX8_fault : MethodName := ⟨RX8, "fault", "(I)I"⟩
abbrev cX8_read : ByteArray := prog_1_method_19_code
def yX8_read : MethodName := ⟨RX8, "read", "(I)I"⟩
abbrev cX8_remember : ByteArray := prog_1_method_20_code
def yX8_remember : MethodName := ⟨RX8, "remember", "()V"⟩
abbrev cX8_planAt : ByteArray := prog_1_method_21_code
def yX8_planAt : MethodName := ⟨RX8, "planAt", "(I)LMirroredTalks$Plan;"⟩
abbrev cX8_isPlan : ByteArray := prog_1_method_22_code
def yX8_isPlan : MethodName := ⟨RX8, "isPlan", "(I)Z"⟩
abbrev cX8_isState : ByteArray := prog_1_method_23_code
def yX8_isState : MethodName := ⟨RX8, "isState", "(I)Z"⟩
abbrev cX8_isWord : ByteArray := prog_1_method_24_code
def yX8_isWord : MethodName := ⟨RX8, "isWord", "(I)Z"⟩
abbrev cX8_isKind : ByteArray := prog_1_method_25_code
def yX8_isKind : MethodName := ⟨RX8, "isKind", "(I)Z"⟩
abbrev cX8_isPairQuestion : ByteArray := prog_1_method_26_code
def yX8_isPairQuestion : MethodName := ⟨RX8, "isPairQuestion", "(I)Z"⟩
abbrev cX8_foundOr : ByteArray := prog_1_method_27_code
def yX8_foundOr : MethodName := ⟨RX8, "foundOr", "(I)I"⟩
abbrev cX8_holds : ByteArray := prog_1_method_28_code
def yX8_holds : MethodName := ⟨RX8, "holds", "(II)Z"⟩
abbrev cX8_firstWordIn : ByteArray := prog_1_method_29_code
def yX8_firstWordIn : MethodName := ⟨RX8, "firstWordIn", "(I)I"⟩
abbrev cX8_cellOf : ByteArray := prog_1_method_30_code
def yX8_cellOf : MethodName := ⟨RX8, "cellOf", "([II)I"⟩
def RX9 : String := "MirroredTalksModel"
def TX9 : u_T := fun k => match k with
  | 0 => ("MirroredTalksModel", "s", "[I", true)
  | 1 => ("MirroredTalksModel", "was", "[I", true)
  | 2 => ("MirroredTalksModel", "states", "I", false)
  | 3 => ("MirroredTalksModel", "text", "[C", true)
  | 4 => ("MirroredTalksModel", "typed", "I", false)
  | 5 => ("MirroredTalksModel", "like", "[I", true)
  | 6 => ("MirroredTalksModel", "pairs", "[I", true)
  | 7 => ("MirroredTalksModel", "from", "[I", true)
  | 8 => ("MirroredTalksModel", "by", "[I", true)
  | 9 => ("MirroredTalksModel", "far", "[I", true)
  | 10 => ("MirroredTalksModel", "place", "[I", true)
  | 11 => ("MirroredTalksModel", "many", "I", false)
  | 12 => ("MirroredTalksModel", "ways", "[J", true)
  | 13 => ("MirroredTalksModel", "known", "[Z", true)
  | 14 => ("MirroredTalksModel", "spot", "I", false)
  | 15 => ("MirroredTalksModel", "begun", "I", false)
  | 16 => ("MirroredTalksModel", "taken", "I", false)
  | 17 => ("MirroredTalksModel", "reason", "I", false)
  | 18 => ("MirroredTalksModel", "cause", "I", false)
  | 19 => ("MirroredTalksModel", "told", "I", false)
  | 20 => ("MirroredTalksModel", "toldMany", "I", false)
  | 21 => ("MirroredTalksModel", "read", "[I", true)
  | 22 => ("MirroredTalksModel", "arrowWords", "[I", true)
  | 23 => ("MirroredTalksModel", "arrowStates", "[I", true)
  | _ => ("MirroredTalksModel", "arrowMany", "I", false)
def tyX9 : Nat → FieldType := fun k => match k with
  | 0 => .array .int
  | 1 => .array .int
  | 2 => .int
  | 3 => .array .char
  | 4 => .int
  | 5 => .array .int
  | 6 => .array .int
  | 7 => .array .int
  | 8 => .array .int
  | 9 => .array .int
  | 10 => .array .int
  | 11 => .int
  | 12 => .array .long
  | 13 => .array .boolean
  | 14 => .int
  | 15 => .int
  | 16 => .int
  | 17 => .int
  | 18 => .int
  | 19 => .int
  | 20 => .int
  | 21 => .array .int
  | 22 => .array .int
  | 23 => .array .int
  | _ => .int
abbrev wsX90 : List Cond := u_ws RX9 TX9 25
theorem nmX9 : ∀ a, a < 25 → ∀ b, b < 25 → a ≠ b → (TX9 a).2.1 ≠ (TX9 b).2.1 := by decide +kernel
theorem tyX9_ok : ∀ k, k < 25 → parseFieldDescriptor (TX9 k).2.2.1 = some (tyX9 k) := by decide +kernel
abbrev cX9_init : ByteArray := prog_11_method_1_code
def yX9_init : MethodName := ⟨RX9, "<init>", "()V"⟩
abbrev cX9_in : ByteArray := prog_11_method_2_code
def yX9_in : MethodName := ⟨RX9, "in", "(III)Z"⟩
abbrev cX9_isPlan : ByteArray := prog_11_method_3_code
def yX9_isPlan : MethodName := ⟨RX9, "isPlan", "(I)Z"⟩
abbrev cX9_isState : ByteArray := prog_11_method_4_code
def yX9_isState : MethodName := ⟨RX9, "isState", "(I)Z"⟩
abbrev cX9_isWord : ByteArray := prog_11_method_5_code
def yX9_isWord : MethodName := ⟨RX9, "isWord", "(I)Z"⟩
abbrev cX9_kindOf : ByteArray := prog_11_method_6_code
def yX9_kindOf : MethodName := ⟨RX9, "kindOf", "(II)I"⟩
abbrev cX9_placeOf : ByteArray := prog_11_method_7_code
def yX9_placeOf : MethodName := ⟨RX9, "placeOf", "(III)I"⟩
abbrev cX9_led : ByteArray := prog_11_method_8_code
def yX9_led : MethodName := ⟨RX9, "led", "(III)I"⟩
abbrev cX9_leads : ByteArray := prog_11_method_9_code
def yX9_leads : MethodName := ⟨RX9, "leads", "(III)I"⟩
abbrev cX9_records : ByteArray := prog_11_method_10_code
def yX9_records : MethodName := ⟨RX9, "records", "()V"⟩
abbrev cX9_kind : ByteArray := prog_11_method_11_code
def yX9_kind : MethodName := ⟨RX9, "kind", "(III)I"⟩
abbrev cX9_words : ByteArray := prog_11_method_12_code
def yX9_words : MethodName := ⟨RX9, "words", "(II)I"⟩
abbrev cX9_bits : ByteArray := prog_11_method_13_code
def yX9_bits : MethodName := ⟨RX9, "bits", "(I)I"⟩
abbrev cX9_arrow : ByteArray := prog_11_method_14_code
def yX9_arrow : MethodName := ⟨RX9, "arrow", "(IIII)I"⟩
abbrev cX9_erase : ByteArray := prog_11_method_15_code
def yX9_erase : MethodName := ⟨RX9, "erase", "(III)I"⟩
abbrev cX9_going : ByteArray := prog_11_method_16_code
def yX9_going : MethodName := ⟨RX9, "going", "(I)I"⟩
abbrev cX9_copy : ByteArray := prog_11_method_17_code
def yX9_copy : MethodName := ⟨RX9, "copy", "(II)I"⟩
abbrev cX9_mirror : ByteArray := prog_11_method_18_code
def yX9_mirror : MethodName := ⟨RX9, "mirror", "(I)I"⟩
abbrev cX9_haveSame : ByteArray := prog_11_method_19_code
def yX9_haveSame : MethodName := ⟨RX9, "haveSame", "(III)Z"⟩
abbrev cX9_leadAlike : ByteArray := prog_11_method_20_code
def yX9_leadAlike : MethodName := ⟨RX9, "leadAlike", "(III)Z"⟩
abbrev cX9_findAlike : ByteArray := prog_11_method_21_code
def yX9_findAlike : MethodName := ⟨RX9, "findAlike", "(I)V"⟩
abbrev cX9_lowest : ByteArray := prog_11_method_22_code
def yX9_lowest : MethodName := ⟨RX9, "lowest", "(I)I"⟩
abbrev cX9_alikeTo : ByteArray := prog_11_method_23_code
def yX9_alikeTo : MethodName := ⟨RX9, "alikeTo", "(II)I"⟩
abbrev cX9_reached : ByteArray := prog_11_method_24_code
def yX9_reached : MethodName := ⟨RX9, "reached", "(II)I"⟩
abbrev cX9_stateOf : ByteArray := prog_11_method_25_code
def yX9_stateOf : MethodName := ⟨RX9, "stateOf", "(III)I"⟩
abbrev cX9_unlike : ByteArray := prog_11_method_26_code
def yX9_unlike : MethodName := ⟨RX9, "unlike", "(I)I"⟩
abbrev cX9_together : ByteArray := prog_11_method_27_code
def yX9_together : MethodName := ⟨RX9, "together", "(IIZ)Z"⟩
abbrev cX9_behind : ByteArray := prog_11_method_28_code
def yX9_behind : MethodName := ⟨RX9, "behind", "(IIII)I"⟩
abbrev cX9_finds : ByteArray := prog_11_method_29_code
def yX9_finds : MethodName := ⟨RX9, "finds", "(III)V"⟩
abbrev cX9_follows : ByteArray := prog_11_method_30_code
def yX9_follows : MethodName := ⟨RX9, "follows", "(IIIIZ)I"⟩
abbrev cX9_goThrough : ByteArray := prog_11_method_31_code
def yX9_goThrough : MethodName := ⟨RX9, "goThrough", "(IIZ)V"⟩
abbrev cX9_wordOf : ByteArray := prog_11_method_32_code
def yX9_wordOf : MethodName := ⟨RX9, "wordOf", "(II)I"⟩
abbrev cX9_lacking : ByteArray := prog_11_method_33_code
def yX9_lacking : MethodName := ⟨RX9, "lacking", "(II)I"⟩
abbrev cX9_missing : ByteArray := prog_11_method_34_code
def yX9_missing : MethodName := ⟨RX9, "missing", "(III)I"⟩
abbrev cX9_why : ByteArray := prog_11_method_35_code
def yX9_why : MethodName := ⟨RX9, "why", "(III)I"⟩
abbrev cX9_isEnd : ByteArray := prog_11_method_36_code
def yX9_isEnd : MethodName := ⟨RX9, "isEnd", "(III)Z"⟩
abbrev cX9_isRowAsked : ByteArray := prog_11_method_37_code
def yX9_isRowAsked : MethodName := ⟨RX9, "isRowAsked", "(II)Z"⟩
abbrev cX9_firstStuck : ByteArray := prog_11_method_38_code
def yX9_firstStuck : MethodName := ⟨RX9, "firstStuck", "(II)I"⟩
abbrev cX9_pairOf : ByteArray := prog_11_method_39_code
def yX9_pairOf : MethodName := ⟨RX9, "pairOf", "(IIII)I"⟩
abbrev cX9_counts : ByteArray := prog_11_method_40_code
def yX9_counts : MethodName := ⟨RX9, "counts", "(III)Z"⟩
abbrev cX9_countsAll : ByteArray := prog_11_method_41_code
def yX9_countsAll : MethodName := ⟨RX9, "countsAll", "(II)Z"⟩
abbrev cX9_stuckOnes : ByteArray := prog_11_method_42_code
def yX9_stuckOnes : MethodName := ⟨RX9, "stuckOnes", "(II)I"⟩
abbrev cX9_ends : ByteArray := prog_11_method_43_code
def yX9_ends : MethodName := ⟨RX9, "ends", "(II)I"⟩
abbrev cX9_fewest : ByteArray := prog_11_method_44_code
def yX9_fewest : MethodName := ⟨RX9, "fewest", "(II)I"⟩
abbrev cX9_comeTo : ByteArray := prog_11_method_45_code
def yX9_comeTo : MethodName := ⟨RX9, "comeTo", "(Z)I"⟩
abbrev cX9_talk : ByteArray := prog_11_method_46_code
def yX9_talk : MethodName := ⟨RX9, "talk", "(III)I"⟩
abbrev cX9_talks : ByteArray := prog_11_method_47_code
def yX9_talks : MethodName := ⟨RX9, "talks", "(II)J"⟩
abbrev cX9_wanted : ByteArray := prog_11_method_48_code
def yX9_wanted : MethodName := ⟨RX9, "wanted", "(III)I"⟩
abbrev cX9_whyNot : ByteArray := prog_11_method_49_code
def yX9_whyNot : MethodName := ⟨RX9, "whyNot", "(III)I"⟩
abbrev cX9_firstAgainst : ByteArray := prog_11_method_50_code
def yX9_firstAgainst : MethodName := ⟨RX9, "firstAgainst", "(II)I"⟩
abbrev cX9_canStand : ByteArray := prog_11_method_51_code
def yX9_canStand : MethodName := ⟨RX9, "canStand", "(II)I"⟩
abbrev cX9_standsIn : ByteArray := prog_11_method_52_code
def yX9_standsIn : MethodName := ⟨RX9, "standsIn", "(II)I"⟩
abbrev cX9_wantedThen : ByteArray := prog_11_method_53_code
def yX9_wantedThen : MethodName := ⟨RX9, "wantedThen", "(III)I"⟩
abbrev cX9_against : ByteArray := prog_11_method_54_code
def yX9_against : MethodName := ⟨RX9, "against", "(III)I"⟩
abbrev cX9_arrows : ByteArray := prog_11_method_55_code
def yX9_arrows : MethodName := ⟨RX9, "arrows", "()I"⟩
abbrev cX9_count : ByteArray := prog_11_method_56_code
def yX9_count : MethodName := ⟨RX9, "count", "(I)I"⟩
abbrev cX9_undo : ByteArray := prog_11_method_57_code
def yX9_undo : MethodName := ⟨RX9, "undo", "()I"⟩
abbrev cX9_type : ByteArray := prog_11_method_58_code
def yX9_type : MethodName := ⟨RX9, "type", "(I)I"⟩
abbrev cX9_clearText : ByteArray := prog_11_method_59_code
def yX9_clearText : MethodName := ⟨RX9, "clearText", "()I"⟩
abbrev cX9_takes : ByteArray := prog_11_method_60_code
def yX9_takes : MethodName := ⟨RX9, "takes", "(II)Z"⟩
abbrev cX9_kindTaken : ByteArray := prog_11_method_61_code
def yX9_kindTaken : MethodName := ⟨RX9, "kindTaken", "()I"⟩
abbrev cX9_takesArrows : ByteArray := prog_11_method_62_code
def yX9_takesArrows : MethodName := ⟨RX9, "takesArrows", "()Z"⟩
abbrev cX9_twice : ByteArray := prog_11_method_63_code
def yX9_twice : MethodName := ⟨RX9, "twice", "()I"⟩
abbrev cX9_breaksOff : ByteArray := prog_11_method_64_code
def yX9_breaksOff : MethodName := ⟨RX9, "breaksOff", "()I"⟩
abbrev cX9_readState : ByteArray := prog_11_method_65_code
def yX9_readState : MethodName := ⟨RX9, "readState", "()I"⟩
abbrev cX9_faulty : ByteArray := prog_11_method_66_code
def yX9_faulty : MethodName := ⟨RX9, "faulty", "()I"⟩
abbrev cX9_fault : ByteArray := prog_11_method_67_code
def yX9_fault : MethodName := ⟨RX9, "fault", "(I)I"⟩
abbrev cX9_read : ByteArray := prog_11_method_68_code
def yX9_read : MethodName := ⟨RX9, "read", "(I)I"⟩
def RJ6 : String := "java/lang/Integer"
def TJ6 : u_T := fun k => match k with
  | _ => ("", "", "", false)
def tyJ6 : Nat → FieldType := fun k => match k with
  | _ => .int
abbrev wsJ60 : List Cond := u_ws RJ6 TJ6 0
theorem nmJ6 : ∀ a, a < 0 → ∀ b, b < 0 → a ≠ b → (TJ6 a).2.1 ≠ (TJ6 b).2.1 := by decide +kernel
theorem tyJ6_ok : ∀ k, k < 0 → parseFieldDescriptor (TJ6 k).2.2.1 = some (tyJ6 k) := by decide +kernel
abbrev cJ6_bitCount_0f7a4 : ByteArray := prog_12_method_49_code
def yJ6_bitCount_0f7a4 : MethodName := ⟨RJ6, "bitCount", "(I)I"⟩
def RJ9 : String := "java/lang/Math"
def TJ9 : u_T := fun k => match k with
  | _ => ("", "", "", false)
def tyJ9 : Nat → FieldType := fun k => match k with
  | _ => .int
abbrev wsJ90 : List Cond := u_ws RJ9 TJ9 0
theorem nmJ9 : ∀ a, a < 0 → ∀ b, b < 0 → a ≠ b → (TJ9 a).2.1 ≠ (TJ9 b).2.1 := by decide +kernel
theorem tyJ9_ok : ∀ k, k < 0 → parseFieldDescriptor (TJ9 k).2.2.1 = some (tyJ9 k) := by decide +kernel
abbrev cJ9_min_f86c9 : ByteArray := prog_13_method_70_code
def yJ9_min_f86c9 : MethodName := ⟨RJ9, "min", "(JJ)J"⟩
def RJ10 : String := "java/lang/System"
def TJ10 : u_T := fun k => match k with
  | _ => ("", "", "", false)
def tyJ10 : Nat → FieldType := fun k => match k with
  | _ => .int
abbrev wsJ100 : List Cond := u_ws RJ10 TJ10 0
theorem nmJ10 : ∀ a, a < 0 → ∀ b, b < 0 → a ≠ b → (TJ10 a).2.1 ≠ (TJ10 b).2.1 := by decide +kernel
theorem tyJ10_ok : ∀ k, k < 0 → parseFieldDescriptor (TJ10 k).2.2.1 = some (tyJ10 k) := by decide +kernel
def RJ7 : String := "java/util/Arrays"
def TJ7 : u_T := fun k => match k with
  | _ => ("", "", "", false)
def tyJ7 : Nat → FieldType := fun k => match k with
  | _ => .int
abbrev wsJ70 : List Cond := u_ws RJ7 TJ7 0
theorem nmJ7 : ∀ a, a < 0 → ∀ b, b < 0 → a ≠ b → (TJ7 a).2.1 ≠ (TJ7 b).2.1 := by decide +kernel
theorem tyJ7_ok : ∀ k, k < 0 → parseFieldDescriptor (TJ7 k).2.2.1 = some (tyJ7 k) := by decide +kernel
abbrev cJ7_fill_d0a16 : ByteArray := prog_15_method_101_code
def yJ7_fill_d0a16 : MethodName := ⟨RJ7, "fill", "([JJ)V"⟩
abbrev cJ7_fill_53178 : ByteArray := prog_15_method_103_code
def yJ7_fill_53178 : MethodName := ⟨RJ7, "fill", "([II)V"⟩
def RL : String := "MirroredTalksLaw"
abbrev cL_law : ByteArray := code
def yL_law : MethodName := ⟨RL, "law", "([I)Z"⟩
set_option maxRecDepth 20000 in
theorem inX0 : ∀ w ∈ wsX00, w ∈ lw_tbl := by decide +kernel
theorem inX1 : ∀ w ∈ wsX10, w ∈ lw_tbl := by decide +kernel
theorem inX2 : ∀ w ∈ wsX20, w ∈ lw_tbl := by decide +kernel
theorem inX3 : ∀ w ∈ wsX30, w ∈ lw_tbl := by decide +kernel
theorem inX4 : ∀ w ∈ wsX40, w ∈ lw_tbl := by decide +kernel
theorem inX5 : ∀ w ∈ wsX50, w ∈ lw_tbl := by decide +kernel
theorem inX6 : ∀ w ∈ wsX60, w ∈ lw_tbl := by decide +kernel
theorem inX7 : ∀ w ∈ wsX70, w ∈ lw_tbl := by decide +kernel
theorem inX8 : ∀ w ∈ wsX80, w ∈ lw_tbl := by decide +kernel
theorem inX9 : ∀ w ∈ wsX90, w ∈ lw_tbl := by decide +kernel
theorem inJ6 : ∀ w ∈ wsJ60, w ∈ lw_tbl := by decide +kernel
theorem inJ9 : ∀ w ∈ wsJ90, w ∈ lw_tbl := by decide +kernel
theorem inJ10 : ∀ w ∈ wsJ100, w ∈ lw_tbl := by decide +kernel
theorem inJ7 : ∀ w ∈ wsJ70, w ∈ lw_tbl := by decide +kernel
abbrev vwCl : List vw_C := [(RX0, TX0, 2), (RX1, TX1, 1), (RX3, TX3, 1), (RX4, TX4, 7), (RX5, TX5, 4), (RX6, TX6, 8), (RX7, TX7, 8), (RX8, TX8, 9), (RX9, TX9, 25)]
end
section
theorem dX0_init_0 : decode cX0_init 0 = .ok (.aload_n 0, 1) := by decide +kernel
theorem dX0_init_1 : decode cX0_init 1 = .ok (.invokespecial 3, 3) := by decide +kernel
theorem dX0_init_4 : decode cX0_init 4 = .ok (.aload_n 0, 1) := by decide +kernel
theorem dX0_init_5 : decode cX0_init 5 = .ok (.sipush 672, 3) := by decide +kernel
theorem dX0_init_8 : decode cX0_init 8 = .ok (.newarray .int, 2) := by decide +kernel
theorem dX0_init_10 : decode cX0_init 10 = .ok (.putfield 11, 3) := by decide +kernel
theorem dX0_init_13 : decode cX0_init 13 = .ok (.return_, 1) := by decide +kernel
theorem dX0_size_0 : decode cX0_size 0 = .ok (.aload_n 0, 1) := by decide +kernel
theorem dX0_size_1 : decode cX0_size 1 = .ok (.getfield 15, 3) := by decide +kernel
theorem dX0_size_4 : decode cX0_size 4 = .ok (.ireturn, 1) := by decide +kernel
theorem dX0_record_0 : decode cX0_record 0 = .ok (.aload_n 0, 1) := by decide +kernel
theorem dX0_record_1 : decode cX0_record 1 = .ok (.getfield 15, 3) := by decide +kernel
theorem dX0_record_4 : decode cX0_record 4 = .ok (.iconst 4, 1) := by decide +kernel
theorem dX0_record_5 : decode cX0_record 5 = .ok (.if_icmp .lt 26, 3) := by decide +kernel
theorem dX0_record_8 : decode cX0_record 8 = .ok (.aload_n 0, 1) := by decide +kernel
theorem dX0_record_9 : decode cX0_record 9 = .ok (.getfield 11, 3) := by decide +kernel
theorem dX0_record_12 : decode cX0_record 12 = .ok (.sipush 168, 3) := by decide +kernel
theorem dX0_record_15 : decode cX0_record 15 = .ok (.aload_n 0, 1) := by decide +kernel
theorem dX0_record_16 : decode cX0_record 16 = .ok (.getfield 11, 3) := by decide +kernel
theorem dX0_record_19 : decode cX0_record 19 = .ok (.iconst 0, 1) := by decide +kernel
theorem dX0_record_20 : decode cX0_record 20 = .ok (.sipush 504, 3) := by decide +kernel
theorem dX0_record_23 : decode cX0_record 23 = .ok (.invokestatic 19, 3) := by decide +kernel
theorem dX0_record_26 : decode cX0_record 26 = .ok (.aload_n 0, 1) := by decide +kernel
theorem dX0_record_27 : decode cX0_record 27 = .ok (.iconst 3, 1) := by decide +kernel
theorem dX0_record_28 : decode cX0_record 28 = .ok (.putfield 15, 3) := by decide +kernel
theorem dX0_record_31 : decode cX0_record 31 = .ok (.aload_n 0, 1) := by decide +kernel
theorem dX0_record_32 : decode cX0_record 32 = .ok (.getfield 15, 3) := by decide +kernel
theorem dX0_record_35 : decode cX0_record 35 = .ok (.sipush 168, 3) := by decide +kernel
theorem dX0_record_38 : decode cX0_record 38 = .ok (.imul, 1) := by decide +kernel
theorem dX0_record_39 : decode cX0_record 39 = .ok (.istore 4, 2) := by decide +kernel
theorem dX0_record_41 : decode cX0_record 41 = .ok (.aload_n 1, 1) := by decide +kernel
theorem dX0_record_42 : decode cX0_record 42 = .ok (.aload_n 0, 1) := by decide +kernel
theorem dX0_record_43 : decode cX0_record 43 = .ok (.getfield 11, 3) := by decide +kernel
theorem dX0_record_46 : decode cX0_record 46 = .ok (.iload 4, 2) := by decide +kernel
theorem dX0_record_48 : decode cX0_record 48 = .ok (.invokevirtual 25, 3) := by decide +kernel
theorem dX0_record_51 : decode cX0_record 51 = .ok (.aload_n 2, 1) := by decide +kernel
theorem dX0_record_52 : decode cX0_record 52 = .ok (.aload_n 0, 1) := by decide +kernel
theorem dX0_record_53 : decode cX0_record 53 = .ok (.getfield 11, 3) := by decide +kernel
theorem dX0_record_56 : decode cX0_record 56 = .ok (.iload 4, 2) := by decide +kernel
theorem dX0_record_58 : decode cX0_record 58 = .ok (.bipush 56, 2) := by decide +kernel
theorem dX0_record_60 : decode cX0_record 60 = .ok (.iadd, 1) := by decide +kernel
theorem dX0_record_61 : decode cX0_record 61 = .ok (.invokevirtual 25, 3) := by decide +kernel
theorem dX0_record_64 : decode cX0_record 64 = .ok (.aload_n 3, 1) := by decide +kernel
theorem dX0_record_65 : decode cX0_record 65 = .ok (.aload_n 0, 1) := by decide +kernel
theorem dX0_record_66 : decode cX0_record 66 = .ok (.getfield 11, 3) := by decide +kernel
theorem dX0_record_69 : decode cX0_record 69 = .ok (.iload 4, 2) := by decide +kernel
theorem dX0_record_71 : decode cX0_record 71 = .ok (.bipush 112, 2) := by decide +kernel
theorem dX0_record_73 : decode cX0_record 73 = .ok (.iadd, 1) := by decide +kernel
theorem dX0_record_74 : decode cX0_record 74 = .ok (.invokevirtual 25, 3) := by decide +kernel
theorem dX0_record_77 : decode cX0_record 77 = .ok (.aload_n 0, 1) := by decide +kernel
theorem dX0_record_78 : decode cX0_record 78 = .ok (.dup, 1) := by decide +kernel
theorem dX0_record_79 : decode cX0_record 79 = .ok (.getfield 15, 3) := by decide +kernel
theorem dX0_record_82 : decode cX0_record 82 = .ok (.iconst 1, 1) := by decide +kernel
theorem dX0_record_83 : decode cX0_record 83 = .ok (.iadd, 1) := by decide +kernel
theorem dX0_record_84 : decode cX0_record 84 = .ok (.putfield 15, 3) := by decide +kernel
theorem dX0_record_87 : decode cX0_record 87 = .ok (.return_, 1) := by decide +kernel
theorem dX0_restore_0 : decode cX0_restore 0 = .ok (.aload_n 0, 1) := by decide +kernel
theorem dX0_restore_1 : decode cX0_restore 1 = .ok (.getfield 15, 3) := by decide +kernel
theorem dX0_restore_4 : decode cX0_restore 4 = .ok (.ifCond .le 59, 3) := by decide +kernel
theorem dX0_restore_7 : decode cX0_restore 7 = .ok (.aload_n 0, 1) := by decide +kernel
theorem dX0_restore_8 : decode cX0_restore 8 = .ok (.dup, 1) := by decide +kernel
theorem dX0_restore_9 : decode cX0_restore 9 = .ok (.getfield 15, 3) := by decide +kernel
theorem dX0_restore_12 : decode cX0_restore 12 = .ok (.iconst 1, 1) := by decide +kernel
theorem dX0_restore_13 : decode cX0_restore 13 = .ok (.isub, 1) := by decide +kernel
theorem dX0_restore_14 : decode cX0_restore 14 = .ok (.putfield 15, 3) := by decide +kernel
theorem dX0_restore_17 : decode cX0_restore 17 = .ok (.aload_n 0, 1) := by decide +kernel
theorem dX0_restore_18 : decode cX0_restore 18 = .ok (.getfield 15, 3) := by decide +kernel
theorem dX0_restore_21 : decode cX0_restore 21 = .ok (.sipush 168, 3) := by decide +kernel
theorem dX0_restore_24 : decode cX0_restore 24 = .ok (.imul, 1) := by decide +kernel
theorem dX0_restore_25 : decode cX0_restore 25 = .ok (.istore 4, 2) := by decide +kernel
theorem dX0_restore_27 : decode cX0_restore 27 = .ok (.aload_n 1, 1) := by decide +kernel
theorem dX0_restore_28 : decode cX0_restore 28 = .ok (.aload_n 0, 1) := by decide +kernel
theorem dX0_restore_29 : decode cX0_restore 29 = .ok (.getfield 11, 3) := by decide +kernel
theorem dX0_restore_32 : decode cX0_restore 32 = .ok (.iload 4, 2) := by decide +kernel
theorem dX0_restore_34 : decode cX0_restore 34 = .ok (.invokevirtual 29, 3) := by decide +kernel
theorem dX0_restore_37 : decode cX0_restore 37 = .ok (.aload_n 2, 1) := by decide +kernel
theorem dX0_restore_38 : decode cX0_restore 38 = .ok (.aload_n 0, 1) := by decide +kernel
theorem dX0_restore_39 : decode cX0_restore 39 = .ok (.getfield 11, 3) := by decide +kernel
theorem dX0_restore_42 : decode cX0_restore 42 = .ok (.iload 4, 2) := by decide +kernel
theorem dX0_restore_44 : decode cX0_restore 44 = .ok (.bipush 56, 2) := by decide +kernel
theorem dX0_restore_46 : decode cX0_restore 46 = .ok (.iadd, 1) := by decide +kernel
theorem dX0_restore_47 : decode cX0_restore 47 = .ok (.invokevirtual 29, 3) := by decide +kernel
theorem dX0_restore_50 : decode cX0_restore 50 = .ok (.aload_n 3, 1) := by decide +kernel
theorem dX0_restore_51 : decode cX0_restore 51 = .ok (.aload_n 0, 1) := by decide +kernel
theorem dX0_restore_52 : decode cX0_restore 52 = .ok (.getfield 11, 3) := by decide +kernel
theorem dX0_restore_55 : decode cX0_restore 55 = .ok (.iload 4, 2) := by decide +kernel
theorem dX0_restore_57 : decode cX0_restore 57 = .ok (.bipush 112, 2) := by decide +kernel
theorem dX0_restore_59 : decode cX0_restore 59 = .ok (.iadd, 1) := by decide +kernel
theorem dX0_restore_60 : decode cX0_restore 60 = .ok (.invokevirtual 29, 3) := by decide +kernel
theorem dX0_restore_63 : decode cX0_restore 63 = .ok (.return_, 1) := by decide +kernel
theorem dX1_init_0 : decode cX1_init 0 = .ok (.aload_n 0, 1) := by decide +kernel
theorem dX1_init_1 : decode cX1_init 1 = .ok (.invokespecial 3, 3) := by decide +kernel
theorem dX1_init_4 : decode cX1_init 4 = .ok (.aload_n 0, 1) := by decide +kernel
theorem dX1_init_5 : decode cX1_init 5 = .ok (.bipush 64, 2) := by decide +kernel
theorem dX1_init_7 : decode cX1_init 7 = .ok (.newarray .boolean, 2) := by decide +kernel
theorem dX1_init_9 : decode cX1_init 9 = .ok (.putfield 9, 3) := by decide +kernel
theorem dX1_init_12 : decode cX1_init 12 = .ok (.return_, 1) := by decide +kernel
theorem dX1_compare_0 : decode cX1_compare 0 = .ok (.iconst 0, 1) := by decide +kernel
theorem dX1_compare_1 : decode cX1_compare 1 = .ok (.istore_n 2, 1) := by decide +kernel
theorem dX1_compare_2 : decode cX1_compare 2 = .ok (.iload_n 2, 1) := by decide +kernel
theorem dX1_compare_3 : decode cX1_compare 3 = .ok (.bipush 8, 2) := by decide +kernel
theorem dX1_compare_5 : decode cX1_compare 5 = .ok (.if_icmp .ge 40, 3) := by decide +kernel
theorem dX1_compare_8 : decode cX1_compare 8 = .ok (.iconst 0, 1) := by decide +kernel
theorem dX1_compare_9 : decode cX1_compare 9 = .ok (.istore_n 3, 1) := by decide +kernel
theorem dX1_compare_10 : decode cX1_compare 10 = .ok (.iload_n 3, 1) := by decide +kernel
theorem dX1_compare_11 : decode cX1_compare 11 = .ok (.bipush 8, 2) := by decide +kernel
theorem dX1_compare_13 : decode cX1_compare 13 = .ok (.if_icmp .ge 26, 3) := by decide +kernel
theorem dX1_compare_16 : decode cX1_compare 16 = .ok (.aload_n 0, 1) := by decide +kernel
theorem dX1_compare_17 : decode cX1_compare 17 = .ok (.getfield 9, 3) := by decide +kernel
theorem dX1_compare_20 : decode cX1_compare 20 = .ok (.iload_n 2, 1) := by decide +kernel
theorem dX1_compare_21 : decode cX1_compare 21 = .ok (.bipush 8, 2) := by decide +kernel
theorem dX1_compare_23 : decode cX1_compare 23 = .ok (.imul, 1) := by decide +kernel
theorem dX1_compare_24 : decode cX1_compare 24 = .ok (.iload_n 3, 1) := by decide +kernel
theorem dX1_compare_25 : decode cX1_compare 25 = .ok (.iadd, 1) := by decide +kernel
theorem dX1_compare_26 : decode cX1_compare 26 = .ok (.aload_n 1, 1) := by decide +kernel
theorem dX1_compare_27 : decode cX1_compare 27 = .ok (.iload_n 2, 1) := by decide +kernel
theorem dX1_compare_28 : decode cX1_compare 28 = .ok (.iload_n 3, 1) := by decide +kernel
theorem dX1_compare_29 : decode cX1_compare 29 = .ok (.invokestatic 15, 3) := by decide +kernel
theorem dX1_compare_32 : decode cX1_compare 32 = .ok (.bastore, 1) := by decide +kernel
theorem dX1_compare_33 : decode cX1_compare 33 = .ok (.iinc 3 1, 3) := by decide +kernel
theorem dX1_compare_36 : decode cX1_compare 36 = .ok (.goto (-26), 3) := by decide +kernel
theorem dX1_compare_39 : decode cX1_compare 39 = .ok (.iinc 2 1, 3) := by decide +kernel
theorem dX1_compare_42 : decode cX1_compare 42 = .ok (.goto (-40), 3) := by decide +kernel
theorem dX1_compare_45 : decode cX1_compare 45 = .ok (.iconst 1, 1) := by decide +kernel
theorem dX1_compare_46 : decode cX1_compare 46 = .ok (.istore_n 2, 1) := by decide +kernel
theorem dX1_compare_47 : decode cX1_compare 47 = .ok (.iload_n 2, 1) := by decide +kernel
theorem dX1_compare_48 : decode cX1_compare 48 = .ok (.bipush 8, 2) := by decide +kernel
theorem dX1_compare_50 : decode cX1_compare 50 = .ok (.if_icmp .ge 14, 3) := by decide +kernel
theorem dX1_compare_53 : decode cX1_compare 53 = .ok (.aload_n 0, 1) := by decide +kernel
theorem dX1_compare_54 : decode cX1_compare 54 = .ok (.aload_n 1, 1) := by decide +kernel
theorem dX1_compare_55 : decode cX1_compare 55 = .ok (.invokevirtual 19, 3) := by decide +kernel
theorem dX1_compare_58 : decode cX1_compare 58 = .ok (.iinc 2 1, 3) := by decide +kernel
theorem dX1_compare_61 : decode cX1_compare 61 = .ok (.goto (-14), 3) := by decide +kernel
theorem dX1_compare_64 : decode cX1_compare 64 = .ok (.return_, 1) := by decide +kernel
theorem dX1_part_0 : decode cX1_part 0 = .ok (.iconst 0, 1) := by decide +kernel
theorem dX1_part_1 : decode cX1_part 1 = .ok (.istore_n 2, 1) := by decide +kernel
theorem dX1_part_2 : decode cX1_part 2 = .ok (.iload_n 2, 1) := by decide +kernel
theorem dX1_part_3 : decode cX1_part 3 = .ok (.bipush 8, 2) := by decide +kernel
theorem dX1_part_5 : decode cX1_part 5 = .ok (.if_icmp .ge 45, 3) := by decide +kernel
theorem dX1_part_8 : decode cX1_part 8 = .ok (.iconst 0, 1) := by decide +kernel
theorem dX1_part_9 : decode cX1_part 9 = .ok (.istore_n 3, 1) := by decide +kernel
theorem dX1_part_10 : decode cX1_part 10 = .ok (.iload_n 3, 1) := by decide +kernel
theorem dX1_part_11 : decode cX1_part 11 = .ok (.bipush 8, 2) := by decide +kernel
theorem dX1_part_13 : decode cX1_part 13 = .ok (.if_icmp .ge 31, 3) := by decide +kernel
theorem dX1_part_16 : decode cX1_part 16 = .ok (.aload_n 0, 1) := by decide +kernel
theorem dX1_part_17 : decode cX1_part 17 = .ok (.aload_n 1, 1) := by decide +kernel
theorem dX1_part_18 : decode cX1_part 18 = .ok (.iload_n 2, 1) := by decide +kernel
theorem dX1_part_19 : decode cX1_part 19 = .ok (.iload_n 3, 1) := by decide +kernel
theorem dX1_part_20 : decode cX1_part 20 = .ok (.invokevirtual 23, 3) := by decide +kernel
theorem dX1_part_23 : decode cX1_part 23 = .ok (.ifCond .ne 15, 3) := by decide +kernel
theorem dX1_part_26 : decode cX1_part 26 = .ok (.aload_n 0, 1) := by decide +kernel
theorem dX1_part_27 : decode cX1_part 27 = .ok (.getfield 9, 3) := by decide +kernel
theorem dX1_part_30 : decode cX1_part 30 = .ok (.iload_n 2, 1) := by decide +kernel
theorem dX1_part_31 : decode cX1_part 31 = .ok (.bipush 8, 2) := by decide +kernel
theorem dX1_part_33 : decode cX1_part 33 = .ok (.imul, 1) := by decide +kernel
theorem dX1_part_34 : decode cX1_part 34 = .ok (.iload_n 3, 1) := by decide +kernel
theorem dX1_part_35 : decode cX1_part 35 = .ok (.iadd, 1) := by decide +kernel
theorem dX1_part_36 : decode cX1_part 36 = .ok (.iconst 0, 1) := by decide +kernel
theorem dX1_part_37 : decode cX1_part 37 = .ok (.bastore, 1) := by decide +kernel
theorem dX1_part_38 : decode cX1_part 38 = .ok (.iinc 3 1, 3) := by decide +kernel
theorem dX1_part_41 : decode cX1_part 41 = .ok (.goto (-31), 3) := by decide +kernel
theorem dX1_part_44 : decode cX1_part 44 = .ok (.iinc 2 1, 3) := by decide +kernel
theorem dX1_part_47 : decode cX1_part 47 = .ok (.goto (-45), 3) := by decide +kernel
theorem dX1_part_50 : decode cX1_part 50 = .ok (.return_, 1) := by decide +kernel
theorem dX1_looksAlike_0 : decode cX1_looksAlike 0 = .ok (.aload_n 0, 1) := by decide +kernel
theorem dX1_looksAlike_1 : decode cX1_looksAlike 1 = .ok (.iload_n 1, 1) := by decide +kernel
theorem dX1_looksAlike_2 : decode cX1_looksAlike 2 = .ok (.invokevirtual 26, 3) := by decide +kernel
theorem dX1_looksAlike_5 : decode cX1_looksAlike 5 = .ok (.istore_n 3, 1) := by decide +kernel
theorem dX1_looksAlike_6 : decode cX1_looksAlike 6 = .ok (.iload_n 3, 1) := by decide +kernel
theorem dX1_looksAlike_7 : decode cX1_looksAlike 7 = .ok (.aload_n 0, 1) := by decide +kernel
theorem dX1_looksAlike_8 : decode cX1_looksAlike 8 = .ok (.iload_n 2, 1) := by decide +kernel
theorem dX1_looksAlike_9 : decode cX1_looksAlike 9 = .ok (.invokevirtual 26, 3) := by decide +kernel
theorem dX1_looksAlike_12 : decode cX1_looksAlike 12 = .ok (.if_icmp .ne 24, 3) := by decide +kernel
theorem dX1_looksAlike_15 : decode cX1_looksAlike 15 = .ok (.iload_n 3, 1) := by decide +kernel
theorem dX1_looksAlike_16 : decode cX1_looksAlike 16 = .ok (.ifCond .eq 16, 3) := by decide +kernel
theorem dX1_looksAlike_19 : decode cX1_looksAlike 19 = .ok (.aload_n 0, 1) := by decide +kernel
theorem dX1_looksAlike_20 : decode cX1_looksAlike 20 = .ok (.iload_n 1, 1) := by decide +kernel
theorem dX1_looksAlike_21 : decode cX1_looksAlike 21 = .ok (.invokevirtual 32, 3) := by decide +kernel
theorem dX1_looksAlike_24 : decode cX1_looksAlike 24 = .ok (.aload_n 0, 1) := by decide +kernel
theorem dX1_looksAlike_25 : decode cX1_looksAlike 25 = .ok (.iload_n 2, 1) := by decide +kernel
theorem dX1_looksAlike_26 : decode cX1_looksAlike 26 = .ok (.invokevirtual 32, 3) := by decide +kernel
theorem dX1_looksAlike_29 : decode cX1_looksAlike 29 = .ok (.if_icmp .ne 7, 3) := by decide +kernel
theorem dX1_looksAlike_32 : decode cX1_looksAlike 32 = .ok (.iconst 1, 1) := by decide +kernel
theorem dX1_looksAlike_33 : decode cX1_looksAlike 33 = .ok (.goto 4, 3) := by decide +kernel
theorem dX1_looksAlike_36 : decode cX1_looksAlike 36 = .ok (.iconst 0, 1) := by decide +kernel
theorem dX1_looksAlike_37 : decode cX1_looksAlike 37 = .ok (.ireturn, 1) := by decide +kernel
theorem dX1_leadsAlike_0 : decode cX1_leadsAlike 0 = .ok (.aload_n 1, 1) := by decide +kernel
theorem dX1_leadsAlike_1 : decode cX1_leadsAlike 1 = .ok (.iload_n 2, 1) := by decide +kernel
theorem dX1_leadsAlike_2 : decode cX1_leadsAlike 2 = .ok (.invokevirtual 26, 3) := by decide +kernel
theorem dX1_leadsAlike_5 : decode cX1_leadsAlike 5 = .ok (.ifCond .ne 5, 3) := by decide +kernel
theorem dX1_leadsAlike_8 : decode cX1_leadsAlike 8 = .ok (.iconst 1, 1) := by decide +kernel
theorem dX1_leadsAlike_9 : decode cX1_leadsAlike 9 = .ok (.ireturn, 1) := by decide +kernel
theorem dX1_leadsAlike_10 : decode cX1_leadsAlike 10 = .ok (.iconst 0, 1) := by decide +kernel
theorem dX1_leadsAlike_11 : decode cX1_leadsAlike 11 = .ok (.istore 4, 2) := by decide +kernel
theorem dX1_leadsAlike_13 : decode cX1_leadsAlike 13 = .ok (.iload 4, 2) := by decide +kernel
theorem dX1_leadsAlike_15 : decode cX1_leadsAlike 15 = .ok (.bipush 6, 2) := by decide +kernel
theorem dX1_leadsAlike_17 : decode cX1_leadsAlike 17 = .ok (.if_icmp .ge 52, 3) := by decide +kernel
theorem dX1_leadsAlike_20 : decode cX1_leadsAlike 20 = .ok (.aload_n 1, 1) := by decide +kernel
theorem dX1_leadsAlike_21 : decode cX1_leadsAlike 21 = .ok (.iload_n 2, 1) := by decide +kernel
theorem dX1_leadsAlike_22 : decode cX1_leadsAlike 22 = .ok (.iload 4, 2) := by decide +kernel
theorem dX1_leadsAlike_24 : decode cX1_leadsAlike 24 = .ok (.invokevirtual 35, 3) := by decide +kernel
theorem dX1_leadsAlike_27 : decode cX1_leadsAlike 27 = .ok (.istore 5, 2) := by decide +kernel
theorem dX1_leadsAlike_29 : decode cX1_leadsAlike 29 = .ok (.aload_n 1, 1) := by decide +kernel
theorem dX1_leadsAlike_30 : decode cX1_leadsAlike 30 = .ok (.iload_n 3, 1) := by decide +kernel
theorem dX1_leadsAlike_31 : decode cX1_leadsAlike 31 = .ok (.iload 4, 2) := by decide +kernel
theorem dX1_leadsAlike_33 : decode cX1_leadsAlike 33 = .ok (.invokevirtual 35, 3) := by decide +kernel
theorem dX1_leadsAlike_36 : decode cX1_leadsAlike 36 = .ok (.istore 6, 2) := by decide +kernel
theorem dX1_leadsAlike_38 : decode cX1_leadsAlike 38 = .ok (.iload 5, 2) := by decide +kernel
theorem dX1_leadsAlike_40 : decode cX1_leadsAlike 40 = .ok (.iconst (-1), 1) := by decide +kernel
theorem dX1_leadsAlike_41 : decode cX1_leadsAlike 41 = .ok (.if_icmp .eq 22, 3) := by decide +kernel
theorem dX1_leadsAlike_44 : decode cX1_leadsAlike 44 = .ok (.iload 6, 2) := by decide +kernel
theorem dX1_leadsAlike_46 : decode cX1_leadsAlike 46 = .ok (.iconst (-1), 1) := by decide +kernel
theorem dX1_leadsAlike_47 : decode cX1_leadsAlike 47 = .ok (.if_icmp .eq 16, 3) := by decide +kernel
theorem dX1_leadsAlike_50 : decode cX1_leadsAlike 50 = .ok (.aload_n 0, 1) := by decide +kernel
theorem dX1_leadsAlike_51 : decode cX1_leadsAlike 51 = .ok (.iload 5, 2) := by decide +kernel
theorem dX1_leadsAlike_53 : decode cX1_leadsAlike 53 = .ok (.iload 6, 2) := by decide +kernel
theorem dX1_leadsAlike_55 : decode cX1_leadsAlike 55 = .ok (.invokevirtual 39, 3) := by decide +kernel
theorem dX1_leadsAlike_58 : decode cX1_leadsAlike 58 = .ok (.ifCond .ne 5, 3) := by decide +kernel
theorem dX1_leadsAlike_61 : decode cX1_leadsAlike 61 = .ok (.iconst 0, 1) := by decide +kernel
theorem dX1_leadsAlike_62 : decode cX1_leadsAlike 62 = .ok (.ireturn, 1) := by decide +kernel
theorem dX1_leadsAlike_63 : decode cX1_leadsAlike 63 = .ok (.iinc 4 1, 3) := by decide +kernel
theorem dX1_leadsAlike_66 : decode cX1_leadsAlike 66 = .ok (.goto (-53), 3) := by decide +kernel
theorem dX1_leadsAlike_69 : decode cX1_leadsAlike 69 = .ok (.iconst 1, 1) := by decide +kernel
theorem dX1_leadsAlike_70 : decode cX1_leadsAlike 70 = .ok (.ireturn, 1) := by decide +kernel
theorem dX1_areAlike_0 : decode cX1_areAlike 0 = .ok (.iload_n 1, 1) := by decide +kernel
theorem dX1_areAlike_1 : decode cX1_areAlike 1 = .ok (.invokestatic 43, 3) := by decide +kernel
theorem dX1_areAlike_4 : decode cX1_areAlike 4 = .ok (.ifCond .eq 28, 3) := by decide +kernel
theorem dX1_areAlike_7 : decode cX1_areAlike 7 = .ok (.iload_n 2, 1) := by decide +kernel
theorem dX1_areAlike_8 : decode cX1_areAlike 8 = .ok (.invokestatic 43, 3) := by decide +kernel
theorem dX1_areAlike_11 : decode cX1_areAlike 11 = .ok (.ifCond .eq 21, 3) := by decide +kernel
theorem dX1_areAlike_14 : decode cX1_areAlike 14 = .ok (.aload_n 0, 1) := by decide +kernel
theorem dX1_areAlike_15 : decode cX1_areAlike 15 = .ok (.getfield 9, 3) := by decide +kernel
theorem dX1_areAlike_18 : decode cX1_areAlike 18 = .ok (.iload_n 1, 1) := by decide +kernel
theorem dX1_areAlike_19 : decode cX1_areAlike 19 = .ok (.bipush 8, 2) := by decide +kernel
theorem dX1_areAlike_21 : decode cX1_areAlike 21 = .ok (.imul, 1) := by decide +kernel
theorem dX1_areAlike_22 : decode cX1_areAlike 22 = .ok (.iload_n 2, 1) := by decide +kernel
theorem dX1_areAlike_23 : decode cX1_areAlike 23 = .ok (.iadd, 1) := by decide +kernel
theorem dX1_areAlike_24 : decode cX1_areAlike 24 = .ok (.baload, 1) := by decide +kernel
theorem dX1_areAlike_25 : decode cX1_areAlike 25 = .ok (.ifCond .eq 7, 3) := by decide +kernel
theorem dX1_areAlike_28 : decode cX1_areAlike 28 = .ok (.iconst 1, 1) := by decide +kernel
theorem dX1_areAlike_29 : decode cX1_areAlike 29 = .ok (.goto 4, 3) := by decide +kernel
theorem dX1_areAlike_32 : decode cX1_areAlike 32 = .ok (.iconst 0, 1) := by decide +kernel
theorem dX1_areAlike_33 : decode cX1_areAlike 33 = .ok (.ireturn, 1) := by decide +kernel
theorem dX1_lowestAlike_0 : decode cX1_lowestAlike 0 = .ok (.iconst 0, 1) := by decide +kernel
theorem dX1_lowestAlike_1 : decode cX1_lowestAlike 1 = .ok (.istore_n 2, 1) := by decide +kernel
theorem dX1_lowestAlike_2 : decode cX1_lowestAlike 2 = .ok (.iload_n 2, 1) := by decide +kernel
theorem dX1_lowestAlike_3 : decode cX1_lowestAlike 3 = .ok (.bipush 8, 2) := by decide +kernel
theorem dX1_lowestAlike_5 : decode cX1_lowestAlike 5 = .ok (.if_icmp .ge 20, 3) := by decide +kernel
theorem dX1_lowestAlike_8 : decode cX1_lowestAlike 8 = .ok (.aload_n 0, 1) := by decide +kernel
theorem dX1_lowestAlike_9 : decode cX1_lowestAlike 9 = .ok (.iload_n 1, 1) := by decide +kernel
theorem dX1_lowestAlike_10 : decode cX1_lowestAlike 10 = .ok (.iload_n 2, 1) := by decide +kernel
theorem dX1_lowestAlike_11 : decode cX1_lowestAlike 11 = .ok (.invokevirtual 39, 3) := by decide +kernel
theorem dX1_lowestAlike_14 : decode cX1_lowestAlike 14 = .ok (.ifCond .eq 5, 3) := by decide +kernel
theorem dX1_lowestAlike_17 : decode cX1_lowestAlike 17 = .ok (.iload_n 2, 1) := by decide +kernel
theorem dX1_lowestAlike_18 : decode cX1_lowestAlike 18 = .ok (.ireturn, 1) := by decide +kernel
theorem dX1_lowestAlike_19 : decode cX1_lowestAlike 19 = .ok (.iinc 2 1, 3) := by decide +kernel
theorem dX1_lowestAlike_22 : decode cX1_lowestAlike 22 = .ok (.goto (-20), 3) := by decide +kernel
theorem dX1_lowestAlike_25 : decode cX1_lowestAlike 25 = .ok (.iload_n 1, 1) := by decide +kernel
theorem dX1_lowestAlike_26 : decode cX1_lowestAlike 26 = .ok (.ireturn, 1) := by decide +kernel
theorem dX2_init_0 : decode cX2_init 0 = .ok (.aload_n 0, 1) := by decide +kernel
theorem dX2_init_1 : decode cX2_init 1 = .ok (.invokespecial 3, 3) := by decide +kernel
theorem dX2_init_4 : decode cX2_init 4 = .ok (.aload_n 0, 1) := by decide +kernel
theorem dX2_init_5 : decode cX2_init 5 = .ok (.bipush 64, 2) := by decide +kernel
theorem dX2_init_7 : decode cX2_init 7 = .ok (.newarray .int, 2) := by decide +kernel
theorem dX2_init_9 : decode cX2_init 9 = .ok (.putfield 9, 3) := by decide +kernel
theorem dX2_init_12 : decode cX2_init 12 = .ok (.aload_n 0, 1) := by decide +kernel
theorem dX2_init_13 : decode cX2_init 13 = .ok (.bipush 64, 2) := by decide +kernel
theorem dX2_init_15 : decode cX2_init 15 = .ok (.newarray .int, 2) := by decide +kernel
theorem dX2_init_17 : decode cX2_init 17 = .ok (.putfield 15, 3) := by decide +kernel
theorem dX2_init_20 : decode cX2_init 20 = .ok (.aload_n 0, 1) := by decide +kernel
theorem dX2_init_21 : decode cX2_init 21 = .ok (.bipush 64, 2) := by decide +kernel
theorem dX2_init_23 : decode cX2_init 23 = .ok (.newarray .int, 2) := by decide +kernel
theorem dX2_init_25 : decode cX2_init 25 = .ok (.putfield 18, 3) := by decide +kernel
theorem dX2_init_28 : decode cX2_init 28 = .ok (.aload_n 0, 1) := by decide +kernel
theorem dX2_init_29 : decode cX2_init 29 = .ok (.bipush 64, 2) := by decide +kernel
theorem dX2_init_31 : decode cX2_init 31 = .ok (.newarray .int, 2) := by decide +kernel
theorem dX2_init_33 : decode cX2_init 33 = .ok (.putfield 21, 3) := by decide +kernel
theorem dX2_init_36 : decode cX2_init 36 = .ok (.aload_n 0, 1) := by decide +kernel
theorem dX2_init_37 : decode cX2_init 37 = .ok (.bipush 64, 2) := by decide +kernel
theorem dX2_init_39 : decode cX2_init 39 = .ok (.newarray .int, 2) := by decide +kernel
theorem dX2_init_41 : decode cX2_init 41 = .ok (.putfield 24, 3) := by decide +kernel
theorem dX2_init_44 : decode cX2_init 44 = .ok (.aload_n 0, 1) := by decide +kernel
theorem dX2_init_45 : decode cX2_init 45 = .ok (.aload_n 1, 1) := by decide +kernel
theorem dX2_init_46 : decode cX2_init 46 = .ok (.putfield 27, 3) := by decide +kernel
theorem dX2_init_49 : decode cX2_init 49 = .ok (.aload_n 0, 1) := by decide +kernel
theorem dX2_init_50 : decode cX2_init 50 = .ok (.aload_n 1, 1) := by decide +kernel
theorem dX2_init_51 : decode cX2_init 51 = .ok (.putfield 31, 3) := by decide +kernel
theorem dX2_init_54 : decode cX2_init 54 = .ok (.return_, 1) := by decide +kernel
theorem dX2_walk_0 : decode cX2_walk 0 = .ok (.aload_n 0, 1) := by decide +kernel
theorem dX2_walk_1 : decode cX2_walk 1 = .ok (.aload_n 1, 1) := by decide +kernel
theorem dX2_walk_2 : decode cX2_walk 2 = .ok (.putfield 27, 3) := by decide +kernel
theorem dX2_walk_5 : decode cX2_walk 5 = .ok (.aload_n 0, 1) := by decide +kernel
theorem dX2_walk_6 : decode cX2_walk 6 = .ok (.aload_n 2, 1) := by decide +kernel
theorem dX2_walk_7 : decode cX2_walk 7 = .ok (.putfield 31, 3) := by decide +kernel
theorem dX2_walk_10 : decode cX2_walk 10 = .ok (.aload_n 0, 1) := by decide +kernel
theorem dX2_walk_11 : decode cX2_walk 11 = .ok (.getfield 15, 3) := by decide +kernel
theorem dX2_walk_14 : decode cX2_walk 14 = .ok (.iconst (-1), 1) := by decide +kernel
theorem dX2_walk_15 : decode cX2_walk 15 = .ok (.invokestatic 34, 3) := by decide +kernel
theorem dX2_walk_18 : decode cX2_walk 18 = .ok (.aload_n 0, 1) := by decide +kernel
theorem dX2_walk_19 : decode cX2_walk 19 = .ok (.iconst 0, 1) := by decide +kernel
theorem dX2_walk_20 : decode cX2_walk 20 = .ok (.putfield 40, 3) := by decide +kernel
theorem dX2_walk_23 : decode cX2_walk 23 = .ok (.aload_n 0, 1) := by decide +kernel
theorem dX2_walk_24 : decode cX2_walk 24 = .ok (.iconst 0, 1) := by decide +kernel
theorem dX2_walk_25 : decode cX2_walk 25 = .ok (.iconst 0, 1) := by decide +kernel
theorem dX2_walk_26 : decode cX2_walk 26 = .ok (.iconst (-1), 1) := by decide +kernel
theorem dX2_walk_27 : decode cX2_walk 27 = .ok (.iconst (-1), 1) := by decide +kernel
theorem dX2_walk_28 : decode cX2_walk 28 = .ok (.invokevirtual 44, 3) := by decide +kernel
theorem dX2_walk_31 : decode cX2_walk 31 = .ok (.iconst 0, 1) := by decide +kernel
theorem dX2_walk_32 : decode cX2_walk 32 = .ok (.istore_n 3, 1) := by decide +kernel
theorem dX2_walk_33 : decode cX2_walk 33 = .ok (.iload_n 3, 1) := by decide +kernel
theorem dX2_walk_34 : decode cX2_walk 34 = .ok (.aload_n 0, 1) := by decide +kernel
theorem dX2_walk_35 : decode cX2_walk 35 = .ok (.getfield 40, 3) := by decide +kernel
theorem dX2_walk_38 : decode cX2_walk 38 = .ok (.if_icmp .ge 75, 3) := by decide +kernel
theorem dX2_walk_41 : decode cX2_walk 41 = .ok (.iload_n 3, 1) := by decide +kernel
theorem dX2_walk_42 : decode cX2_walk 42 = .ok (.bipush 64, 2) := by decide +kernel
theorem dX2_walk_44 : decode cX2_walk 44 = .ok (.if_icmp .ge 69, 3) := by decide +kernel
theorem dX2_walk_47 : decode cX2_walk 47 = .ok (.iconst 0, 1) := by decide +kernel
theorem dX2_walk_48 : decode cX2_walk 48 = .ok (.istore 4, 2) := by decide +kernel
theorem dX2_walk_50 : decode cX2_walk 50 = .ok (.iload 4, 2) := by decide +kernel
theorem dX2_walk_52 : decode cX2_walk 52 = .ok (.bipush 6, 2) := by decide +kernel
theorem dX2_walk_54 : decode cX2_walk 54 = .ok (.if_icmp .ge 53, 3) := by decide +kernel
theorem dX2_walk_57 : decode cX2_walk 57 = .ok (.aload_n 0, 1) := by decide +kernel
theorem dX2_walk_58 : decode cX2_walk 58 = .ok (.iload_n 3, 1) := by decide +kernel
theorem dX2_walk_59 : decode cX2_walk 59 = .ok (.iload 4, 2) := by decide +kernel
theorem dX2_walk_61 : decode cX2_walk 61 = .ok (.invokevirtual 48, 3) := by decide +kernel
theorem dX2_walk_64 : decode cX2_walk 64 = .ok (.istore 5, 2) := by decide +kernel
theorem dX2_walk_66 : decode cX2_walk 66 = .ok (.iload 5, 2) := by decide +kernel
theorem dX2_walk_68 : decode cX2_walk 68 = .ok (.iconst (-1), 1) := by decide +kernel
theorem dX2_walk_69 : decode cX2_walk 69 = .ok (.if_icmp .eq 32, 3) := by decide +kernel
theorem dX2_walk_72 : decode cX2_walk 72 = .ok (.aload_n 0, 1) := by decide +kernel
theorem dX2_walk_73 : decode cX2_walk 73 = .ok (.getfield 15, 3) := by decide +kernel
theorem dX2_walk_76 : decode cX2_walk 76 = .ok (.iload 5, 2) := by decide +kernel
theorem dX2_walk_78 : decode cX2_walk 78 = .ok (.invokestatic 52, 3) := by decide +kernel
theorem dX2_walk_81 : decode cX2_walk 81 = .ok (.iconst (-1), 1) := by decide +kernel
theorem dX2_walk_82 : decode cX2_walk 82 = .ok (.if_icmp .ne 19, 3) := by decide +kernel
theorem dX2_walk_85 : decode cX2_walk 85 = .ok (.aload_n 0, 1) := by decide +kernel
theorem dX2_walk_86 : decode cX2_walk 86 = .ok (.iload 5, 2) := by decide +kernel
theorem dX2_walk_88 : decode cX2_walk 88 = .ok (.aload_n 0, 1) := by decide +kernel
theorem dX2_walk_89 : decode cX2_walk 89 = .ok (.iload_n 3, 1) := by decide +kernel
theorem dX2_walk_90 : decode cX2_walk 90 = .ok (.invokevirtual 56, 3) := by decide +kernel
theorem dX2_walk_93 : decode cX2_walk 93 = .ok (.iconst 1, 1) := by decide +kernel
theorem dX2_walk_94 : decode cX2_walk 94 = .ok (.iadd, 1) := by decide +kernel
theorem dX2_walk_95 : decode cX2_walk 95 = .ok (.iload_n 3, 1) := by decide +kernel
theorem dX2_walk_96 : decode cX2_walk 96 = .ok (.iload 4, 2) := by decide +kernel
theorem dX2_walk_98 : decode cX2_walk 98 = .ok (.invokevirtual 44, 3) := by decide +kernel
theorem dX2_walk_101 : decode cX2_walk 101 = .ok (.iinc 4 1, 3) := by decide +kernel
theorem dX2_walk_104 : decode cX2_walk 104 = .ok (.goto (-54), 3) := by decide +kernel
theorem dX2_walk_107 : decode cX2_walk 107 = .ok (.iinc 3 1, 3) := by decide +kernel
theorem dX2_walk_110 : decode cX2_walk 110 = .ok (.goto (-77), 3) := by decide +kernel
theorem dX2_walk_113 : decode cX2_walk 113 = .ok (.return_, 1) := by decide +kernel
theorem dX2_add_0 : decode cX2_add 0 = .ok (.iload_n 1, 1) := by decide +kernel
theorem dX2_add_1 : decode cX2_add 1 = .ok (.ifCond .lt 79, 3) := by decide +kernel
theorem dX2_add_4 : decode cX2_add 4 = .ok (.iload_n 1, 1) := by decide +kernel
theorem dX2_add_5 : decode cX2_add 5 = .ok (.bipush 64, 2) := by decide +kernel
theorem dX2_add_7 : decode cX2_add 7 = .ok (.if_icmp .ge 73, 3) := by decide +kernel
theorem dX2_add_10 : decode cX2_add 10 = .ok (.aload_n 0, 1) := by decide +kernel
theorem dX2_add_11 : decode cX2_add 11 = .ok (.getfield 40, 3) := by decide +kernel
theorem dX2_add_14 : decode cX2_add 14 = .ok (.bipush 64, 2) := by decide +kernel
theorem dX2_add_16 : decode cX2_add 16 = .ok (.if_icmp .ge 64, 3) := by decide +kernel
theorem dX2_add_19 : decode cX2_add 19 = .ok (.aload_n 0, 1) := by decide +kernel
theorem dX2_add_20 : decode cX2_add 20 = .ok (.getfield 9, 3) := by decide +kernel
theorem dX2_add_23 : decode cX2_add 23 = .ok (.aload_n 0, 1) := by decide +kernel
theorem dX2_add_24 : decode cX2_add 24 = .ok (.getfield 40, 3) := by decide +kernel
theorem dX2_add_27 : decode cX2_add 27 = .ok (.iload_n 1, 1) := by decide +kernel
theorem dX2_add_28 : decode cX2_add 28 = .ok (.iastore, 1) := by decide +kernel
theorem dX2_add_29 : decode cX2_add 29 = .ok (.aload_n 0, 1) := by decide +kernel
theorem dX2_add_30 : decode cX2_add 30 = .ok (.getfield 18, 3) := by decide +kernel
theorem dX2_add_33 : decode cX2_add 33 = .ok (.aload_n 0, 1) := by decide +kernel
theorem dX2_add_34 : decode cX2_add 34 = .ok (.getfield 40, 3) := by decide +kernel
theorem dX2_add_37 : decode cX2_add 37 = .ok (.iload_n 2, 1) := by decide +kernel
theorem dX2_add_38 : decode cX2_add 38 = .ok (.iastore, 1) := by decide +kernel
theorem dX2_add_39 : decode cX2_add 39 = .ok (.aload_n 0, 1) := by decide +kernel
theorem dX2_add_40 : decode cX2_add 40 = .ok (.getfield 21, 3) := by decide +kernel
theorem dX2_add_43 : decode cX2_add 43 = .ok (.aload_n 0, 1) := by decide +kernel
theorem dX2_add_44 : decode cX2_add 44 = .ok (.getfield 40, 3) := by decide +kernel
theorem dX2_add_47 : decode cX2_add 47 = .ok (.iload_n 3, 1) := by decide +kernel
theorem dX2_add_48 : decode cX2_add 48 = .ok (.iastore, 1) := by decide +kernel
theorem dX2_add_49 : decode cX2_add 49 = .ok (.aload_n 0, 1) := by decide +kernel
theorem dX2_add_50 : decode cX2_add 50 = .ok (.getfield 24, 3) := by decide +kernel
theorem dX2_add_53 : decode cX2_add 53 = .ok (.aload_n 0, 1) := by decide +kernel
theorem dX2_add_54 : decode cX2_add 54 = .ok (.getfield 40, 3) := by decide +kernel
theorem dX2_add_57 : decode cX2_add 57 = .ok (.iload 4, 2) := by decide +kernel
theorem dX2_add_59 : decode cX2_add 59 = .ok (.iastore, 1) := by decide +kernel
theorem dX2_add_60 : decode cX2_add 60 = .ok (.aload_n 0, 1) := by decide +kernel
theorem dX2_add_61 : decode cX2_add 61 = .ok (.getfield 15, 3) := by decide +kernel
theorem dX2_add_64 : decode cX2_add 64 = .ok (.iload_n 1, 1) := by decide +kernel
theorem dX2_add_65 : decode cX2_add 65 = .ok (.aload_n 0, 1) := by decide +kernel
theorem dX2_add_66 : decode cX2_add 66 = .ok (.getfield 40, 3) := by decide +kernel
theorem dX2_add_69 : decode cX2_add 69 = .ok (.iastore, 1) := by decide +kernel
theorem dX2_add_70 : decode cX2_add 70 = .ok (.aload_n 0, 1) := by decide +kernel
theorem dX2_add_71 : decode cX2_add 71 = .ok (.dup, 1) := by decide +kernel
theorem dX2_add_72 : decode cX2_add 72 = .ok (.getfield 40, 3) := by decide +kernel
theorem dX2_add_75 : decode cX2_add 75 = .ok (.iconst 1, 1) := by decide +kernel
theorem dX2_add_76 : decode cX2_add 76 = .ok (.iadd, 1) := by decide +kernel
theorem dX2_add_77 : decode cX2_add 77 = .ok (.putfield 40, 3) := by decide +kernel
theorem dX2_add_80 : decode cX2_add 80 = .ok (.return_, 1) := by decide +kernel
theorem dX2_pairBehind_0 : decode cX2_pairBehind 0 = .ok (.aload_n 0, 1) := by decide +kernel
theorem dX2_pairBehind_1 : decode cX2_pairBehind 1 = .ok (.iload_n 1, 1) := by decide +kernel
theorem dX2_pairBehind_2 : decode cX2_pairBehind 2 = .ok (.invokevirtual 60, 3) := by decide +kernel
theorem dX2_pairBehind_5 : decode cX2_pairBehind 5 = .ok (.istore_n 3, 1) := by decide +kernel
theorem dX2_pairBehind_6 : decode cX2_pairBehind 6 = .ok (.aload_n 0, 1) := by decide +kernel
theorem dX2_pairBehind_7 : decode cX2_pairBehind 7 = .ok (.iload_n 1, 1) := by decide +kernel
theorem dX2_pairBehind_8 : decode cX2_pairBehind 8 = .ok (.invokevirtual 63, 3) := by decide +kernel
theorem dX2_pairBehind_11 : decode cX2_pairBehind 11 = .ok (.istore 4, 2) := by decide +kernel
theorem dX2_pairBehind_13 : decode cX2_pairBehind 13 = .ok (.aload_n 0, 1) := by decide +kernel
theorem dX2_pairBehind_14 : decode cX2_pairBehind 14 = .ok (.getfield 27, 3) := by decide +kernel
theorem dX2_pairBehind_17 : decode cX2_pairBehind 17 = .ok (.iload_n 3, 1) := by decide +kernel
theorem dX2_pairBehind_18 : decode cX2_pairBehind 18 = .ok (.iload_n 2, 1) := by decide +kernel
theorem dX2_pairBehind_19 : decode cX2_pairBehind 19 = .ok (.invokevirtual 66, 3) := by decide +kernel
theorem dX2_pairBehind_22 : decode cX2_pairBehind 22 = .ok (.istore 5, 2) := by decide +kernel
theorem dX2_pairBehind_24 : decode cX2_pairBehind 24 = .ok (.aload_n 0, 1) := by decide +kernel
theorem dX2_pairBehind_25 : decode cX2_pairBehind 25 = .ok (.getfield 31, 3) := by decide +kernel
theorem dX2_pairBehind_28 : decode cX2_pairBehind 28 = .ok (.iload 4, 2) := by decide +kernel
theorem dX2_pairBehind_30 : decode cX2_pairBehind 30 = .ok (.iload_n 2, 1) := by decide +kernel
theorem dX2_pairBehind_31 : decode cX2_pairBehind 31 = .ok (.invokevirtual 66, 3) := by decide +kernel
theorem dX2_pairBehind_34 : decode cX2_pairBehind 34 = .ok (.istore 6, 2) := by decide +kernel
theorem dX2_pairBehind_36 : decode cX2_pairBehind 36 = .ok (.iload 5, 2) := by decide +kernel
theorem dX2_pairBehind_38 : decode cX2_pairBehind 38 = .ok (.iconst (-1), 1) := by decide +kernel
theorem dX2_pairBehind_39 : decode cX2_pairBehind 39 = .ok (.if_icmp .eq 33, 3) := by decide +kernel
theorem dX2_pairBehind_42 : decode cX2_pairBehind 42 = .ok (.iload 6, 2) := by decide +kernel
theorem dX2_pairBehind_44 : decode cX2_pairBehind 44 = .ok (.iconst (-1), 1) := by decide +kernel
theorem dX2_pairBehind_45 : decode cX2_pairBehind 45 = .ok (.if_icmp .eq 27, 3) := by decide +kernel
theorem dX2_pairBehind_48 : decode cX2_pairBehind 48 = .ok (.aload_n 0, 1) := by decide +kernel
theorem dX2_pairBehind_49 : decode cX2_pairBehind 49 = .ok (.aload_n 0, 1) := by decide +kernel
theorem dX2_pairBehind_50 : decode cX2_pairBehind 50 = .ok (.getfield 27, 3) := by decide +kernel
theorem dX2_pairBehind_53 : decode cX2_pairBehind 53 = .ok (.iload_n 3, 1) := by decide +kernel
theorem dX2_pairBehind_54 : decode cX2_pairBehind 54 = .ok (.invokevirtual 71, 3) := by decide +kernel
theorem dX2_pairBehind_57 : decode cX2_pairBehind 57 = .ok (.aload_n 0, 1) := by decide +kernel
theorem dX2_pairBehind_58 : decode cX2_pairBehind 58 = .ok (.getfield 31, 3) := by decide +kernel
theorem dX2_pairBehind_61 : decode cX2_pairBehind 61 = .ok (.iload 4, 2) := by decide +kernel
theorem dX2_pairBehind_63 : decode cX2_pairBehind 63 = .ok (.invokevirtual 71, 3) := by decide +kernel
theorem dX2_pairBehind_66 : decode cX2_pairBehind 66 = .ok (.invokevirtual 74, 3) := by decide +kernel
theorem dX2_pairBehind_69 : decode cX2_pairBehind 69 = .ok (.ifCond .ne 5, 3) := by decide +kernel
theorem dX2_pairBehind_72 : decode cX2_pairBehind 72 = .ok (.iconst (-1), 1) := by decide +kernel
theorem dX2_pairBehind_73 : decode cX2_pairBehind 73 = .ok (.ireturn, 1) := by decide +kernel
theorem dX2_pairBehind_74 : decode cX2_pairBehind 74 = .ok (.iload 5, 2) := by decide +kernel
theorem dX2_pairBehind_76 : decode cX2_pairBehind 76 = .ok (.bipush 8, 2) := by decide +kernel
theorem dX2_pairBehind_78 : decode cX2_pairBehind 78 = .ok (.imul, 1) := by decide +kernel
theorem dX2_pairBehind_79 : decode cX2_pairBehind 79 = .ok (.iload 6, 2) := by decide +kernel
theorem dX2_pairBehind_81 : decode cX2_pairBehind 81 = .ok (.iadd, 1) := by decide +kernel
theorem dX2_pairBehind_82 : decode cX2_pairBehind 82 = .ok (.ireturn, 1) := by decide +kernel
theorem dX2_positionBehind_0 : decode cX2_positionBehind 0 = .ok (.aload_n 0, 1) := by decide +kernel
theorem dX2_positionBehind_1 : decode cX2_positionBehind 1 = .ok (.getfield 15, 3) := by decide +kernel
theorem dX2_positionBehind_4 : decode cX2_positionBehind 4 = .ok (.aload_n 0, 1) := by decide +kernel
theorem dX2_positionBehind_5 : decode cX2_positionBehind 5 = .ok (.iload_n 1, 1) := by decide +kernel
theorem dX2_positionBehind_6 : decode cX2_positionBehind 6 = .ok (.iload_n 2, 1) := by decide +kernel
theorem dX2_positionBehind_7 : decode cX2_positionBehind 7 = .ok (.invokevirtual 48, 3) := by decide +kernel
theorem dX2_positionBehind_10 : decode cX2_positionBehind 10 = .ok (.invokestatic 52, 3) := by decide +kernel
theorem dX2_positionBehind_13 : decode cX2_positionBehind 13 = .ok (.ireturn, 1) := by decide +kernel
theorem dX2_size_0 : decode cX2_size 0 = .ok (.aload_n 0, 1) := by decide +kernel
theorem dX2_size_1 : decode cX2_size 1 = .ok (.getfield 40, 3) := by decide +kernel
theorem dX2_size_4 : decode cX2_size 4 = .ok (.ireturn, 1) := by decide +kernel
theorem dX2_has_0 : decode cX2_has 0 = .ok (.iload_n 1, 1) := by decide +kernel
theorem dX2_has_1 : decode cX2_has 1 = .ok (.ifCond .lt 15, 3) := by decide +kernel
theorem dX2_has_4 : decode cX2_has 4 = .ok (.iload_n 1, 1) := by decide +kernel
theorem dX2_has_5 : decode cX2_has 5 = .ok (.aload_n 0, 1) := by decide +kernel
theorem dX2_has_6 : decode cX2_has 6 = .ok (.getfield 40, 3) := by decide +kernel
theorem dX2_has_9 : decode cX2_has 9 = .ok (.if_icmp .ge 7, 3) := by decide +kernel
theorem dX2_has_12 : decode cX2_has 12 = .ok (.iconst 1, 1) := by decide +kernel
theorem dX2_has_13 : decode cX2_has 13 = .ok (.goto 4, 3) := by decide +kernel
theorem dX2_has_16 : decode cX2_has 16 = .ok (.iconst 0, 1) := by decide +kernel
theorem dX2_has_17 : decode cX2_has 17 = .ok (.ireturn, 1) := by decide +kernel
theorem dX2_stateOfOne_0 : decode cX2_stateOfOne 0 = .ok (.aload_n 0, 1) := by decide +kernel
theorem dX2_stateOfOne_1 : decode cX2_stateOfOne 1 = .ok (.getfield 9, 3) := by decide +kernel
theorem dX2_stateOfOne_4 : decode cX2_stateOfOne 4 = .ok (.iload_n 1, 1) := by decide +kernel
theorem dX2_stateOfOne_5 : decode cX2_stateOfOne 5 = .ok (.invokestatic 52, 3) := by decide +kernel
theorem dX2_stateOfOne_8 : decode cX2_stateOfOne 8 = .ok (.bipush 8, 2) := by decide +kernel
theorem dX2_stateOfOne_10 : decode cX2_stateOfOne 10 = .ok (.idiv, 1) := by decide +kernel
theorem dX2_stateOfOne_11 : decode cX2_stateOfOne 11 = .ok (.ireturn, 1) := by decide +kernel
theorem dX2_stateOfOther_0 : decode cX2_stateOfOther 0 = .ok (.aload_n 0, 1) := by decide +kernel
theorem dX2_stateOfOther_1 : decode cX2_stateOfOther 1 = .ok (.getfield 9, 3) := by decide +kernel
theorem dX2_stateOfOther_4 : decode cX2_stateOfOther 4 = .ok (.iload_n 1, 1) := by decide +kernel
theorem dX2_stateOfOther_5 : decode cX2_stateOfOther 5 = .ok (.invokestatic 52, 3) := by decide +kernel
theorem dX2_stateOfOther_8 : decode cX2_stateOfOther 8 = .ok (.bipush 8, 2) := by decide +kernel
theorem dX2_stateOfOther_10 : decode cX2_stateOfOther 10 = .ok (.irem, 1) := by decide +kernel
theorem dX2_stateOfOther_11 : decode cX2_stateOfOther 11 = .ok (.ireturn, 1) := by decide +kernel
theorem dX2_kindOfOne_0 : decode cX2_kindOfOne 0 = .ok (.aload_n 0, 1) := by decide +kernel
theorem dX2_kindOfOne_1 : decode cX2_kindOfOne 1 = .ok (.getfield 27, 3) := by decide +kernel
theorem dX2_kindOfOne_4 : decode cX2_kindOfOne 4 = .ok (.aload_n 0, 1) := by decide +kernel
theorem dX2_kindOfOne_5 : decode cX2_kindOfOne 5 = .ok (.iload_n 1, 1) := by decide +kernel
theorem dX2_kindOfOne_6 : decode cX2_kindOfOne 6 = .ok (.invokevirtual 60, 3) := by decide +kernel
theorem dX2_kindOfOne_9 : decode cX2_kindOfOne 9 = .ok (.invokevirtual 71, 3) := by decide +kernel
theorem dX2_kindOfOne_12 : decode cX2_kindOfOne 12 = .ok (.ireturn, 1) := by decide +kernel
theorem dX2_kindOfOther_0 : decode cX2_kindOfOther 0 = .ok (.aload_n 0, 1) := by decide +kernel
theorem dX2_kindOfOther_1 : decode cX2_kindOfOther 1 = .ok (.getfield 31, 3) := by decide +kernel
theorem dX2_kindOfOther_4 : decode cX2_kindOfOther 4 = .ok (.aload_n 0, 1) := by decide +kernel
theorem dX2_kindOfOther_5 : decode cX2_kindOfOther 5 = .ok (.iload_n 1, 1) := by decide +kernel
theorem dX2_kindOfOther_6 : decode cX2_kindOfOther 6 = .ok (.invokevirtual 63, 3) := by decide +kernel
theorem dX2_kindOfOther_9 : decode cX2_kindOfOther 9 = .ok (.invokevirtual 71, 3) := by decide +kernel
theorem dX2_kindOfOther_12 : decode cX2_kindOfOther 12 = .ok (.ireturn, 1) := by decide +kernel
theorem dX2_lengthOf_0 : decode cX2_lengthOf 0 = .ok (.aload_n 0, 1) := by decide +kernel
theorem dX2_lengthOf_1 : decode cX2_lengthOf 1 = .ok (.getfield 18, 3) := by decide +kernel
theorem dX2_lengthOf_4 : decode cX2_lengthOf 4 = .ok (.iload_n 1, 1) := by decide +kernel
theorem dX2_lengthOf_5 : decode cX2_lengthOf 5 = .ok (.invokestatic 52, 3) := by decide +kernel
theorem dX2_lengthOf_8 : decode cX2_lengthOf 8 = .ok (.ireturn, 1) := by decide +kernel
theorem dX2_reasonOf_0 : decode cX2_reasonOf 0 = .ok (.aload_n 0, 1) := by decide +kernel
theorem dX2_reasonOf_1 : decode cX2_reasonOf 1 = .ok (.iload_n 1, 1) := by decide +kernel
theorem dX2_reasonOf_2 : decode cX2_reasonOf 2 = .ok (.invokevirtual 60, 3) := by decide +kernel
theorem dX2_reasonOf_5 : decode cX2_reasonOf 5 = .ok (.istore_n 2, 1) := by decide +kernel
theorem dX2_reasonOf_6 : decode cX2_reasonOf 6 = .ok (.aload_n 0, 1) := by decide +kernel
theorem dX2_reasonOf_7 : decode cX2_reasonOf 7 = .ok (.iload_n 1, 1) := by decide +kernel
theorem dX2_reasonOf_8 : decode cX2_reasonOf 8 = .ok (.invokevirtual 63, 3) := by decide +kernel
theorem dX2_reasonOf_11 : decode cX2_reasonOf 11 = .ok (.istore_n 3, 1) := by decide +kernel
theorem dX2_reasonOf_12 : decode cX2_reasonOf 12 = .ok (.aload_n 0, 1) := by decide +kernel
theorem dX2_reasonOf_13 : decode cX2_reasonOf 13 = .ok (.aload_n 0, 1) := by decide +kernel
theorem dX2_reasonOf_14 : decode cX2_reasonOf 14 = .ok (.getfield 27, 3) := by decide +kernel
theorem dX2_reasonOf_17 : decode cX2_reasonOf 17 = .ok (.iload_n 2, 1) := by decide +kernel
theorem dX2_reasonOf_18 : decode cX2_reasonOf 18 = .ok (.invokevirtual 71, 3) := by decide +kernel
theorem dX2_reasonOf_21 : decode cX2_reasonOf 21 = .ok (.aload_n 0, 1) := by decide +kernel
theorem dX2_reasonOf_22 : decode cX2_reasonOf 22 = .ok (.getfield 27, 3) := by decide +kernel
theorem dX2_reasonOf_25 : decode cX2_reasonOf 25 = .ok (.iload_n 2, 1) := by decide +kernel
theorem dX2_reasonOf_26 : decode cX2_reasonOf 26 = .ok (.invokevirtual 78, 3) := by decide +kernel
theorem dX2_reasonOf_29 : decode cX2_reasonOf 29 = .ok (.aload_n 0, 1) := by decide +kernel
theorem dX2_reasonOf_30 : decode cX2_reasonOf 30 = .ok (.getfield 31, 3) := by decide +kernel
theorem dX2_reasonOf_33 : decode cX2_reasonOf 33 = .ok (.iload_n 3, 1) := by decide +kernel
theorem dX2_reasonOf_34 : decode cX2_reasonOf 34 = .ok (.invokevirtual 71, 3) := by decide +kernel
theorem dX2_reasonOf_37 : decode cX2_reasonOf 37 = .ok (.aload_n 0, 1) := by decide +kernel
theorem dX2_reasonOf_38 : decode cX2_reasonOf 38 = .ok (.getfield 31, 3) := by decide +kernel
theorem dX2_reasonOf_41 : decode cX2_reasonOf 41 = .ok (.iload_n 3, 1) := by decide +kernel
theorem dX2_reasonOf_42 : decode cX2_reasonOf 42 = .ok (.invokevirtual 78, 3) := by decide +kernel
theorem dX2_reasonOf_45 : decode cX2_reasonOf 45 = .ok (.invokevirtual 81, 3) := by decide +kernel
theorem dX2_reasonOf_48 : decode cX2_reasonOf 48 = .ok (.ireturn, 1) := by decide +kernel
theorem dX2_firstLackedWord_0 : decode cX2_firstLackedWord 0 = .ok (.aload_n 0, 1) := by decide +kernel
theorem dX2_firstLackedWord_1 : decode cX2_firstLackedWord 1 = .ok (.iload_n 1, 1) := by decide +kernel
theorem dX2_firstLackedWord_2 : decode cX2_firstLackedWord 2 = .ok (.invokevirtual 85, 3) := by decide +kernel
theorem dX2_firstLackedWord_5 : decode cX2_firstLackedWord 5 = .ok (.istore_n 2, 1) := by decide +kernel
theorem dX2_firstLackedWord_6 : decode cX2_firstLackedWord 6 = .ok (.aload_n 0, 1) := by decide +kernel
theorem dX2_firstLackedWord_7 : decode cX2_firstLackedWord 7 = .ok (.iload_n 2, 1) := by decide +kernel
theorem dX2_firstLackedWord_8 : decode cX2_firstLackedWord 8 = .ok (.aload_n 0, 1) := by decide +kernel
theorem dX2_firstLackedWord_9 : decode cX2_firstLackedWord 9 = .ok (.iload_n 1, 1) := by decide +kernel
theorem dX2_firstLackedWord_10 : decode cX2_firstLackedWord 10 = .ok (.invokevirtual 88, 3) := by decide +kernel
theorem dX2_firstLackedWord_13 : decode cX2_firstLackedWord 13 = .ok (.invokevirtual 74, 3) := by decide +kernel
theorem dX2_firstLackedWord_16 : decode cX2_firstLackedWord 16 = .ok (.ifCond .ne 5, 3) := by decide +kernel
theorem dX2_firstLackedWord_19 : decode cX2_firstLackedWord 19 = .ok (.iconst (-1), 1) := by decide +kernel
theorem dX2_firstLackedWord_20 : decode cX2_firstLackedWord 20 = .ok (.ireturn, 1) := by decide +kernel
theorem dX2_firstLackedWord_21 : decode cX2_firstLackedWord 21 = .ok (.aload_n 0, 1) := by decide +kernel
theorem dX2_firstLackedWord_22 : decode cX2_firstLackedWord 22 = .ok (.getfield 27, 3) := by decide +kernel
theorem dX2_firstLackedWord_25 : decode cX2_firstLackedWord 25 = .ok (.aload_n 0, 1) := by decide +kernel
theorem dX2_firstLackedWord_26 : decode cX2_firstLackedWord 26 = .ok (.iload_n 1, 1) := by decide +kernel
theorem dX2_firstLackedWord_27 : decode cX2_firstLackedWord 27 = .ok (.invokevirtual 60, 3) := by decide +kernel
theorem dX2_firstLackedWord_30 : decode cX2_firstLackedWord 30 = .ok (.invokevirtual 78, 3) := by decide +kernel
theorem dX2_firstLackedWord_33 : decode cX2_firstLackedWord 33 = .ok (.istore_n 3, 1) := by decide +kernel
theorem dX2_firstLackedWord_34 : decode cX2_firstLackedWord 34 = .ok (.aload_n 0, 1) := by decide +kernel
theorem dX2_firstLackedWord_35 : decode cX2_firstLackedWord 35 = .ok (.getfield 31, 3) := by decide +kernel
theorem dX2_firstLackedWord_38 : decode cX2_firstLackedWord 38 = .ok (.aload_n 0, 1) := by decide +kernel
theorem dX2_firstLackedWord_39 : decode cX2_firstLackedWord 39 = .ok (.iload_n 1, 1) := by decide +kernel
theorem dX2_firstLackedWord_40 : decode cX2_firstLackedWord 40 = .ok (.invokevirtual 63, 3) := by decide +kernel
theorem dX2_firstLackedWord_43 : decode cX2_firstLackedWord 43 = .ok (.invokevirtual 78, 3) := by decide +kernel
theorem dX2_firstLackedWord_46 : decode cX2_firstLackedWord 46 = .ok (.istore 4, 2) := by decide +kernel
theorem dX2_firstLackedWord_48 : decode cX2_firstLackedWord 48 = .ok (.iload_n 2, 1) := by decide +kernel
theorem dX2_firstLackedWord_49 : decode cX2_firstLackedWord 49 = .ok (.iload_n 3, 1) := by decide +kernel
theorem dX2_firstLackedWord_50 : decode cX2_firstLackedWord 50 = .ok (.iload 4, 2) := by decide +kernel
theorem dX2_firstLackedWord_52 : decode cX2_firstLackedWord 52 = .ok (.invokestatic 91, 3) := by decide +kernel
theorem dX2_firstLackedWord_55 : decode cX2_firstLackedWord 55 = .ok (.invokestatic 95, 3) := by decide +kernel
theorem dX2_firstLackedWord_58 : decode cX2_firstLackedWord 58 = .ok (.ireturn, 1) := by decide +kernel
theorem dX2_lackedWords_0 : decode cX2_lackedWords 0 = .ok (.iload_n 0, 1) := by decide +kernel
theorem dX2_lackedWords_1 : decode cX2_lackedWords 1 = .ok (.iconst 1, 1) := by decide +kernel
theorem dX2_lackedWords_2 : decode cX2_lackedWords 2 = .ok (.if_icmp .ne 11, 3) := by decide +kernel
theorem dX2_lackedWords_5 : decode cX2_lackedWords 5 = .ok (.iload_n 1, 1) := by decide +kernel
theorem dX2_lackedWords_6 : decode cX2_lackedWords 6 = .ok (.iload_n 2, 1) := by decide +kernel
theorem dX2_lackedWords_7 : decode cX2_lackedWords 7 = .ok (.iconst (-1), 1) := by decide +kernel
theorem dX2_lackedWords_8 : decode cX2_lackedWords 8 = .ok (.ixor, 1) := by decide +kernel
theorem dX2_lackedWords_9 : decode cX2_lackedWords 9 = .ok (.iand, 1) := by decide +kernel
theorem dX2_lackedWords_10 : decode cX2_lackedWords 10 = .ok (.goto 8, 3) := by decide +kernel
theorem dX2_lackedWords_13 : decode cX2_lackedWords 13 = .ok (.iload_n 2, 1) := by decide +kernel
theorem dX2_lackedWords_14 : decode cX2_lackedWords 14 = .ok (.iload_n 1, 1) := by decide +kernel
theorem dX2_lackedWords_15 : decode cX2_lackedWords 15 = .ok (.iconst (-1), 1) := by decide +kernel
theorem dX2_lackedWords_16 : decode cX2_lackedWords 16 = .ok (.ixor, 1) := by decide +kernel
theorem dX2_lackedWords_17 : decode cX2_lackedWords 17 = .ok (.iand, 1) := by decide +kernel
theorem dX2_lackedWords_18 : decode cX2_lackedWords 18 = .ok (.ireturn, 1) := by decide +kernel
theorem dX2_firstFaulty_0 : decode cX2_firstFaulty 0 = .ok (.iconst 0, 1) := by decide +kernel
theorem dX2_firstFaulty_1 : decode cX2_firstFaulty 1 = .ok (.istore_n 1, 1) := by decide +kernel
theorem dX2_firstFaulty_2 : decode cX2_firstFaulty 2 = .ok (.iload_n 1, 1) := by decide +kernel
theorem dX2_firstFaulty_3 : decode cX2_firstFaulty 3 = .ok (.aload_n 0, 1) := by decide +kernel
theorem dX2_firstFaulty_4 : decode cX2_firstFaulty 4 = .ok (.getfield 40, 3) := by decide +kernel
theorem dX2_firstFaulty_7 : decode cX2_firstFaulty 7 = .ok (.if_icmp .ge 19, 3) := by decide +kernel
theorem dX2_firstFaulty_10 : decode cX2_firstFaulty 10 = .ok (.aload_n 0, 1) := by decide +kernel
theorem dX2_firstFaulty_11 : decode cX2_firstFaulty 11 = .ok (.iload_n 1, 1) := by decide +kernel
theorem dX2_firstFaulty_12 : decode cX2_firstFaulty 12 = .ok (.invokevirtual 98, 3) := by decide +kernel
theorem dX2_firstFaulty_15 : decode cX2_firstFaulty 15 = .ok (.ifCond .eq 5, 3) := by decide +kernel
theorem dX2_firstFaulty_18 : decode cX2_firstFaulty 18 = .ok (.iload_n 1, 1) := by decide +kernel
theorem dX2_firstFaulty_19 : decode cX2_firstFaulty 19 = .ok (.ireturn, 1) := by decide +kernel
theorem dX2_firstFaulty_20 : decode cX2_firstFaulty 20 = .ok (.iinc 1 1, 3) := by decide +kernel
theorem dX2_firstFaulty_23 : decode cX2_firstFaulty 23 = .ok (.goto (-21), 3) := by decide +kernel
theorem dX2_firstFaulty_26 : decode cX2_firstFaulty 26 = .ok (.iconst (-1), 1) := by decide +kernel
theorem dX2_firstFaulty_27 : decode cX2_firstFaulty 27 = .ok (.ireturn, 1) := by decide +kernel
theorem dX2_tellMore_0 : decode cX2_tellMore 0 = .ok (.iload_n 2, 1) := by decide +kernel
theorem dX2_tellMore_1 : decode cX2_tellMore 1 = .ok (.lookupswitch 42 #[(3, 27), (4, 33)], 27) := by decide +kernel
theorem dX2_tellMore_28 : decode cX2_tellMore 28 = .ok (.aload_n 0, 1) := by decide +kernel
theorem dX2_tellMore_29 : decode cX2_tellMore 29 = .ok (.iload_n 1, 1) := by decide +kernel
theorem dX2_tellMore_30 : decode cX2_tellMore 30 = .ok (.invokevirtual 98, 3) := by decide +kernel
theorem dX2_tellMore_33 : decode cX2_tellMore 33 = .ok (.ireturn, 1) := by decide +kernel
theorem dX2_tellMore_34 : decode cX2_tellMore 34 = .ok (.aload_n 0, 1) := by decide +kernel
theorem dX2_tellMore_35 : decode cX2_tellMore 35 = .ok (.iload_n 1, 1) := by decide +kernel
theorem dX2_tellMore_36 : decode cX2_tellMore 36 = .ok (.invokevirtual 101, 3) := by decide +kernel
theorem dX2_tellMore_39 : decode cX2_tellMore 39 = .ok (.invokestatic 104, 3) := by decide +kernel
theorem dX2_tellMore_42 : decode cX2_tellMore 42 = .ok (.ireturn, 1) := by decide +kernel
theorem dX2_tellMore_43 : decode cX2_tellMore 43 = .ok (.aload_n 0, 1) := by decide +kernel
theorem dX2_tellMore_44 : decode cX2_tellMore 44 = .ok (.iload_n 1, 1) := by decide +kernel
theorem dX2_tellMore_45 : decode cX2_tellMore 45 = .ok (.iload_n 2, 1) := by decide +kernel
theorem dX2_tellMore_46 : decode cX2_tellMore 46 = .ok (.bipush 10, 2) := by decide +kernel
theorem dX2_tellMore_48 : decode cX2_tellMore 48 = .ok (.isub, 1) := by decide +kernel
theorem dX2_tellMore_49 : decode cX2_tellMore 49 = .ok (.invokevirtual 107, 3) := by decide +kernel
theorem dX2_tellMore_52 : decode cX2_tellMore 52 = .ok (.invokestatic 104, 3) := by decide +kernel
theorem dX2_tellMore_55 : decode cX2_tellMore 55 = .ok (.ireturn, 1) := by decide +kernel
theorem dX2_wordOfRow_0 : decode cX2_wordOfRow 0 = .ok (.iload_n 1, 1) := by decide +kernel
theorem dX2_wordOfRow_1 : decode cX2_wordOfRow 1 = .ok (.istore_n 3, 1) := by decide +kernel
theorem dX2_wordOfRow_2 : decode cX2_wordOfRow 2 = .ok (.aload_n 0, 1) := by decide +kernel
theorem dX2_wordOfRow_3 : decode cX2_wordOfRow 3 = .ok (.iload_n 1, 1) := by decide +kernel
theorem dX2_wordOfRow_4 : decode cX2_wordOfRow 4 = .ok (.invokevirtual 56, 3) := by decide +kernel
theorem dX2_wordOfRow_7 : decode cX2_wordOfRow 7 = .ok (.istore 4, 2) := by decide +kernel
theorem dX2_wordOfRow_9 : decode cX2_wordOfRow 9 = .ok (.iload 4, 2) := by decide +kernel
theorem dX2_wordOfRow_11 : decode cX2_wordOfRow 11 = .ok (.iload_n 2, 1) := by decide +kernel
theorem dX2_wordOfRow_12 : decode cX2_wordOfRow 12 = .ok (.iconst 1, 1) := by decide +kernel
theorem dX2_wordOfRow_13 : decode cX2_wordOfRow 13 = .ok (.iadd, 1) := by decide +kernel
theorem dX2_wordOfRow_14 : decode cX2_wordOfRow 14 = .ok (.if_icmp .le 18, 3) := by decide +kernel
theorem dX2_wordOfRow_17 : decode cX2_wordOfRow 17 = .ok (.aload_n 0, 1) := by decide +kernel
theorem dX2_wordOfRow_18 : decode cX2_wordOfRow 18 = .ok (.getfield 21, 3) := by decide +kernel
theorem dX2_wordOfRow_21 : decode cX2_wordOfRow 21 = .ok (.iload_n 3, 1) := by decide +kernel
theorem dX2_wordOfRow_22 : decode cX2_wordOfRow 22 = .ok (.invokestatic 52, 3) := by decide +kernel
theorem dX2_wordOfRow_25 : decode cX2_wordOfRow 25 = .ok (.istore_n 3, 1) := by decide +kernel
theorem dX2_wordOfRow_26 : decode cX2_wordOfRow 26 = .ok (.iinc 4 (-1), 3) := by decide +kernel
theorem dX2_wordOfRow_29 : decode cX2_wordOfRow 29 = .ok (.goto (-20), 3) := by decide +kernel
theorem dX2_wordOfRow_32 : decode cX2_wordOfRow 32 = .ok (.iload_n 2, 1) := by decide +kernel
theorem dX2_wordOfRow_33 : decode cX2_wordOfRow 33 = .ok (.aload_n 0, 1) := by decide +kernel
theorem dX2_wordOfRow_34 : decode cX2_wordOfRow 34 = .ok (.iload_n 1, 1) := by decide +kernel
theorem dX2_wordOfRow_35 : decode cX2_wordOfRow 35 = .ok (.invokevirtual 56, 3) := by decide +kernel
theorem dX2_wordOfRow_38 : decode cX2_wordOfRow 38 = .ok (.if_icmp .ge 14, 3) := by decide +kernel
theorem dX2_wordOfRow_41 : decode cX2_wordOfRow 41 = .ok (.aload_n 0, 1) := by decide +kernel
theorem dX2_wordOfRow_42 : decode cX2_wordOfRow 42 = .ok (.getfield 24, 3) := by decide +kernel
theorem dX2_wordOfRow_45 : decode cX2_wordOfRow 45 = .ok (.iload_n 3, 1) := by decide +kernel
theorem dX2_wordOfRow_46 : decode cX2_wordOfRow 46 = .ok (.invokestatic 52, 3) := by decide +kernel
theorem dX2_wordOfRow_49 : decode cX2_wordOfRow 49 = .ok (.goto 4, 3) := by decide +kernel
theorem dX2_wordOfRow_52 : decode cX2_wordOfRow 52 = .ok (.iconst (-1), 1) := by decide +kernel
theorem dX2_wordOfRow_53 : decode cX2_wordOfRow 53 = .ok (.ireturn, 1) := by decide +kernel
theorem dX3_init_0 : decode cX3_init 0 = .ok (.aload_n 0, 1) := by decide +kernel
theorem dX3_init_1 : decode cX3_init 1 = .ok (.invokespecial 3, 3) := by decide +kernel
theorem dX3_init_4 : decode cX3_init 4 = .ok (.aload_n 0, 1) := by decide +kernel
theorem dX3_init_5 : decode cX3_init 5 = .ok (.bipush 56, 2) := by decide +kernel
theorem dX3_init_7 : decode cX3_init 7 = .ok (.newarray .int, 2) := by decide +kernel
theorem dX3_init_9 : decode cX3_init 9 = .ok (.putfield 11, 3) := by decide +kernel
theorem dX3_init_12 : decode cX3_init 12 = .ok (.aload_n 0, 1) := by decide +kernel
theorem dX3_init_13 : decode cX3_init 13 = .ok (.invokevirtual 15, 3) := by decide +kernel
theorem dX3_init_16 : decode cX3_init 16 = .ok (.return_, 1) := by decide +kernel
theorem dX3_clear_0 : decode cX3_clear 0 = .ok (.iconst 0, 1) := by decide +kernel
theorem dX3_clear_1 : decode cX3_clear 1 = .ok (.istore_n 1, 1) := by decide +kernel
theorem dX3_clear_2 : decode cX3_clear 2 = .ok (.iload_n 1, 1) := by decide +kernel
theorem dX3_clear_3 : decode cX3_clear 3 = .ok (.bipush 8, 2) := by decide +kernel
theorem dX3_clear_5 : decode cX3_clear 5 = .ok (.if_icmp .ge 36, 3) := by decide +kernel
theorem dX3_clear_8 : decode cX3_clear 8 = .ok (.aload_n 0, 1) := by decide +kernel
theorem dX3_clear_9 : decode cX3_clear 9 = .ok (.iload_n 1, 1) := by decide +kernel
theorem dX3_clear_10 : decode cX3_clear 10 = .ok (.iconst 0, 1) := by decide +kernel
theorem dX3_clear_11 : decode cX3_clear 11 = .ok (.invokevirtual 18, 3) := by decide +kernel
theorem dX3_clear_14 : decode cX3_clear 14 = .ok (.iconst 0, 1) := by decide +kernel
theorem dX3_clear_15 : decode cX3_clear 15 = .ok (.istore_n 2, 1) := by decide +kernel
theorem dX3_clear_16 : decode cX3_clear 16 = .ok (.iload_n 2, 1) := by decide +kernel
theorem dX3_clear_17 : decode cX3_clear 17 = .ok (.bipush 6, 2) := by decide +kernel
theorem dX3_clear_19 : decode cX3_clear 19 = .ok (.if_icmp .ge 16, 3) := by decide +kernel
theorem dX3_clear_22 : decode cX3_clear 22 = .ok (.aload_n 0, 1) := by decide +kernel
theorem dX3_clear_23 : decode cX3_clear 23 = .ok (.iload_n 1, 1) := by decide +kernel
theorem dX3_clear_24 : decode cX3_clear 24 = .ok (.iload_n 2, 1) := by decide +kernel
theorem dX3_clear_25 : decode cX3_clear 25 = .ok (.iconst (-1), 1) := by decide +kernel
theorem dX3_clear_26 : decode cX3_clear 26 = .ok (.invokevirtual 22, 3) := by decide +kernel
theorem dX3_clear_29 : decode cX3_clear 29 = .ok (.iinc 2 1, 3) := by decide +kernel
theorem dX3_clear_32 : decode cX3_clear 32 = .ok (.goto (-16), 3) := by decide +kernel
theorem dX3_clear_35 : decode cX3_clear 35 = .ok (.iinc 1 1, 3) := by decide +kernel
theorem dX3_clear_38 : decode cX3_clear 38 = .ok (.goto (-36), 3) := by decide +kernel
theorem dX3_clear_41 : decode cX3_clear 41 = .ok (.return_, 1) := by decide +kernel
theorem dX3_kindOf_0 : decode cX3_kindOf 0 = .ok (.iload_n 1, 1) := by decide +kernel
theorem dX3_kindOf_1 : decode cX3_kindOf 1 = .ok (.invokestatic 26, 3) := by decide +kernel
theorem dX3_kindOf_4 : decode cX3_kindOf 4 = .ok (.ifCond .eq 15, 3) := by decide +kernel
theorem dX3_kindOf_7 : decode cX3_kindOf 7 = .ok (.aload_n 0, 1) := by decide +kernel
theorem dX3_kindOf_8 : decode cX3_kindOf 8 = .ok (.getfield 11, 3) := by decide +kernel
theorem dX3_kindOf_11 : decode cX3_kindOf 11 = .ok (.iload_n 1, 1) := by decide +kernel
theorem dX3_kindOf_12 : decode cX3_kindOf 12 = .ok (.bipush 7, 2) := by decide +kernel
theorem dX3_kindOf_14 : decode cX3_kindOf 14 = .ok (.imul, 1) := by decide +kernel
theorem dX3_kindOf_15 : decode cX3_kindOf 15 = .ok (.iaload, 1) := by decide +kernel
theorem dX3_kindOf_16 : decode cX3_kindOf 16 = .ok (.goto 4, 3) := by decide +kernel
theorem dX3_kindOf_19 : decode cX3_kindOf 19 = .ok (.iconst 0, 1) := by decide +kernel
theorem dX3_kindOf_20 : decode cX3_kindOf 20 = .ok (.ireturn, 1) := by decide +kernel
theorem dX3_setKind_0 : decode cX3_setKind 0 = .ok (.iload_n 1, 1) := by decide +kernel
theorem dX3_setKind_1 : decode cX3_setKind 1 = .ok (.invokestatic 26, 3) := by decide +kernel
theorem dX3_setKind_4 : decode cX3_setKind 4 = .ok (.ifCond .eq 13, 3) := by decide +kernel
theorem dX3_setKind_7 : decode cX3_setKind 7 = .ok (.aload_n 0, 1) := by decide +kernel
theorem dX3_setKind_8 : decode cX3_setKind 8 = .ok (.getfield 11, 3) := by decide +kernel
theorem dX3_setKind_11 : decode cX3_setKind 11 = .ok (.iload_n 1, 1) := by decide +kernel
theorem dX3_setKind_12 : decode cX3_setKind 12 = .ok (.bipush 7, 2) := by decide +kernel
theorem dX3_setKind_14 : decode cX3_setKind 14 = .ok (.imul, 1) := by decide +kernel
theorem dX3_setKind_15 : decode cX3_setKind 15 = .ok (.iload_n 2, 1) := by decide +kernel
theorem dX3_setKind_16 : decode cX3_setKind 16 = .ok (.iastore, 1) := by decide +kernel
theorem dX3_setKind_17 : decode cX3_setKind 17 = .ok (.return_, 1) := by decide +kernel
theorem dX3_targetOf_0 : decode cX3_targetOf 0 = .ok (.iload_n 1, 1) := by decide +kernel
theorem dX3_targetOf_1 : decode cX3_targetOf 1 = .ok (.invokestatic 26, 3) := by decide +kernel
theorem dX3_targetOf_4 : decode cX3_targetOf 4 = .ok (.ifCond .eq 26, 3) := by decide +kernel
theorem dX3_targetOf_7 : decode cX3_targetOf 7 = .ok (.iload_n 2, 1) := by decide +kernel
theorem dX3_targetOf_8 : decode cX3_targetOf 8 = .ok (.invokestatic 30, 3) := by decide +kernel
theorem dX3_targetOf_11 : decode cX3_targetOf 11 = .ok (.ifCond .eq 19, 3) := by decide +kernel
theorem dX3_targetOf_14 : decode cX3_targetOf 14 = .ok (.aload_n 0, 1) := by decide +kernel
theorem dX3_targetOf_15 : decode cX3_targetOf 15 = .ok (.getfield 11, 3) := by decide +kernel
theorem dX3_targetOf_18 : decode cX3_targetOf 18 = .ok (.iload_n 1, 1) := by decide +kernel
theorem dX3_targetOf_19 : decode cX3_targetOf 19 = .ok (.bipush 7, 2) := by decide +kernel
theorem dX3_targetOf_21 : decode cX3_targetOf 21 = .ok (.imul, 1) := by decide +kernel
theorem dX3_targetOf_22 : decode cX3_targetOf 22 = .ok (.iconst 1, 1) := by decide +kernel
theorem dX3_targetOf_23 : decode cX3_targetOf 23 = .ok (.iadd, 1) := by decide +kernel
theorem dX3_targetOf_24 : decode cX3_targetOf 24 = .ok (.iload_n 2, 1) := by decide +kernel
theorem dX3_targetOf_25 : decode cX3_targetOf 25 = .ok (.iadd, 1) := by decide +kernel
theorem dX3_targetOf_26 : decode cX3_targetOf 26 = .ok (.iaload, 1) := by decide +kernel
theorem dX3_targetOf_27 : decode cX3_targetOf 27 = .ok (.goto 4, 3) := by decide +kernel
theorem dX3_targetOf_30 : decode cX3_targetOf 30 = .ok (.iconst (-1), 1) := by decide +kernel
theorem dX3_targetOf_31 : decode cX3_targetOf 31 = .ok (.ireturn, 1) := by decide +kernel
theorem dX3_setTarget_0 : decode cX3_setTarget 0 = .ok (.iload_n 1, 1) := by decide +kernel
theorem dX3_setTarget_1 : decode cX3_setTarget 1 = .ok (.invokestatic 26, 3) := by decide +kernel
theorem dX3_setTarget_4 : decode cX3_setTarget 4 = .ok (.ifCond .eq 24, 3) := by decide +kernel
theorem dX3_setTarget_7 : decode cX3_setTarget 7 = .ok (.iload_n 2, 1) := by decide +kernel
theorem dX3_setTarget_8 : decode cX3_setTarget 8 = .ok (.invokestatic 30, 3) := by decide +kernel
theorem dX3_setTarget_11 : decode cX3_setTarget 11 = .ok (.ifCond .eq 17, 3) := by decide +kernel
theorem dX3_setTarget_14 : decode cX3_setTarget 14 = .ok (.aload_n 0, 1) := by decide +kernel
theorem dX3_setTarget_15 : decode cX3_setTarget 15 = .ok (.getfield 11, 3) := by decide +kernel
theorem dX3_setTarget_18 : decode cX3_setTarget 18 = .ok (.iload_n 1, 1) := by decide +kernel
theorem dX3_setTarget_19 : decode cX3_setTarget 19 = .ok (.bipush 7, 2) := by decide +kernel
theorem dX3_setTarget_21 : decode cX3_setTarget 21 = .ok (.imul, 1) := by decide +kernel
theorem dX3_setTarget_22 : decode cX3_setTarget 22 = .ok (.iconst 1, 1) := by decide +kernel
theorem dX3_setTarget_23 : decode cX3_setTarget 23 = .ok (.iadd, 1) := by decide +kernel
theorem dX3_setTarget_24 : decode cX3_setTarget 24 = .ok (.iload_n 2, 1) := by decide +kernel
theorem dX3_setTarget_25 : decode cX3_setTarget 25 = .ok (.iadd, 1) := by decide +kernel
theorem dX3_setTarget_26 : decode cX3_setTarget 26 = .ok (.iload_n 3, 1) := by decide +kernel
theorem dX3_setTarget_27 : decode cX3_setTarget 27 = .ok (.iastore, 1) := by decide +kernel
theorem dX3_setTarget_28 : decode cX3_setTarget 28 = .ok (.return_, 1) := by decide +kernel
theorem dX3_wordsOf_0 : decode cX3_wordsOf 0 = .ok (.iconst 0, 1) := by decide +kernel
theorem dX3_wordsOf_1 : decode cX3_wordsOf 1 = .ok (.istore_n 2, 1) := by decide +kernel
theorem dX3_wordsOf_2 : decode cX3_wordsOf 2 = .ok (.iconst 0, 1) := by decide +kernel
theorem dX3_wordsOf_3 : decode cX3_wordsOf 3 = .ok (.istore_n 3, 1) := by decide +kernel
theorem dX3_wordsOf_4 : decode cX3_wordsOf 4 = .ok (.iload_n 3, 1) := by decide +kernel
theorem dX3_wordsOf_5 : decode cX3_wordsOf 5 = .ok (.bipush 6, 2) := by decide +kernel
theorem dX3_wordsOf_7 : decode cX3_wordsOf 7 = .ok (.if_icmp .ge 25, 3) := by decide +kernel
theorem dX3_wordsOf_10 : decode cX3_wordsOf 10 = .ok (.aload_n 0, 1) := by decide +kernel
theorem dX3_wordsOf_11 : decode cX3_wordsOf 11 = .ok (.iload_n 1, 1) := by decide +kernel
theorem dX3_wordsOf_12 : decode cX3_wordsOf 12 = .ok (.iload_n 3, 1) := by decide +kernel
theorem dX3_wordsOf_13 : decode cX3_wordsOf 13 = .ok (.invokevirtual 33, 3) := by decide +kernel
theorem dX3_wordsOf_16 : decode cX3_wordsOf 16 = .ok (.iconst (-1), 1) := by decide +kernel
theorem dX3_wordsOf_17 : decode cX3_wordsOf 17 = .ok (.if_icmp .eq 9, 3) := by decide +kernel
theorem dX3_wordsOf_20 : decode cX3_wordsOf 20 = .ok (.iload_n 2, 1) := by decide +kernel
theorem dX3_wordsOf_21 : decode cX3_wordsOf 21 = .ok (.iconst 1, 1) := by decide +kernel
theorem dX3_wordsOf_22 : decode cX3_wordsOf 22 = .ok (.iload_n 3, 1) := by decide +kernel
theorem dX3_wordsOf_23 : decode cX3_wordsOf 23 = .ok (.ishl, 1) := by decide +kernel
theorem dX3_wordsOf_24 : decode cX3_wordsOf 24 = .ok (.ior, 1) := by decide +kernel
theorem dX3_wordsOf_25 : decode cX3_wordsOf 25 = .ok (.istore_n 2, 1) := by decide +kernel
theorem dX3_wordsOf_26 : decode cX3_wordsOf 26 = .ok (.iinc 3 1, 3) := by decide +kernel
theorem dX3_wordsOf_29 : decode cX3_wordsOf 29 = .ok (.goto (-25), 3) := by decide +kernel
theorem dX3_wordsOf_32 : decode cX3_wordsOf 32 = .ok (.iload_n 2, 1) := by decide +kernel
theorem dX3_wordsOf_33 : decode cX3_wordsOf 33 = .ok (.ireturn, 1) := by decide +kernel
theorem dX3_arrows_0 : decode cX3_arrows 0 = .ok (.iconst 0, 1) := by decide +kernel
theorem dX3_arrows_1 : decode cX3_arrows 1 = .ok (.istore_n 1, 1) := by decide +kernel
theorem dX3_arrows_2 : decode cX3_arrows 2 = .ok (.iconst 0, 1) := by decide +kernel
theorem dX3_arrows_3 : decode cX3_arrows 3 = .ok (.istore_n 2, 1) := by decide +kernel
theorem dX3_arrows_4 : decode cX3_arrows 4 = .ok (.iload_n 2, 1) := by decide +kernel
theorem dX3_arrows_5 : decode cX3_arrows 5 = .ok (.bipush 8, 2) := by decide +kernel
theorem dX3_arrows_7 : decode cX3_arrows 7 = .ok (.if_icmp .ge 20, 3) := by decide +kernel
theorem dX3_arrows_10 : decode cX3_arrows 10 = .ok (.iload_n 1, 1) := by decide +kernel
theorem dX3_arrows_11 : decode cX3_arrows 11 = .ok (.aload_n 0, 1) := by decide +kernel
theorem dX3_arrows_12 : decode cX3_arrows 12 = .ok (.iload_n 2, 1) := by decide +kernel
theorem dX3_arrows_13 : decode cX3_arrows 13 = .ok (.invokevirtual 37, 3) := by decide +kernel
theorem dX3_arrows_16 : decode cX3_arrows 16 = .ok (.invokestatic 41, 3) := by decide +kernel
theorem dX3_arrows_19 : decode cX3_arrows 19 = .ok (.iadd, 1) := by decide +kernel
theorem dX3_arrows_20 : decode cX3_arrows 20 = .ok (.istore_n 1, 1) := by decide +kernel
theorem dX3_arrows_21 : decode cX3_arrows 21 = .ok (.iinc 2 1, 3) := by decide +kernel
theorem dX3_arrows_24 : decode cX3_arrows 24 = .ok (.goto (-20), 3) := by decide +kernel
theorem dX3_arrows_27 : decode cX3_arrows 27 = .ok (.iload_n 1, 1) := by decide +kernel
theorem dX3_arrows_28 : decode cX3_arrows 28 = .ok (.ireturn, 1) := by decide +kernel
theorem dX3_lastingStates_0 : decode cX3_lastingStates 0 = .ok (.iconst 0, 1) := by decide +kernel
theorem dX3_lastingStates_1 : decode cX3_lastingStates 1 = .ok (.istore_n 1, 1) := by decide +kernel
theorem dX3_lastingStates_2 : decode cX3_lastingStates 2 = .ok (.iconst 0, 1) := by decide +kernel
theorem dX3_lastingStates_3 : decode cX3_lastingStates 3 = .ok (.istore_n 2, 1) := by decide +kernel
theorem dX3_lastingStates_4 : decode cX3_lastingStates 4 = .ok (.iload_n 2, 1) := by decide +kernel
theorem dX3_lastingStates_5 : decode cX3_lastingStates 5 = .ok (.bipush 8, 2) := by decide +kernel
theorem dX3_lastingStates_7 : decode cX3_lastingStates 7 = .ok (.if_icmp .ge 20, 3) := by decide +kernel
theorem dX3_lastingStates_10 : decode cX3_lastingStates 10 = .ok (.aload_n 0, 1) := by decide +kernel
theorem dX3_lastingStates_11 : decode cX3_lastingStates 11 = .ok (.iload_n 2, 1) := by decide +kernel
theorem dX3_lastingStates_12 : decode cX3_lastingStates 12 = .ok (.invokevirtual 46, 3) := by decide +kernel
theorem dX3_lastingStates_15 : decode cX3_lastingStates 15 = .ok (.ifCond .eq 6, 3) := by decide +kernel
theorem dX3_lastingStates_18 : decode cX3_lastingStates 18 = .ok (.iinc 1 1, 3) := by decide +kernel
theorem dX3_lastingStates_21 : decode cX3_lastingStates 21 = .ok (.iinc 2 1, 3) := by decide +kernel
theorem dX3_lastingStates_24 : decode cX3_lastingStates 24 = .ok (.goto (-20), 3) := by decide +kernel
theorem dX3_lastingStates_27 : decode cX3_lastingStates 27 = .ok (.iload_n 1, 1) := by decide +kernel
theorem dX3_lastingStates_28 : decode cX3_lastingStates 28 = .ok (.ireturn, 1) := by decide +kernel
theorem dX3_swapSides_0 : decode cX3_swapSides 0 = .ok (.iconst 0, 1) := by decide +kernel
theorem dX3_swapSides_1 : decode cX3_swapSides 1 = .ok (.istore_n 1, 1) := by decide +kernel
theorem dX3_swapSides_2 : decode cX3_swapSides 2 = .ok (.iload_n 1, 1) := by decide +kernel
theorem dX3_swapSides_3 : decode cX3_swapSides 3 = .ok (.bipush 8, 2) := by decide +kernel
theorem dX3_swapSides_5 : decode cX3_swapSides 5 = .ok (.if_icmp .ge 34, 3) := by decide +kernel
theorem dX3_swapSides_8 : decode cX3_swapSides 8 = .ok (.aload_n 0, 1) := by decide +kernel
theorem dX3_swapSides_9 : decode cX3_swapSides 9 = .ok (.iload_n 1, 1) := by decide +kernel
theorem dX3_swapSides_10 : decode cX3_swapSides 10 = .ok (.invokevirtual 46, 3) := by decide +kernel
theorem dX3_swapSides_13 : decode cX3_swapSides 13 = .ok (.istore_n 2, 1) := by decide +kernel
theorem dX3_swapSides_14 : decode cX3_swapSides 14 = .ok (.iload_n 2, 1) := by decide +kernel
theorem dX3_swapSides_15 : decode cX3_swapSides 15 = .ok (.ifCond .eq 18, 3) := by decide +kernel
theorem dX3_swapSides_18 : decode cX3_swapSides 18 = .ok (.aload_n 0, 1) := by decide +kernel
theorem dX3_swapSides_19 : decode cX3_swapSides 19 = .ok (.iload_n 1, 1) := by decide +kernel
theorem dX3_swapSides_20 : decode cX3_swapSides 20 = .ok (.iload_n 2, 1) := by decide +kernel
theorem dX3_swapSides_21 : decode cX3_swapSides 21 = .ok (.iconst 1, 1) := by decide +kernel
theorem dX3_swapSides_22 : decode cX3_swapSides 22 = .ok (.if_icmp .ne 7, 3) := by decide +kernel
theorem dX3_swapSides_25 : decode cX3_swapSides 25 = .ok (.iconst 2, 1) := by decide +kernel
theorem dX3_swapSides_26 : decode cX3_swapSides 26 = .ok (.goto 4, 3) := by decide +kernel
theorem dX3_swapSides_29 : decode cX3_swapSides 29 = .ok (.iconst 1, 1) := by decide +kernel
theorem dX3_swapSides_30 : decode cX3_swapSides 30 = .ok (.invokevirtual 18, 3) := by decide +kernel
theorem dX3_swapSides_33 : decode cX3_swapSides 33 = .ok (.iinc 1 1, 3) := by decide +kernel
theorem dX3_swapSides_36 : decode cX3_swapSides 36 = .ok (.goto (-34), 3) := by decide +kernel
theorem dX3_swapSides_39 : decode cX3_swapSides 39 = .ok (.return_, 1) := by decide +kernel
theorem dX3_comesTo_0 : decode cX3_comesTo 0 = .ok (.iload_n 1, 1) := by decide +kernel
theorem dX3_comesTo_1 : decode cX3_comesTo 1 = .ok (.invokestatic 26, 3) := by decide +kernel
theorem dX3_comesTo_4 : decode cX3_comesTo 4 = .ok (.ifCond .eq 9, 3) := by decide +kernel
theorem dX3_comesTo_7 : decode cX3_comesTo 7 = .ok (.iconst 1, 1) := by decide +kernel
theorem dX3_comesTo_8 : decode cX3_comesTo 8 = .ok (.iload_n 1, 1) := by decide +kernel
theorem dX3_comesTo_9 : decode cX3_comesTo 9 = .ok (.ishl, 1) := by decide +kernel
theorem dX3_comesTo_10 : decode cX3_comesTo 10 = .ok (.goto 4, 3) := by decide +kernel
theorem dX3_comesTo_13 : decode cX3_comesTo 13 = .ok (.iconst 0, 1) := by decide +kernel
theorem dX3_comesTo_14 : decode cX3_comesTo 14 = .ok (.istore_n 2, 1) := by decide +kernel
theorem dX3_comesTo_15 : decode cX3_comesTo 15 = .ok (.iconst 1, 1) := by decide +kernel
theorem dX3_comesTo_16 : decode cX3_comesTo 16 = .ok (.istore_n 3, 1) := by decide +kernel
theorem dX3_comesTo_17 : decode cX3_comesTo 17 = .ok (.iload_n 3, 1) := by decide +kernel
theorem dX3_comesTo_18 : decode cX3_comesTo 18 = .ok (.bipush 8, 2) := by decide +kernel
theorem dX3_comesTo_20 : decode cX3_comesTo 20 = .ok (.if_icmp .ge 43, 3) := by decide +kernel
theorem dX3_comesTo_23 : decode cX3_comesTo 23 = .ok (.iconst 0, 1) := by decide +kernel
theorem dX3_comesTo_24 : decode cX3_comesTo 24 = .ok (.istore 4, 2) := by decide +kernel
theorem dX3_comesTo_26 : decode cX3_comesTo 26 = .ok (.iload 4, 2) := by decide +kernel
theorem dX3_comesTo_28 : decode cX3_comesTo 28 = .ok (.bipush 8, 2) := by decide +kernel
theorem dX3_comesTo_30 : decode cX3_comesTo 30 = .ok (.if_icmp .ge 27, 3) := by decide +kernel
theorem dX3_comesTo_33 : decode cX3_comesTo 33 = .ok (.iload_n 2, 1) := by decide +kernel
theorem dX3_comesTo_34 : decode cX3_comesTo 34 = .ok (.iload 4, 2) := by decide +kernel
theorem dX3_comesTo_36 : decode cX3_comesTo 36 = .ok (.invokestatic 49, 3) := by decide +kernel
theorem dX3_comesTo_39 : decode cX3_comesTo 39 = .ok (.ifCond .eq 12, 3) := by decide +kernel
theorem dX3_comesTo_42 : decode cX3_comesTo 42 = .ok (.iload_n 2, 1) := by decide +kernel
theorem dX3_comesTo_43 : decode cX3_comesTo 43 = .ok (.aload_n 0, 1) := by decide +kernel
theorem dX3_comesTo_44 : decode cX3_comesTo 44 = .ok (.iload 4, 2) := by decide +kernel
theorem dX3_comesTo_46 : decode cX3_comesTo 46 = .ok (.invokevirtual 53, 3) := by decide +kernel
theorem dX3_comesTo_49 : decode cX3_comesTo 49 = .ok (.ior, 1) := by decide +kernel
theorem dX3_comesTo_50 : decode cX3_comesTo 50 = .ok (.istore_n 2, 1) := by decide +kernel
theorem dX3_comesTo_51 : decode cX3_comesTo 51 = .ok (.iinc 4 1, 3) := by decide +kernel
theorem dX3_comesTo_54 : decode cX3_comesTo 54 = .ok (.goto (-28), 3) := by decide +kernel
theorem dX3_comesTo_57 : decode cX3_comesTo 57 = .ok (.iinc 3 1, 3) := by decide +kernel
theorem dX3_comesTo_60 : decode cX3_comesTo 60 = .ok (.goto (-43), 3) := by decide +kernel
theorem dX3_comesTo_63 : decode cX3_comesTo 63 = .ok (.iload_n 2, 1) := by decide +kernel
theorem dX3_comesTo_64 : decode cX3_comesTo 64 = .ok (.ireturn, 1) := by decide +kernel
theorem dX3_statesBehind_0 : decode cX3_statesBehind 0 = .ok (.iconst 0, 1) := by decide +kernel
theorem dX3_statesBehind_1 : decode cX3_statesBehind 1 = .ok (.istore_n 2, 1) := by decide +kernel
theorem dX3_statesBehind_2 : decode cX3_statesBehind 2 = .ok (.iconst 0, 1) := by decide +kernel
theorem dX3_statesBehind_3 : decode cX3_statesBehind 3 = .ok (.istore_n 3, 1) := by decide +kernel
theorem dX3_statesBehind_4 : decode cX3_statesBehind 4 = .ok (.iload_n 3, 1) := by decide +kernel
theorem dX3_statesBehind_5 : decode cX3_statesBehind 5 = .ok (.bipush 6, 2) := by decide +kernel
theorem dX3_statesBehind_7 : decode cX3_statesBehind 7 = .ok (.if_icmp .ge 38, 3) := by decide +kernel
theorem dX3_statesBehind_10 : decode cX3_statesBehind 10 = .ok (.aload_n 0, 1) := by decide +kernel
theorem dX3_statesBehind_11 : decode cX3_statesBehind 11 = .ok (.iload_n 1, 1) := by decide +kernel
theorem dX3_statesBehind_12 : decode cX3_statesBehind 12 = .ok (.iload_n 3, 1) := by decide +kernel
theorem dX3_statesBehind_13 : decode cX3_statesBehind 13 = .ok (.invokevirtual 33, 3) := by decide +kernel
theorem dX3_statesBehind_16 : decode cX3_statesBehind 16 = .ok (.istore 4, 2) := by decide +kernel
theorem dX3_statesBehind_18 : decode cX3_statesBehind 18 = .ok (.iload 4, 2) := by decide +kernel
theorem dX3_statesBehind_20 : decode cX3_statesBehind 20 = .ok (.iconst (-1), 1) := by decide +kernel
theorem dX3_statesBehind_21 : decode cX3_statesBehind 21 = .ok (.if_icmp .eq 18, 3) := by decide +kernel
theorem dX3_statesBehind_24 : decode cX3_statesBehind 24 = .ok (.aload_n 0, 1) := by decide +kernel
theorem dX3_statesBehind_25 : decode cX3_statesBehind 25 = .ok (.iload_n 1, 1) := by decide +kernel
theorem dX3_statesBehind_26 : decode cX3_statesBehind 26 = .ok (.invokevirtual 46, 3) := by decide +kernel
theorem dX3_statesBehind_29 : decode cX3_statesBehind 29 = .ok (.ifCond .eq 10, 3) := by decide +kernel
theorem dX3_statesBehind_32 : decode cX3_statesBehind 32 = .ok (.iload_n 2, 1) := by decide +kernel
theorem dX3_statesBehind_33 : decode cX3_statesBehind 33 = .ok (.iconst 1, 1) := by decide +kernel
theorem dX3_statesBehind_34 : decode cX3_statesBehind 34 = .ok (.iload 4, 2) := by decide +kernel
theorem dX3_statesBehind_36 : decode cX3_statesBehind 36 = .ok (.ishl, 1) := by decide +kernel
theorem dX3_statesBehind_37 : decode cX3_statesBehind 37 = .ok (.ior, 1) := by decide +kernel
theorem dX3_statesBehind_38 : decode cX3_statesBehind 38 = .ok (.istore_n 2, 1) := by decide +kernel
theorem dX3_statesBehind_39 : decode cX3_statesBehind 39 = .ok (.iinc 3 1, 3) := by decide +kernel
theorem dX3_statesBehind_42 : decode cX3_statesBehind 42 = .ok (.goto (-38), 3) := by decide +kernel
theorem dX3_statesBehind_45 : decode cX3_statesBehind 45 = .ok (.iload_n 2, 1) := by decide +kernel
theorem dX3_statesBehind_46 : decode cX3_statesBehind 46 = .ok (.ireturn, 1) := by decide +kernel
theorem dX3_take_0 : decode cX3_take 0 = .ok (.aload_n 1, 1) := by decide +kernel
theorem dX3_take_1 : decode cX3_take 1 = .ok (.getfield 11, 3) := by decide +kernel
theorem dX3_take_4 : decode cX3_take 4 = .ok (.iconst 0, 1) := by decide +kernel
theorem dX3_take_5 : decode cX3_take 5 = .ok (.aload_n 0, 1) := by decide +kernel
theorem dX3_take_6 : decode cX3_take 6 = .ok (.getfield 11, 3) := by decide +kernel
theorem dX3_take_9 : decode cX3_take 9 = .ok (.iconst 0, 1) := by decide +kernel
theorem dX3_take_10 : decode cX3_take 10 = .ok (.bipush 56, 2) := by decide +kernel
theorem dX3_take_12 : decode cX3_take 12 = .ok (.invokestatic 56, 3) := by decide +kernel
theorem dX3_take_15 : decode cX3_take 15 = .ok (.return_, 1) := by decide +kernel
theorem dX3_saveTo_0 : decode cX3_saveTo 0 = .ok (.iload_n 2, 1) := by decide +kernel
theorem dX3_saveTo_1 : decode cX3_saveTo 1 = .ok (.ifCond .lt 24, 3) := by decide +kernel
theorem dX3_saveTo_4 : decode cX3_saveTo 4 = .ok (.iload_n 2, 1) := by decide +kernel
theorem dX3_saveTo_5 : decode cX3_saveTo 5 = .ok (.aload_n 1, 1) := by decide +kernel
theorem dX3_saveTo_6 : decode cX3_saveTo 6 = .ok (.arraylength, 1) := by decide +kernel
theorem dX3_saveTo_7 : decode cX3_saveTo 7 = .ok (.bipush 56, 2) := by decide +kernel
theorem dX3_saveTo_9 : decode cX3_saveTo 9 = .ok (.isub, 1) := by decide +kernel
theorem dX3_saveTo_10 : decode cX3_saveTo 10 = .ok (.if_icmp .gt 15, 3) := by decide +kernel
theorem dX3_saveTo_13 : decode cX3_saveTo 13 = .ok (.aload_n 0, 1) := by decide +kernel
theorem dX3_saveTo_14 : decode cX3_saveTo 14 = .ok (.getfield 11, 3) := by decide +kernel
theorem dX3_saveTo_17 : decode cX3_saveTo 17 = .ok (.iconst 0, 1) := by decide +kernel
theorem dX3_saveTo_18 : decode cX3_saveTo 18 = .ok (.aload_n 1, 1) := by decide +kernel
theorem dX3_saveTo_19 : decode cX3_saveTo 19 = .ok (.iload_n 2, 1) := by decide +kernel
theorem dX3_saveTo_20 : decode cX3_saveTo 20 = .ok (.bipush 56, 2) := by decide +kernel
theorem dX3_saveTo_22 : decode cX3_saveTo 22 = .ok (.invokestatic 56, 3) := by decide +kernel
theorem dX3_saveTo_25 : decode cX3_saveTo 25 = .ok (.return_, 1) := by decide +kernel
theorem dX3_loadFrom_0 : decode cX3_loadFrom 0 = .ok (.iload_n 2, 1) := by decide +kernel
theorem dX3_loadFrom_1 : decode cX3_loadFrom 1 = .ok (.ifCond .lt 24, 3) := by decide +kernel
theorem dX3_loadFrom_4 : decode cX3_loadFrom 4 = .ok (.iload_n 2, 1) := by decide +kernel
theorem dX3_loadFrom_5 : decode cX3_loadFrom 5 = .ok (.aload_n 1, 1) := by decide +kernel
theorem dX3_loadFrom_6 : decode cX3_loadFrom 6 = .ok (.arraylength, 1) := by decide +kernel
theorem dX3_loadFrom_7 : decode cX3_loadFrom 7 = .ok (.bipush 56, 2) := by decide +kernel
theorem dX3_loadFrom_9 : decode cX3_loadFrom 9 = .ok (.isub, 1) := by decide +kernel
theorem dX3_loadFrom_10 : decode cX3_loadFrom 10 = .ok (.if_icmp .gt 15, 3) := by decide +kernel
theorem dX3_loadFrom_13 : decode cX3_loadFrom 13 = .ok (.aload_n 1, 1) := by decide +kernel
theorem dX3_loadFrom_14 : decode cX3_loadFrom 14 = .ok (.iload_n 2, 1) := by decide +kernel
theorem dX3_loadFrom_15 : decode cX3_loadFrom 15 = .ok (.aload_n 0, 1) := by decide +kernel
theorem dX3_loadFrom_16 : decode cX3_loadFrom 16 = .ok (.getfield 11, 3) := by decide +kernel
theorem dX3_loadFrom_19 : decode cX3_loadFrom 19 = .ok (.iconst 0, 1) := by decide +kernel
theorem dX3_loadFrom_20 : decode cX3_loadFrom 20 = .ok (.bipush 56, 2) := by decide +kernel
theorem dX3_loadFrom_22 : decode cX3_loadFrom 22 = .ok (.invokestatic 56, 3) := by decide +kernel
theorem dX3_loadFrom_25 : decode cX3_loadFrom 25 = .ok (.return_, 1) := by decide +kernel
theorem dX4_init_0 : decode cX4_init 0 = .ok (.aload_n 0, 1) := by decide +kernel
theorem dX4_init_1 : decode cX4_init 1 = .ok (.invokespecial 3, 3) := by decide +kernel
theorem dX4_init_4 : decode cX4_init 4 = .ok (.aload_n 0, 1) := by decide +kernel
theorem dX4_init_5 : decode cX4_init 5 = .ok (.bipush 80, 2) := by decide +kernel
theorem dX4_init_7 : decode cX4_init 7 = .ok (.newarray .int, 2) := by decide +kernel
theorem dX4_init_9 : decode cX4_init 9 = .ok (.putfield 11, 3) := by decide +kernel
theorem dX4_init_12 : decode cX4_init 12 = .ok (.aload_n 0, 1) := by decide +kernel
theorem dX4_init_13 : decode cX4_init 13 = .ok (.new 15, 3) := by decide +kernel
theorem dX4_init_16 : decode cX4_init 16 = .ok (.dup, 1) := by decide +kernel
theorem dX4_init_17 : decode cX4_init 17 = .ok (.invokespecial 17, 3) := by decide +kernel
theorem dX4_init_20 : decode cX4_init 20 = .ok (.putfield 18, 3) := by decide +kernel
theorem dX4_init_23 : decode cX4_init 23 = .ok (.return_, 1) := by decide +kernel
theorem dX4_length_0 : decode cX4_length 0 = .ok (.aload_n 0, 1) := by decide +kernel
theorem dX4_length_1 : decode cX4_length 1 = .ok (.getfield 22, 3) := by decide +kernel
theorem dX4_length_4 : decode cX4_length 4 = .ok (.ireturn, 1) := by decide +kernel
theorem dX4_isFull_0 : decode cX4_isFull 0 = .ok (.aload_n 0, 1) := by decide +kernel
theorem dX4_isFull_1 : decode cX4_isFull 1 = .ok (.getfield 22, 3) := by decide +kernel
theorem dX4_isFull_4 : decode cX4_isFull 4 = .ok (.bipush 80, 2) := by decide +kernel
theorem dX4_isFull_6 : decode cX4_isFull 6 = .ok (.if_icmp .lt 7, 3) := by decide +kernel
theorem dX4_isFull_9 : decode cX4_isFull 9 = .ok (.iconst 1, 1) := by decide +kernel
theorem dX4_isFull_10 : decode cX4_isFull 10 = .ok (.goto 4, 3) := by decide +kernel
theorem dX4_isFull_13 : decode cX4_isFull 13 = .ok (.iconst 0, 1) := by decide +kernel
theorem dX4_isFull_14 : decode cX4_isFull 14 = .ok (.ireturn, 1) := by decide +kernel
theorem dX4_append_0 : decode cX4_append 0 = .ok (.aload_n 0, 1) := by decide +kernel
theorem dX4_append_1 : decode cX4_append 1 = .ok (.getfield 22, 3) := by decide +kernel
theorem dX4_append_4 : decode cX4_append 4 = .ok (.bipush 80, 2) := by decide +kernel
theorem dX4_append_6 : decode cX4_append 6 = .ok (.if_icmp .ge 23, 3) := by decide +kernel
theorem dX4_append_9 : decode cX4_append 9 = .ok (.aload_n 0, 1) := by decide +kernel
theorem dX4_append_10 : decode cX4_append 10 = .ok (.getfield 11, 3) := by decide +kernel
theorem dX4_append_13 : decode cX4_append 13 = .ok (.aload_n 0, 1) := by decide +kernel
theorem dX4_append_14 : decode cX4_append 14 = .ok (.getfield 22, 3) := by decide +kernel
theorem dX4_append_17 : decode cX4_append 17 = .ok (.iload_n 1, 1) := by decide +kernel
theorem dX4_append_18 : decode cX4_append 18 = .ok (.iastore, 1) := by decide +kernel
theorem dX4_append_19 : decode cX4_append 19 = .ok (.aload_n 0, 1) := by decide +kernel
theorem dX4_append_20 : decode cX4_append 20 = .ok (.dup, 1) := by decide +kernel
theorem dX4_append_21 : decode cX4_append 21 = .ok (.getfield 22, 3) := by decide +kernel
theorem dX4_append_24 : decode cX4_append 24 = .ok (.iconst 1, 1) := by decide +kernel
theorem dX4_append_25 : decode cX4_append 25 = .ok (.iadd, 1) := by decide +kernel
theorem dX4_append_26 : decode cX4_append 26 = .ok (.putfield 22, 3) := by decide +kernel
theorem dX4_append_29 : decode cX4_append 29 = .ok (.return_, 1) := by decide +kernel
theorem dX4_clear_0 : decode cX4_clear 0 = .ok (.aload_n 0, 1) := by decide +kernel
theorem dX4_clear_1 : decode cX4_clear 1 = .ok (.iconst 0, 1) := by decide +kernel
theorem dX4_clear_2 : decode cX4_clear 2 = .ok (.putfield 22, 3) := by decide +kernel
theorem dX4_clear_5 : decode cX4_clear 5 = .ok (.return_, 1) := by decide +kernel
theorem dX4_draft_0 : decode cX4_draft 0 = .ok (.aload_n 0, 1) := by decide +kernel
theorem dX4_draft_1 : decode cX4_draft 1 = .ok (.getfield 18, 3) := by decide +kernel
theorem dX4_draft_4 : decode cX4_draft 4 = .ok (.areturn, 1) := by decide +kernel
theorem dX4_toldStates_0 : decode cX4_toldStates 0 = .ok (.aload_n 0, 1) := by decide +kernel
theorem dX4_toldStates_1 : decode cX4_toldStates 1 = .ok (.getfield 26, 3) := by decide +kernel
theorem dX4_toldStates_4 : decode cX4_toldStates 4 = .ok (.invokestatic 29, 3) := by decide +kernel
theorem dX4_toldStates_7 : decode cX4_toldStates 7 = .ok (.ireturn, 1) := by decide +kernel
theorem dX4_isFaulty_0 : decode cX4_isFaulty 0 = .ok (.aload_n 0, 1) := by decide +kernel
theorem dX4_isFaulty_1 : decode cX4_isFaulty 1 = .ok (.getfield 35, 3) := by decide +kernel
theorem dX4_isFaulty_4 : decode cX4_isFaulty 4 = .ok (.ifCond .eq 7, 3) := by decide +kernel
theorem dX4_isFaulty_7 : decode cX4_isFaulty 7 = .ok (.iconst 1, 1) := by decide +kernel
theorem dX4_isFaulty_8 : decode cX4_isFaulty 8 = .ok (.goto 4, 3) := by decide +kernel
theorem dX4_isFaulty_11 : decode cX4_isFaulty 11 = .ok (.iconst 0, 1) := by decide +kernel
theorem dX4_isFaulty_12 : decode cX4_isFaulty 12 = .ok (.ireturn, 1) := by decide +kernel
theorem dX4_faultPosition_0 : decode cX4_faultPosition 0 = .ok (.aload_n 0, 1) := by decide +kernel
theorem dX4_faultPosition_1 : decode cX4_faultPosition 1 = .ok (.getfield 38, 3) := by decide +kernel
theorem dX4_faultPosition_4 : decode cX4_faultPosition 4 = .ok (.ireturn, 1) := by decide +kernel
theorem dX4_faultReason_0 : decode cX4_faultReason 0 = .ok (.aload_n 0, 1) := by decide +kernel
theorem dX4_faultReason_1 : decode cX4_faultReason 1 = .ok (.getfield 35, 3) := by decide +kernel
theorem dX4_faultReason_4 : decode cX4_faultReason 4 = .ok (.ireturn, 1) := by decide +kernel
theorem dX4_faultCause_0 : decode cX4_faultCause 0 = .ok (.aload_n 0, 1) := by decide +kernel
theorem dX4_faultCause_1 : decode cX4_faultCause 1 = .ok (.getfield 41, 3) := by decide +kernel
theorem dX4_faultCause_4 : decode cX4_faultCause 4 = .ok (.ireturn, 1) := by decide +kernel
theorem dX4_parse_0 : decode cX4_parse 0 = .ok (.aload_n 0, 1) := by decide +kernel
theorem dX4_parse_1 : decode cX4_parse 1 = .ok (.getfield 18, 3) := by decide +kernel
theorem dX4_parse_4 : decode cX4_parse 4 = .ok (.invokevirtual 44, 3) := by decide +kernel
theorem dX4_parse_7 : decode cX4_parse 7 = .ok (.aload_n 0, 1) := by decide +kernel
theorem dX4_parse_8 : decode cX4_parse 8 = .ok (.iconst 0, 1) := by decide +kernel
theorem dX4_parse_9 : decode cX4_parse 9 = .ok (.putfield 26, 3) := by decide +kernel
theorem dX4_parse_12 : decode cX4_parse 12 = .ok (.aload_n 0, 1) := by decide +kernel
theorem dX4_parse_13 : decode cX4_parse 13 = .ok (.iconst (-1), 1) := by decide +kernel
theorem dX4_parse_14 : decode cX4_parse 14 = .ok (.iconst 0, 1) := by decide +kernel
theorem dX4_parse_15 : decode cX4_parse 15 = .ok (.iconst (-1), 1) := by decide +kernel
theorem dX4_parse_16 : decode cX4_parse 16 = .ok (.invokevirtual 47, 3) := by decide +kernel
theorem dX4_parse_19 : decode cX4_parse 19 = .ok (.iconst 0, 1) := by decide +kernel
theorem dX4_parse_20 : decode cX4_parse 20 = .ok (.istore_n 1, 1) := by decide +kernel
theorem dX4_parse_21 : decode cX4_parse 21 = .ok (.iconst 0, 1) := by decide +kernel
theorem dX4_parse_22 : decode cX4_parse 22 = .ok (.istore_n 2, 1) := by decide +kernel
theorem dX4_parse_23 : decode cX4_parse 23 = .ok (.iload_n 2, 1) := by decide +kernel
theorem dX4_parse_24 : decode cX4_parse 24 = .ok (.bipush 80, 2) := by decide +kernel
theorem dX4_parse_26 : decode cX4_parse 26 = .ok (.if_icmp .ge 102, 3) := by decide +kernel
theorem dX4_parse_29 : decode cX4_parse 29 = .ok (.iload_n 1, 1) := by decide +kernel
theorem dX4_parse_30 : decode cX4_parse 30 = .ok (.aload_n 0, 1) := by decide +kernel
theorem dX4_parse_31 : decode cX4_parse 31 = .ok (.getfield 22, 3) := by decide +kernel
theorem dX4_parse_34 : decode cX4_parse 34 = .ok (.if_icmp .ge 94, 3) := by decide +kernel
theorem dX4_parse_37 : decode cX4_parse 37 = .ok (.aload_n 0, 1) := by decide +kernel
theorem dX4_parse_38 : decode cX4_parse 38 = .ok (.invokevirtual 51, 3) := by decide +kernel
theorem dX4_parse_41 : decode cX4_parse 41 = .ok (.ifCond .ne 87, 3) := by decide +kernel
theorem dX4_parse_44 : decode cX4_parse 44 = .ok (.iload_n 1, 1) := by decide +kernel
theorem dX4_parse_45 : decode cX4_parse 45 = .ok (.istore_n 3, 1) := by decide +kernel
theorem dX4_parse_46 : decode cX4_parse 46 = .ok (.iconst 0, 1) := by decide +kernel
theorem dX4_parse_47 : decode cX4_parse 47 = .ok (.aload_n 0, 1) := by decide +kernel
theorem dX4_parse_48 : decode cX4_parse 48 = .ok (.iload_n 3, 1) := by decide +kernel
theorem dX4_parse_49 : decode cX4_parse 49 = .ok (.invokevirtual 55, 3) := by decide +kernel
theorem dX4_parse_52 : decode cX4_parse 52 = .ok (.invokestatic 58, 3) := by decide +kernel
theorem dX4_parse_55 : decode cX4_parse 55 = .ok (.istore 4, 2) := by decide +kernel
theorem dX4_parse_57 : decode cX4_parse 57 = .ok (.iconst 0, 1) := by decide +kernel
theorem dX4_parse_58 : decode cX4_parse 58 = .ok (.istore 5, 2) := by decide +kernel
theorem dX4_parse_60 : decode cX4_parse 60 = .ok (.iload 5, 2) := by decide +kernel
theorem dX4_parse_62 : decode cX4_parse 62 = .ok (.bipush 80, 2) := by decide +kernel
theorem dX4_parse_64 : decode cX4_parse 64 = .ok (.if_icmp .ge 30, 3) := by decide +kernel
theorem dX4_parse_67 : decode cX4_parse 67 = .ok (.iload 4, 2) := by decide +kernel
theorem dX4_parse_69 : decode cX4_parse 69 = .ok (.iconst 5, 1) := by decide +kernel
theorem dX4_parse_70 : decode cX4_parse 70 = .ok (.if_icmp .ge 24, 3) := by decide +kernel
theorem dX4_parse_73 : decode cX4_parse 73 = .ok (.iinc 3 1, 3) := by decide +kernel
theorem dX4_parse_76 : decode cX4_parse 76 = .ok (.iload 4, 2) := by decide +kernel
theorem dX4_parse_78 : decode cX4_parse 78 = .ok (.aload_n 0, 1) := by decide +kernel
theorem dX4_parse_79 : decode cX4_parse 79 = .ok (.iload_n 3, 1) := by decide +kernel
theorem dX4_parse_80 : decode cX4_parse 80 = .ok (.invokevirtual 55, 3) := by decide +kernel
theorem dX4_parse_83 : decode cX4_parse 83 = .ok (.invokestatic 58, 3) := by decide +kernel
theorem dX4_parse_86 : decode cX4_parse 86 = .ok (.istore 4, 2) := by decide +kernel
theorem dX4_parse_88 : decode cX4_parse 88 = .ok (.iinc 5 1, 3) := by decide +kernel
theorem dX4_parse_91 : decode cX4_parse 91 = .ok (.goto (-31), 3) := by decide +kernel
theorem dX4_parse_94 : decode cX4_parse 94 = .ok (.iload 4, 2) := by decide +kernel
theorem dX4_parse_96 : decode cX4_parse 96 = .ok (.iconst 5, 1) := by decide +kernel
theorem dX4_parse_97 : decode cX4_parse 97 = .ok (.if_icmp .ne 12, 3) := by decide +kernel
theorem dX4_parse_100 : decode cX4_parse 100 = .ok (.aload_n 0, 1) := by decide +kernel
theorem dX4_parse_101 : decode cX4_parse 101 = .ok (.iload_n 1, 1) := by decide +kernel
theorem dX4_parse_102 : decode cX4_parse 102 = .ok (.iload_n 3, 1) := by decide +kernel
theorem dX4_parse_103 : decode cX4_parse 103 = .ok (.invokevirtual 62, 3) := by decide +kernel
theorem dX4_parse_106 : decode cX4_parse 106 = .ok (.goto 12, 3) := by decide +kernel
theorem dX4_parse_109 : decode cX4_parse 109 = .ok (.aload_n 0, 1) := by decide +kernel
theorem dX4_parse_110 : decode cX4_parse 110 = .ok (.iload_n 1, 1) := by decide +kernel
theorem dX4_parse_111 : decode cX4_parse 111 = .ok (.iconst 1, 1) := by decide +kernel
theorem dX4_parse_112 : decode cX4_parse 112 = .ok (.iload_n 3, 1) := by decide +kernel
theorem dX4_parse_113 : decode cX4_parse 113 = .ok (.iload_n 1, 1) := by decide +kernel
theorem dX4_parse_114 : decode cX4_parse 114 = .ok (.isub, 1) := by decide +kernel
theorem dX4_parse_115 : decode cX4_parse 115 = .ok (.invokevirtual 47, 3) := by decide +kernel
theorem dX4_parse_118 : decode cX4_parse 118 = .ok (.iload_n 3, 1) := by decide +kernel
theorem dX4_parse_119 : decode cX4_parse 119 = .ok (.iconst 1, 1) := by decide +kernel
theorem dX4_parse_120 : decode cX4_parse 120 = .ok (.iadd, 1) := by decide +kernel
theorem dX4_parse_121 : decode cX4_parse 121 = .ok (.istore_n 1, 1) := by decide +kernel
theorem dX4_parse_122 : decode cX4_parse 122 = .ok (.iinc 2 1, 3) := by decide +kernel
theorem dX4_parse_125 : decode cX4_parse 125 = .ok (.goto (-102), 3) := by decide +kernel
theorem dX4_parse_128 : decode cX4_parse 128 = .ok (.return_, 1) := by decide +kernel
theorem dX4_after_0 : decode cX4_after 0 = .ok (.iload_n 0, 1) := by decide +kernel
theorem dX4_after_1 : decode cX4_after 1 = .ok (.tableswitch 138 0 4 #[35, 52, 81, 94, 121], 35) := by decide +kernel
theorem dX4_after_36 : decode cX4_after 36 = .ok (.iload_n 1, 1) := by decide +kernel
theorem dX4_after_37 : decode cX4_after 37 = .ok (.bipush 48, 2) := by decide +kernel
theorem dX4_after_39 : decode cX4_after 39 = .ok (.isub, 1) := by decide +kernel
theorem dX4_after_40 : decode cX4_after 40 = .ok (.invokestatic 66, 3) := by decide +kernel
theorem dX4_after_43 : decode cX4_after 43 = .ok (.ifCond .eq 7, 3) := by decide +kernel
theorem dX4_after_46 : decode cX4_after 46 = .ok (.iconst 1, 1) := by decide +kernel
theorem dX4_after_47 : decode cX4_after 47 = .ok (.goto 5, 3) := by decide +kernel
theorem dX4_after_50 : decode cX4_after 50 = .ok (.bipush 6, 2) := by decide +kernel
theorem dX4_after_52 : decode cX4_after 52 = .ok (.ireturn, 1) := by decide +kernel
theorem dX4_after_53 : decode cX4_after 53 = .ok (.iload_n 1, 1) := by decide +kernel
theorem dX4_after_54 : decode cX4_after 54 = .ok (.bipush 46, 2) := by decide +kernel
theorem dX4_after_56 : decode cX4_after 56 = .ok (.if_icmp .ne 7, 3) := by decide +kernel
theorem dX4_after_59 : decode cX4_after 59 = .ok (.iconst 2, 1) := by decide +kernel
theorem dX4_after_60 : decode cX4_after 60 = .ok (.goto 21, 3) := by decide +kernel
theorem dX4_after_63 : decode cX4_after 63 = .ok (.iload_n 1, 1) := by decide +kernel
theorem dX4_after_64 : decode cX4_after 64 = .ok (.bipush 33, 2) := by decide +kernel
theorem dX4_after_66 : decode cX4_after 66 = .ok (.if_icmp .eq 9, 3) := by decide +kernel
theorem dX4_after_69 : decode cX4_after 69 = .ok (.iload_n 1, 1) := by decide +kernel
theorem dX4_after_70 : decode cX4_after 70 = .ok (.bipush 63, 2) := by decide +kernel
theorem dX4_after_72 : decode cX4_after 72 = .ok (.if_icmp .ne 7, 3) := by decide +kernel
theorem dX4_after_75 : decode cX4_after 75 = .ok (.iconst 3, 1) := by decide +kernel
theorem dX4_after_76 : decode cX4_after 76 = .ok (.goto 5, 3) := by decide +kernel
theorem dX4_after_79 : decode cX4_after 79 = .ok (.bipush 6, 2) := by decide +kernel
theorem dX4_after_81 : decode cX4_after 81 = .ok (.ireturn, 1) := by decide +kernel
theorem dX4_after_82 : decode cX4_after 82 = .ok (.iload_n 1, 1) := by decide +kernel
theorem dX4_after_83 : decode cX4_after 83 = .ok (.bipush 59, 2) := by decide +kernel
theorem dX4_after_85 : decode cX4_after 85 = .ok (.if_icmp .ne 7, 3) := by decide +kernel
theorem dX4_after_88 : decode cX4_after 88 = .ok (.iconst 5, 1) := by decide +kernel
theorem dX4_after_89 : decode cX4_after 89 = .ok (.goto 5, 3) := by decide +kernel
theorem dX4_after_92 : decode cX4_after 92 = .ok (.bipush 6, 2) := by decide +kernel
theorem dX4_after_94 : decode cX4_after 94 = .ok (.ireturn, 1) := by decide +kernel
theorem dX4_after_95 : decode cX4_after 95 = .ok (.iload_n 1, 1) := by decide +kernel
theorem dX4_after_96 : decode cX4_after 96 = .ok (.bipush 59, 2) := by decide +kernel
theorem dX4_after_98 : decode cX4_after 98 = .ok (.if_icmp .ne 7, 3) := by decide +kernel
theorem dX4_after_101 : decode cX4_after 101 = .ok (.iconst 5, 1) := by decide +kernel
theorem dX4_after_102 : decode cX4_after 102 = .ok (.goto 19, 3) := by decide +kernel
theorem dX4_after_105 : decode cX4_after 105 = .ok (.iload_n 1, 1) := by decide +kernel
theorem dX4_after_106 : decode cX4_after 106 = .ok (.bipush 97, 2) := by decide +kernel
theorem dX4_after_108 : decode cX4_after 108 = .ok (.isub, 1) := by decide +kernel
theorem dX4_after_109 : decode cX4_after 109 = .ok (.invokestatic 70, 3) := by decide +kernel
theorem dX4_after_112 : decode cX4_after 112 = .ok (.ifCond .eq 7, 3) := by decide +kernel
theorem dX4_after_115 : decode cX4_after 115 = .ok (.iconst 4, 1) := by decide +kernel
theorem dX4_after_116 : decode cX4_after 116 = .ok (.goto 5, 3) := by decide +kernel
theorem dX4_after_119 : decode cX4_after 119 = .ok (.bipush 6, 2) := by decide +kernel
theorem dX4_after_121 : decode cX4_after 121 = .ok (.ireturn, 1) := by decide +kernel
theorem dX4_after_122 : decode cX4_after 122 = .ok (.iload_n 1, 1) := by decide +kernel
theorem dX4_after_123 : decode cX4_after 123 = .ok (.bipush 48, 2) := by decide +kernel
theorem dX4_after_125 : decode cX4_after 125 = .ok (.isub, 1) := by decide +kernel
theorem dX4_after_126 : decode cX4_after 126 = .ok (.invokestatic 66, 3) := by decide +kernel
theorem dX4_after_129 : decode cX4_after 129 = .ok (.ifCond .eq 7, 3) := by decide +kernel
theorem dX4_after_132 : decode cX4_after 132 = .ok (.iconst 3, 1) := by decide +kernel
theorem dX4_after_133 : decode cX4_after 133 = .ok (.goto 5, 3) := by decide +kernel
theorem dX4_after_136 : decode cX4_after 136 = .ok (.bipush 6, 2) := by decide +kernel
theorem dX4_after_138 : decode cX4_after 138 = .ok (.ireturn, 1) := by decide +kernel
theorem dX4_after_139 : decode cX4_after 139 = .ok (.bipush 6, 2) := by decide +kernel
theorem dX4_after_141 : decode cX4_after 141 = .ok (.ireturn, 1) := by decide +kernel
theorem dX4_takeState_0 : decode cX4_takeState 0 = .ok (.aload_n 0, 1) := by decide +kernel
theorem dX4_takeState_1 : decode cX4_takeState 1 = .ok (.iload_n 1, 1) := by decide +kernel
theorem dX4_takeState_2 : decode cX4_takeState 2 = .ok (.invokevirtual 55, 3) := by decide +kernel
theorem dX4_takeState_5 : decode cX4_takeState 5 = .ok (.bipush 48, 2) := by decide +kernel
theorem dX4_takeState_7 : decode cX4_takeState 7 = .ok (.isub, 1) := by decide +kernel
theorem dX4_takeState_8 : decode cX4_takeState 8 = .ok (.istore_n 3, 1) := by decide +kernel
theorem dX4_takeState_9 : decode cX4_takeState 9 = .ok (.aload_n 0, 1) := by decide +kernel
theorem dX4_takeState_10 : decode cX4_takeState 10 = .ok (.getfield 26, 3) := by decide +kernel
theorem dX4_takeState_13 : decode cX4_takeState 13 = .ok (.iload_n 3, 1) := by decide +kernel
theorem dX4_takeState_14 : decode cX4_takeState 14 = .ok (.invokestatic 73, 3) := by decide +kernel
theorem dX4_takeState_17 : decode cX4_takeState 17 = .ok (.ifCond .eq 11, 3) := by decide +kernel
theorem dX4_takeState_20 : decode cX4_takeState 20 = .ok (.aload_n 0, 1) := by decide +kernel
theorem dX4_takeState_21 : decode cX4_takeState 21 = .ok (.iload_n 1, 1) := by decide +kernel
theorem dX4_takeState_22 : decode cX4_takeState 22 = .ok (.iconst 2, 1) := by decide +kernel
theorem dX4_takeState_23 : decode cX4_takeState 23 = .ok (.iconst (-1), 1) := by decide +kernel
theorem dX4_takeState_24 : decode cX4_takeState 24 = .ok (.invokevirtual 47, 3) := by decide +kernel
theorem dX4_takeState_27 : decode cX4_takeState 27 = .ok (.return_, 1) := by decide +kernel
theorem dX4_takeState_28 : decode cX4_takeState 28 = .ok (.aload_n 0, 1) := by decide +kernel
theorem dX4_takeState_29 : decode cX4_takeState 29 = .ok (.dup, 1) := by decide +kernel
theorem dX4_takeState_30 : decode cX4_takeState 30 = .ok (.getfield 26, 3) := by decide +kernel
theorem dX4_takeState_33 : decode cX4_takeState 33 = .ok (.iconst 1, 1) := by decide +kernel
theorem dX4_takeState_34 : decode cX4_takeState 34 = .ok (.iload_n 3, 1) := by decide +kernel
theorem dX4_takeState_35 : decode cX4_takeState 35 = .ok (.ishl, 1) := by decide +kernel
theorem dX4_takeState_36 : decode cX4_takeState 36 = .ok (.ior, 1) := by decide +kernel
theorem dX4_takeState_37 : decode cX4_takeState 37 = .ok (.putfield 26, 3) := by decide +kernel
theorem dX4_takeState_40 : decode cX4_takeState 40 = .ok (.aload_n 0, 1) := by decide +kernel
theorem dX4_takeState_41 : decode cX4_takeState 41 = .ok (.iload_n 1, 1) := by decide +kernel
theorem dX4_takeState_42 : decode cX4_takeState 42 = .ok (.iconst 1, 1) := by decide +kernel
theorem dX4_takeState_43 : decode cX4_takeState 43 = .ok (.iadd, 1) := by decide +kernel
theorem dX4_takeState_44 : decode cX4_takeState 44 = .ok (.invokevirtual 55, 3) := by decide +kernel
theorem dX4_takeState_47 : decode cX4_takeState 47 = .ok (.istore 4, 2) := by decide +kernel
theorem dX4_takeState_49 : decode cX4_takeState 49 = .ok (.aload_n 0, 1) := by decide +kernel
theorem dX4_takeState_50 : decode cX4_takeState 50 = .ok (.getfield 18, 3) := by decide +kernel
theorem dX4_takeState_53 : decode cX4_takeState 53 = .ok (.iload_n 3, 1) := by decide +kernel
theorem dX4_takeState_54 : decode cX4_takeState 54 = .ok (.iload 4, 2) := by decide +kernel
theorem dX4_takeState_56 : decode cX4_takeState 56 = .ok (.bipush 46, 2) := by decide +kernel
theorem dX4_takeState_58 : decode cX4_takeState 58 = .ok (.if_icmp .ne 7, 3) := by decide +kernel
theorem dX4_takeState_61 : decode cX4_takeState 61 = .ok (.iconst 0, 1) := by decide +kernel
theorem dX4_takeState_62 : decode cX4_takeState 62 = .ok (.goto 15, 3) := by decide +kernel
theorem dX4_takeState_65 : decode cX4_takeState 65 = .ok (.iload 4, 2) := by decide +kernel
theorem dX4_takeState_67 : decode cX4_takeState 67 = .ok (.bipush 33, 2) := by decide +kernel
theorem dX4_takeState_69 : decode cX4_takeState 69 = .ok (.if_icmp .ne 7, 3) := by decide +kernel
theorem dX4_takeState_72 : decode cX4_takeState 72 = .ok (.iconst 1, 1) := by decide +kernel
theorem dX4_takeState_73 : decode cX4_takeState 73 = .ok (.goto 4, 3) := by decide +kernel
theorem dX4_takeState_76 : decode cX4_takeState 76 = .ok (.iconst 2, 1) := by decide +kernel
theorem dX4_takeState_77 : decode cX4_takeState 77 = .ok (.invokevirtual 77, 3) := by decide +kernel
theorem dX4_takeState_80 : decode cX4_takeState 80 = .ok (.iload_n 1, 1) := by decide +kernel
theorem dX4_takeState_81 : decode cX4_takeState 81 = .ok (.iconst 2, 1) := by decide +kernel
theorem dX4_takeState_82 : decode cX4_takeState 82 = .ok (.iadd, 1) := by decide +kernel
theorem dX4_takeState_83 : decode cX4_takeState 83 = .ok (.istore 5, 2) := by decide +kernel
theorem dX4_takeState_85 : decode cX4_takeState 85 = .ok (.iload 5, 2) := by decide +kernel
theorem dX4_takeState_87 : decode cX4_takeState 87 = .ok (.iload_n 2, 1) := by decide +kernel
theorem dX4_takeState_88 : decode cX4_takeState 88 = .ok (.if_icmp .ge 64, 3) := by decide +kernel
theorem dX4_takeState_91 : decode cX4_takeState 91 = .ok (.aload_n 0, 1) := by decide +kernel
theorem dX4_takeState_92 : decode cX4_takeState 92 = .ok (.iload 5, 2) := by decide +kernel
theorem dX4_takeState_94 : decode cX4_takeState 94 = .ok (.invokevirtual 55, 3) := by decide +kernel
theorem dX4_takeState_97 : decode cX4_takeState 97 = .ok (.bipush 97, 2) := by decide +kernel
theorem dX4_takeState_99 : decode cX4_takeState 99 = .ok (.isub, 1) := by decide +kernel
theorem dX4_takeState_100 : decode cX4_takeState 100 = .ok (.istore 6, 2) := by decide +kernel
theorem dX4_takeState_102 : decode cX4_takeState 102 = .ok (.aload_n 0, 1) := by decide +kernel
theorem dX4_takeState_103 : decode cX4_takeState 103 = .ok (.getfield 18, 3) := by decide +kernel
theorem dX4_takeState_106 : decode cX4_takeState 106 = .ok (.iload_n 3, 1) := by decide +kernel
theorem dX4_takeState_107 : decode cX4_takeState 107 = .ok (.iload 6, 2) := by decide +kernel
theorem dX4_takeState_109 : decode cX4_takeState 109 = .ok (.invokevirtual 80, 3) := by decide +kernel
theorem dX4_takeState_112 : decode cX4_takeState 112 = .ok (.iconst (-1), 1) := by decide +kernel
theorem dX4_takeState_113 : decode cX4_takeState 113 = .ok (.if_icmp .eq 12, 3) := by decide +kernel
theorem dX4_takeState_116 : decode cX4_takeState 116 = .ok (.aload_n 0, 1) := by decide +kernel
theorem dX4_takeState_117 : decode cX4_takeState 117 = .ok (.iload_n 1, 1) := by decide +kernel
theorem dX4_takeState_118 : decode cX4_takeState 118 = .ok (.iconst 3, 1) := by decide +kernel
theorem dX4_takeState_119 : decode cX4_takeState 119 = .ok (.iload 6, 2) := by decide +kernel
theorem dX4_takeState_121 : decode cX4_takeState 121 = .ok (.invokevirtual 47, 3) := by decide +kernel
theorem dX4_takeState_124 : decode cX4_takeState 124 = .ok (.return_, 1) := by decide +kernel
theorem dX4_takeState_125 : decode cX4_takeState 125 = .ok (.aload_n 0, 1) := by decide +kernel
theorem dX4_takeState_126 : decode cX4_takeState 126 = .ok (.getfield 18, 3) := by decide +kernel
theorem dX4_takeState_129 : decode cX4_takeState 129 = .ok (.iload_n 3, 1) := by decide +kernel
theorem dX4_takeState_130 : decode cX4_takeState 130 = .ok (.iload 6, 2) := by decide +kernel
theorem dX4_takeState_132 : decode cX4_takeState 132 = .ok (.aload_n 0, 1) := by decide +kernel
theorem dX4_takeState_133 : decode cX4_takeState 133 = .ok (.iload 5, 2) := by decide +kernel
theorem dX4_takeState_135 : decode cX4_takeState 135 = .ok (.iconst 1, 1) := by decide +kernel
theorem dX4_takeState_136 : decode cX4_takeState 136 = .ok (.iadd, 1) := by decide +kernel
theorem dX4_takeState_137 : decode cX4_takeState 137 = .ok (.invokevirtual 55, 3) := by decide +kernel
theorem dX4_takeState_140 : decode cX4_takeState 140 = .ok (.bipush 48, 2) := by decide +kernel
theorem dX4_takeState_142 : decode cX4_takeState 142 = .ok (.isub, 1) := by decide +kernel
theorem dX4_takeState_143 : decode cX4_takeState 143 = .ok (.invokevirtual 83, 3) := by decide +kernel
theorem dX4_takeState_146 : decode cX4_takeState 146 = .ok (.iinc 5 2, 3) := by decide +kernel
theorem dX4_takeState_149 : decode cX4_takeState 149 = .ok (.goto (-64), 3) := by decide +kernel
theorem dX4_takeState_152 : decode cX4_takeState 152 = .ok (.return_, 1) := by decide +kernel
theorem dX4_setFault_0 : decode cX4_setFault 0 = .ok (.aload_n 0, 1) := by decide +kernel
theorem dX4_setFault_1 : decode cX4_setFault 1 = .ok (.iload_n 1, 1) := by decide +kernel
theorem dX4_setFault_2 : decode cX4_setFault 2 = .ok (.putfield 38, 3) := by decide +kernel
theorem dX4_setFault_5 : decode cX4_setFault 5 = .ok (.aload_n 0, 1) := by decide +kernel
theorem dX4_setFault_6 : decode cX4_setFault 6 = .ok (.iload_n 2, 1) := by decide +kernel
theorem dX4_setFault_7 : decode cX4_setFault 7 = .ok (.putfield 35, 3) := by decide +kernel
theorem dX4_setFault_10 : decode cX4_setFault 10 = .ok (.aload_n 0, 1) := by decide +kernel
theorem dX4_setFault_11 : decode cX4_setFault 11 = .ok (.iload_n 3, 1) := by decide +kernel
theorem dX4_setFault_12 : decode cX4_setFault 12 = .ok (.putfield 41, 3) := by decide +kernel
theorem dX4_setFault_15 : decode cX4_setFault 15 = .ok (.return_, 1) := by decide +kernel
theorem dX4_characterAt_0 : decode cX4_characterAt 0 = .ok (.iload_n 1, 1) := by decide +kernel
theorem dX4_characterAt_1 : decode cX4_characterAt 1 = .ok (.aload_n 0, 1) := by decide +kernel
theorem dX4_characterAt_2 : decode cX4_characterAt 2 = .ok (.getfield 22, 3) := by decide +kernel
theorem dX4_characterAt_5 : decode cX4_characterAt 5 = .ok (.if_icmp .ge 14, 3) := by decide +kernel
theorem dX4_characterAt_8 : decode cX4_characterAt 8 = .ok (.aload_n 0, 1) := by decide +kernel
theorem dX4_characterAt_9 : decode cX4_characterAt 9 = .ok (.getfield 11, 3) := by decide +kernel
theorem dX4_characterAt_12 : decode cX4_characterAt 12 = .ok (.iload_n 1, 1) := by decide +kernel
theorem dX4_characterAt_13 : decode cX4_characterAt 13 = .ok (.invokestatic 86, 3) := by decide +kernel
theorem dX4_characterAt_16 : decode cX4_characterAt 16 = .ok (.goto 4, 3) := by decide +kernel
theorem dX4_characterAt_19 : decode cX4_characterAt 19 = .ok (.iconst (-1), 1) := by decide +kernel
theorem dX4_characterAt_20 : decode cX4_characterAt 20 = .ok (.ireturn, 1) := by decide +kernel
theorem dX5_init_0 : decode cX5_init 0 = .ok (.aload_n 0, 1) := by decide +kernel
theorem dX5_init_1 : decode cX5_init 1 = .ok (.invokespecial 3, 3) := by decide +kernel
theorem dX5_init_4 : decode cX5_init 4 = .ok (.aload_n 0, 1) := by decide +kernel
theorem dX5_init_5 : decode cX5_init 5 = .ok (.bipush 64, 2) := by decide +kernel
theorem dX5_init_7 : decode cX5_init 7 = .ok (.newarray .int, 2) := by decide +kernel
theorem dX5_init_9 : decode cX5_init 9 = .ok (.putfield 9, 3) := by decide +kernel
theorem dX5_init_12 : decode cX5_init 12 = .ok (.aload_n 0, 1) := by decide +kernel
theorem dX5_init_13 : decode cX5_init 13 = .ok (.bipush 64, 2) := by decide +kernel
theorem dX5_init_15 : decode cX5_init 15 = .ok (.newarray .long, 2) := by decide +kernel
theorem dX5_init_17 : decode cX5_init 17 = .ok (.putfield 15, 3) := by decide +kernel
theorem dX5_init_20 : decode cX5_init 20 = .ok (.aload_n 0, 1) := by decide +kernel
theorem dX5_init_21 : decode cX5_init 21 = .ok (.bipush 64, 2) := by decide +kernel
theorem dX5_init_23 : decode cX5_init 23 = .ok (.newarray .int, 2) := by decide +kernel
theorem dX5_init_25 : decode cX5_init 25 = .ok (.putfield 19, 3) := by decide +kernel
theorem dX5_init_28 : decode cX5_init 28 = .ok (.return_, 1) := by decide +kernel
theorem dX5_rowsToEnds_0 : decode cX5_rowsToEnds 0 = .ok (.aload_n 0, 1) := by decide +kernel
theorem dX5_rowsToEnds_1 : decode cX5_rowsToEnds 1 = .ok (.aload_n 1, 1) := by decide +kernel
theorem dX5_rowsToEnds_2 : decode cX5_rowsToEnds 2 = .ok (.invokevirtual 22, 3) := by decide +kernel
theorem dX5_rowsToEnds_5 : decode cX5_rowsToEnds 5 = .ok (.lconst 0, 1) := by decide +kernel
theorem dX5_rowsToEnds_6 : decode cX5_rowsToEnds 6 = .ok (.lstore_n 2, 1) := by decide +kernel
theorem dX5_rowsToEnds_7 : decode cX5_rowsToEnds 7 = .ok (.aload_n 0, 1) := by decide +kernel
theorem dX5_rowsToEnds_8 : decode cX5_rowsToEnds 8 = .ok (.getfield 15, 3) := by decide +kernel
theorem dX5_rowsToEnds_11 : decode cX5_rowsToEnds 11 = .ok (.iconst 0, 1) := by decide +kernel
theorem dX5_rowsToEnds_12 : decode cX5_rowsToEnds 12 = .ok (.lconst 1, 1) := by decide +kernel
theorem dX5_rowsToEnds_13 : decode cX5_rowsToEnds 13 = .ok (.lastore, 1) := by decide +kernel
theorem dX5_rowsToEnds_14 : decode cX5_rowsToEnds 14 = .ok (.aload_n 0, 1) := by decide +kernel
theorem dX5_rowsToEnds_15 : decode cX5_rowsToEnds 15 = .ok (.getfield 9, 3) := by decide +kernel
theorem dX5_rowsToEnds_18 : decode cX5_rowsToEnds 18 = .ok (.iconst 0, 1) := by decide +kernel
theorem dX5_rowsToEnds_19 : decode cX5_rowsToEnds 19 = .ok (.iaload, 1) := by decide +kernel
theorem dX5_rowsToEnds_20 : decode cX5_rowsToEnds 20 = .ok (.ifCond .ne 8, 3) := by decide +kernel
theorem dX5_rowsToEnds_23 : decode cX5_rowsToEnds 23 = .ok (.aload_n 0, 1) := by decide +kernel
theorem dX5_rowsToEnds_24 : decode cX5_rowsToEnds 24 = .ok (.iconst 0, 1) := by decide +kernel
theorem dX5_rowsToEnds_25 : decode cX5_rowsToEnds 25 = .ok (.invokevirtual 26, 3) := by decide +kernel
theorem dX5_rowsToEnds_28 : decode cX5_rowsToEnds 28 = .ok (.iconst 0, 1) := by decide +kernel
theorem dX5_rowsToEnds_29 : decode cX5_rowsToEnds 29 = .ok (.istore 4, 2) := by decide +kernel
theorem dX5_rowsToEnds_31 : decode cX5_rowsToEnds 31 = .ok (.iload 4, 2) := by decide +kernel
theorem dX5_rowsToEnds_33 : decode cX5_rowsToEnds 33 = .ok (.aload_n 0, 1) := by decide +kernel
theorem dX5_rowsToEnds_34 : decode cX5_rowsToEnds 34 = .ok (.getfield 30, 3) := by decide +kernel
theorem dX5_rowsToEnds_37 : decode cX5_rowsToEnds 37 = .ok (.if_icmp .ge 80, 3) := by decide +kernel
theorem dX5_rowsToEnds_40 : decode cX5_rowsToEnds 40 = .ok (.iload 4, 2) := by decide +kernel
theorem dX5_rowsToEnds_42 : decode cX5_rowsToEnds 42 = .ok (.bipush 64, 2) := by decide +kernel
theorem dX5_rowsToEnds_44 : decode cX5_rowsToEnds 44 = .ok (.if_icmp .ge 73, 3) := by decide +kernel
theorem dX5_rowsToEnds_47 : decode cX5_rowsToEnds 47 = .ok (.aload_n 0, 1) := by decide +kernel
theorem dX5_rowsToEnds_48 : decode cX5_rowsToEnds 48 = .ok (.getfield 19, 3) := by decide +kernel
theorem dX5_rowsToEnds_51 : decode cX5_rowsToEnds 51 = .ok (.iload 4, 2) := by decide +kernel
theorem dX5_rowsToEnds_53 : decode cX5_rowsToEnds 53 = .ok (.iaload, 1) := by decide +kernel
theorem dX5_rowsToEnds_54 : decode cX5_rowsToEnds 54 = .ok (.istore 5, 2) := by decide +kernel
theorem dX5_rowsToEnds_56 : decode cX5_rowsToEnds 56 = .ok (.aload_n 1, 1) := by decide +kernel
theorem dX5_rowsToEnds_57 : decode cX5_rowsToEnds 57 = .ok (.iload 5, 2) := by decide +kernel
theorem dX5_rowsToEnds_59 : decode cX5_rowsToEnds 59 = .ok (.invokevirtual 34, 3) := by decide +kernel
theorem dX5_rowsToEnds_62 : decode cX5_rowsToEnds 62 = .ok (.ifCond .eq 15, 3) := by decide +kernel
theorem dX5_rowsToEnds_65 : decode cX5_rowsToEnds 65 = .ok (.lload_n 2, 1) := by decide +kernel
theorem dX5_rowsToEnds_66 : decode cX5_rowsToEnds 66 = .ok (.aload_n 0, 1) := by decide +kernel
theorem dX5_rowsToEnds_67 : decode cX5_rowsToEnds 67 = .ok (.iload 5, 2) := by decide +kernel
theorem dX5_rowsToEnds_69 : decode cX5_rowsToEnds 69 = .ok (.invokevirtual 40, 3) := by decide +kernel
theorem dX5_rowsToEnds_72 : decode cX5_rowsToEnds 72 = .ok (.ladd, 1) := by decide +kernel
theorem dX5_rowsToEnds_73 : decode cX5_rowsToEnds 73 = .ok (.invokestatic 44, 3) := by decide +kernel
theorem dX5_rowsToEnds_76 : decode cX5_rowsToEnds 76 = .ok (.lstore_n 2, 1) := by decide +kernel
theorem dX5_rowsToEnds_77 : decode cX5_rowsToEnds 77 = .ok (.iconst 0, 1) := by decide +kernel
theorem dX5_rowsToEnds_78 : decode cX5_rowsToEnds 78 = .ok (.istore 6, 2) := by decide +kernel
theorem dX5_rowsToEnds_80 : decode cX5_rowsToEnds 80 = .ok (.iload 6, 2) := by decide +kernel
theorem dX5_rowsToEnds_82 : decode cX5_rowsToEnds 82 = .ok (.bipush 6, 2) := by decide +kernel
theorem dX5_rowsToEnds_84 : decode cX5_rowsToEnds 84 = .ok (.if_icmp .ge 27, 3) := by decide +kernel
theorem dX5_rowsToEnds_87 : decode cX5_rowsToEnds 87 = .ok (.aload_n 0, 1) := by decide +kernel
theorem dX5_rowsToEnds_88 : decode cX5_rowsToEnds 88 = .ok (.aload_n 1, 1) := by decide +kernel
theorem dX5_rowsToEnds_89 : decode cX5_rowsToEnds 89 = .ok (.iload 5, 2) := by decide +kernel
theorem dX5_rowsToEnds_91 : decode cX5_rowsToEnds 91 = .ok (.iload 6, 2) := by decide +kernel
theorem dX5_rowsToEnds_93 : decode cX5_rowsToEnds 93 = .ok (.invokevirtual 48, 3) := by decide +kernel
theorem dX5_rowsToEnds_96 : decode cX5_rowsToEnds 96 = .ok (.aload_n 0, 1) := by decide +kernel
theorem dX5_rowsToEnds_97 : decode cX5_rowsToEnds 97 = .ok (.iload 5, 2) := by decide +kernel
theorem dX5_rowsToEnds_99 : decode cX5_rowsToEnds 99 = .ok (.invokevirtual 40, 3) := by decide +kernel
theorem dX5_rowsToEnds_102 : decode cX5_rowsToEnds 102 = .ok (.invokevirtual 52, 3) := by decide +kernel
theorem dX5_rowsToEnds_105 : decode cX5_rowsToEnds 105 = .ok (.iinc 6 1, 3) := by decide +kernel
theorem dX5_rowsToEnds_108 : decode cX5_rowsToEnds 108 = .ok (.goto (-28), 3) := by decide +kernel
theorem dX5_rowsToEnds_111 : decode cX5_rowsToEnds 111 = .ok (.iinc 4 1, 3) := by decide +kernel
theorem dX5_rowsToEnds_114 : decode cX5_rowsToEnds 114 = .ok (.goto (-83), 3) := by decide +kernel
theorem dX5_rowsToEnds_117 : decode cX5_rowsToEnds 117 = .ok (.aload_n 0, 1) := by decide +kernel
theorem dX5_rowsToEnds_118 : decode cX5_rowsToEnds 118 = .ok (.getfield 30, 3) := by decide +kernel
theorem dX5_rowsToEnds_121 : decode cX5_rowsToEnds 121 = .ok (.aload_n 1, 1) := by decide +kernel
theorem dX5_rowsToEnds_122 : decode cX5_rowsToEnds 122 = .ok (.invokevirtual 56, 3) := by decide +kernel
theorem dX5_rowsToEnds_125 : decode cX5_rowsToEnds 125 = .ok (.if_icmp .ge 9, 3) := by decide +kernel
theorem dX5_rowsToEnds_128 : decode cX5_rowsToEnds 128 = .ok (.ldc2_w 60, 3) := by decide +kernel
theorem dX5_rowsToEnds_131 : decode cX5_rowsToEnds 131 = .ok (.goto 4, 3) := by decide +kernel
theorem dX5_rowsToEnds_134 : decode cX5_rowsToEnds 134 = .ok (.lload_n 2, 1) := by decide +kernel
theorem dX5_rowsToEnds_135 : decode cX5_rowsToEnds 135 = .ok (.lreturn, 1) := by decide +kernel
theorem dX5_countWays_0 : decode cX5_countWays 0 = .ok (.aload_n 0, 1) := by decide +kernel
theorem dX5_countWays_1 : decode cX5_countWays 1 = .ok (.getfield 9, 3) := by decide +kernel
theorem dX5_countWays_4 : decode cX5_countWays 4 = .ok (.iconst 0, 1) := by decide +kernel
theorem dX5_countWays_5 : decode cX5_countWays 5 = .ok (.invokestatic 62, 3) := by decide +kernel
theorem dX5_countWays_8 : decode cX5_countWays 8 = .ok (.aload_n 0, 1) := by decide +kernel
theorem dX5_countWays_9 : decode cX5_countWays 9 = .ok (.getfield 15, 3) := by decide +kernel
theorem dX5_countWays_12 : decode cX5_countWays 12 = .ok (.lconst 0, 1) := by decide +kernel
theorem dX5_countWays_13 : decode cX5_countWays 13 = .ok (.invokestatic 68, 3) := by decide +kernel
theorem dX5_countWays_16 : decode cX5_countWays 16 = .ok (.aload_n 0, 1) := by decide +kernel
theorem dX5_countWays_17 : decode cX5_countWays 17 = .ok (.iconst 0, 1) := by decide +kernel
theorem dX5_countWays_18 : decode cX5_countWays 18 = .ok (.putfield 30, 3) := by decide +kernel
theorem dX5_countWays_21 : decode cX5_countWays 21 = .ok (.iconst 0, 1) := by decide +kernel
theorem dX5_countWays_22 : decode cX5_countWays 22 = .ok (.istore_n 2, 1) := by decide +kernel
theorem dX5_countWays_23 : decode cX5_countWays 23 = .ok (.iload_n 2, 1) := by decide +kernel
theorem dX5_countWays_24 : decode cX5_countWays 24 = .ok (.aload_n 1, 1) := by decide +kernel
theorem dX5_countWays_25 : decode cX5_countWays 25 = .ok (.invokevirtual 56, 3) := by decide +kernel
theorem dX5_countWays_28 : decode cX5_countWays 28 = .ok (.if_icmp .ge 50, 3) := by decide +kernel
theorem dX5_countWays_31 : decode cX5_countWays 31 = .ok (.iconst 0, 1) := by decide +kernel
theorem dX5_countWays_32 : decode cX5_countWays 32 = .ok (.istore_n 3, 1) := by decide +kernel
theorem dX5_countWays_33 : decode cX5_countWays 33 = .ok (.iload_n 3, 1) := by decide +kernel
theorem dX5_countWays_34 : decode cX5_countWays 34 = .ok (.bipush 6, 2) := by decide +kernel
theorem dX5_countWays_36 : decode cX5_countWays 36 = .ok (.if_icmp .ge 36, 3) := by decide +kernel
theorem dX5_countWays_39 : decode cX5_countWays 39 = .ok (.aload_n 1, 1) := by decide +kernel
theorem dX5_countWays_40 : decode cX5_countWays 40 = .ok (.iload_n 2, 1) := by decide +kernel
theorem dX5_countWays_41 : decode cX5_countWays 41 = .ok (.iload_n 3, 1) := by decide +kernel
theorem dX5_countWays_42 : decode cX5_countWays 42 = .ok (.invokevirtual 48, 3) := by decide +kernel
theorem dX5_countWays_45 : decode cX5_countWays 45 = .ok (.istore 4, 2) := by decide +kernel
theorem dX5_countWays_47 : decode cX5_countWays 47 = .ok (.iload 4, 2) := by decide +kernel
theorem dX5_countWays_49 : decode cX5_countWays 49 = .ok (.invokestatic 71, 3) := by decide +kernel
theorem dX5_countWays_52 : decode cX5_countWays 52 = .ok (.ifCond .eq 14, 3) := by decide +kernel
theorem dX5_countWays_55 : decode cX5_countWays 55 = .ok (.aload_n 0, 1) := by decide +kernel
theorem dX5_countWays_56 : decode cX5_countWays 56 = .ok (.getfield 9, 3) := by decide +kernel
theorem dX5_countWays_59 : decode cX5_countWays 59 = .ok (.iload 4, 2) := by decide +kernel
theorem dX5_countWays_61 : decode cX5_countWays 61 = .ok (.dup2, 1) := by decide +kernel
theorem dX5_countWays_62 : decode cX5_countWays 62 = .ok (.iaload, 1) := by decide +kernel
theorem dX5_countWays_63 : decode cX5_countWays 63 = .ok (.iconst 1, 1) := by decide +kernel
theorem dX5_countWays_64 : decode cX5_countWays 64 = .ok (.iadd, 1) := by decide +kernel
theorem dX5_countWays_65 : decode cX5_countWays 65 = .ok (.iastore, 1) := by decide +kernel
theorem dX5_countWays_66 : decode cX5_countWays 66 = .ok (.iinc 3 1, 3) := by decide +kernel
theorem dX5_countWays_69 : decode cX5_countWays 69 = .ok (.goto (-36), 3) := by decide +kernel
theorem dX5_countWays_72 : decode cX5_countWays 72 = .ok (.iinc 2 1, 3) := by decide +kernel
theorem dX5_countWays_75 : decode cX5_countWays 75 = .ok (.goto (-52), 3) := by decide +kernel
theorem dX5_countWays_78 : decode cX5_countWays 78 = .ok (.return_, 1) := by decide +kernel
theorem dX5_goAlong_0 : decode cX5_goAlong 0 = .ok (.iload_n 1, 1) := by decide +kernel
theorem dX5_goAlong_1 : decode cX5_goAlong 1 = .ok (.invokestatic 71, 3) := by decide +kernel
theorem dX5_goAlong_4 : decode cX5_goAlong 4 = .ok (.ifCond .eq 44, 3) := by decide +kernel
theorem dX5_goAlong_7 : decode cX5_goAlong 7 = .ok (.aload_n 0, 1) := by decide +kernel
theorem dX5_goAlong_8 : decode cX5_goAlong 8 = .ok (.getfield 15, 3) := by decide +kernel
theorem dX5_goAlong_11 : decode cX5_goAlong 11 = .ok (.iload_n 1, 1) := by decide +kernel
theorem dX5_goAlong_12 : decode cX5_goAlong 12 = .ok (.aload_n 0, 1) := by decide +kernel
theorem dX5_goAlong_13 : decode cX5_goAlong 13 = .ok (.getfield 15, 3) := by decide +kernel
theorem dX5_goAlong_16 : decode cX5_goAlong 16 = .ok (.iload_n 1, 1) := by decide +kernel
theorem dX5_goAlong_17 : decode cX5_goAlong 17 = .ok (.laload, 1) := by decide +kernel
theorem dX5_goAlong_18 : decode cX5_goAlong 18 = .ok (.lload_n 2, 1) := by decide +kernel
theorem dX5_goAlong_19 : decode cX5_goAlong 19 = .ok (.ladd, 1) := by decide +kernel
theorem dX5_goAlong_20 : decode cX5_goAlong 20 = .ok (.invokestatic 44, 3) := by decide +kernel
theorem dX5_goAlong_23 : decode cX5_goAlong 23 = .ok (.lastore, 1) := by decide +kernel
theorem dX5_goAlong_24 : decode cX5_goAlong 24 = .ok (.aload_n 0, 1) := by decide +kernel
theorem dX5_goAlong_25 : decode cX5_goAlong 25 = .ok (.getfield 9, 3) := by decide +kernel
theorem dX5_goAlong_28 : decode cX5_goAlong 28 = .ok (.iload_n 1, 1) := by decide +kernel
theorem dX5_goAlong_29 : decode cX5_goAlong 29 = .ok (.dup2, 1) := by decide +kernel
theorem dX5_goAlong_30 : decode cX5_goAlong 30 = .ok (.iaload, 1) := by decide +kernel
theorem dX5_goAlong_31 : decode cX5_goAlong 31 = .ok (.iconst 1, 1) := by decide +kernel
theorem dX5_goAlong_32 : decode cX5_goAlong 32 = .ok (.isub, 1) := by decide +kernel
theorem dX5_goAlong_33 : decode cX5_goAlong 33 = .ok (.iastore, 1) := by decide +kernel
theorem dX5_goAlong_34 : decode cX5_goAlong 34 = .ok (.aload_n 0, 1) := by decide +kernel
theorem dX5_goAlong_35 : decode cX5_goAlong 35 = .ok (.getfield 9, 3) := by decide +kernel
theorem dX5_goAlong_38 : decode cX5_goAlong 38 = .ok (.iload_n 1, 1) := by decide +kernel
theorem dX5_goAlong_39 : decode cX5_goAlong 39 = .ok (.iaload, 1) := by decide +kernel
theorem dX5_goAlong_40 : decode cX5_goAlong 40 = .ok (.ifCond .ne 8, 3) := by decide +kernel
theorem dX5_goAlong_43 : decode cX5_goAlong 43 = .ok (.aload_n 0, 1) := by decide +kernel
theorem dX5_goAlong_44 : decode cX5_goAlong 44 = .ok (.iload_n 1, 1) := by decide +kernel
theorem dX5_goAlong_45 : decode cX5_goAlong 45 = .ok (.invokevirtual 26, 3) := by decide +kernel
theorem dX5_goAlong_48 : decode cX5_goAlong 48 = .ok (.return_, 1) := by decide +kernel
theorem dX5_setReady_0 : decode cX5_setReady 0 = .ok (.aload_n 0, 1) := by decide +kernel
theorem dX5_setReady_1 : decode cX5_setReady 1 = .ok (.getfield 30, 3) := by decide +kernel
theorem dX5_setReady_4 : decode cX5_setReady 4 = .ok (.bipush 64, 2) := by decide +kernel
theorem dX5_setReady_6 : decode cX5_setReady 6 = .ok (.if_icmp .ge 23, 3) := by decide +kernel
theorem dX5_setReady_9 : decode cX5_setReady 9 = .ok (.aload_n 0, 1) := by decide +kernel
theorem dX5_setReady_10 : decode cX5_setReady 10 = .ok (.getfield 19, 3) := by decide +kernel
theorem dX5_setReady_13 : decode cX5_setReady 13 = .ok (.aload_n 0, 1) := by decide +kernel
theorem dX5_setReady_14 : decode cX5_setReady 14 = .ok (.getfield 30, 3) := by decide +kernel
theorem dX5_setReady_17 : decode cX5_setReady 17 = .ok (.iload_n 1, 1) := by decide +kernel
theorem dX5_setReady_18 : decode cX5_setReady 18 = .ok (.iastore, 1) := by decide +kernel
theorem dX5_setReady_19 : decode cX5_setReady 19 = .ok (.aload_n 0, 1) := by decide +kernel
theorem dX5_setReady_20 : decode cX5_setReady 20 = .ok (.dup, 1) := by decide +kernel
theorem dX5_setReady_21 : decode cX5_setReady 21 = .ok (.getfield 30, 3) := by decide +kernel
theorem dX5_setReady_24 : decode cX5_setReady 24 = .ok (.iconst 1, 1) := by decide +kernel
theorem dX5_setReady_25 : decode cX5_setReady 25 = .ok (.iadd, 1) := by decide +kernel
theorem dX5_setReady_26 : decode cX5_setReady 26 = .ok (.putfield 30, 3) := by decide +kernel
theorem dX5_setReady_29 : decode cX5_setReady 29 = .ok (.return_, 1) := by decide +kernel
theorem dX5_rowsTo_0 : decode cX5_rowsTo 0 = .ok (.iload_n 1, 1) := by decide +kernel
theorem dX5_rowsTo_1 : decode cX5_rowsTo 1 = .ok (.invokestatic 71, 3) := by decide +kernel
theorem dX5_rowsTo_4 : decode cX5_rowsTo 4 = .ok (.ifCond .eq 12, 3) := by decide +kernel
theorem dX5_rowsTo_7 : decode cX5_rowsTo 7 = .ok (.aload_n 0, 1) := by decide +kernel
theorem dX5_rowsTo_8 : decode cX5_rowsTo 8 = .ok (.getfield 15, 3) := by decide +kernel
theorem dX5_rowsTo_11 : decode cX5_rowsTo 11 = .ok (.iload_n 1, 1) := by decide +kernel
theorem dX5_rowsTo_12 : decode cX5_rowsTo 12 = .ok (.laload, 1) := by decide +kernel
theorem dX5_rowsTo_13 : decode cX5_rowsTo 13 = .ok (.goto 4, 3) := by decide +kernel
theorem dX5_rowsTo_16 : decode cX5_rowsTo 16 = .ok (.lconst 0, 1) := by decide +kernel
theorem dX5_rowsTo_17 : decode cX5_rowsTo 17 = .ok (.lreturn, 1) := by decide +kernel
theorem dX5_isPosition_0 : decode cX5_isPosition 0 = .ok (.iload_n 0, 1) := by decide +kernel
theorem dX5_isPosition_1 : decode cX5_isPosition 1 = .ok (.ifCond .lt 13, 3) := by decide +kernel
theorem dX5_isPosition_4 : decode cX5_isPosition 4 = .ok (.iload_n 0, 1) := by decide +kernel
theorem dX5_isPosition_5 : decode cX5_isPosition 5 = .ok (.bipush 64, 2) := by decide +kernel
theorem dX5_isPosition_7 : decode cX5_isPosition 7 = .ok (.if_icmp .ge 7, 3) := by decide +kernel
theorem dX5_isPosition_10 : decode cX5_isPosition 10 = .ok (.iconst 1, 1) := by decide +kernel
theorem dX5_isPosition_11 : decode cX5_isPosition 11 = .ok (.goto 4, 3) := by decide +kernel
theorem dX5_isPosition_14 : decode cX5_isPosition 14 = .ok (.iconst 0, 1) := by decide +kernel
theorem dX5_isPosition_15 : decode cX5_isPosition 15 = .ok (.ireturn, 1) := by decide +kernel
theorem dX5_capped_0 : decode cX5_capped 0 = .ok (.lload_n 0, 1) := by decide +kernel
theorem dX5_capped_1 : decode cX5_capped 1 = .ok (.ldc2_w 74, 3) := by decide +kernel
theorem dX5_capped_4 : decode cX5_capped 4 = .ok (.invokestatic 76, 3) := by decide +kernel
theorem dX5_capped_7 : decode cX5_capped 7 = .ok (.lreturn, 1) := by decide +kernel
theorem dX6_init_0 : decode cX6_init 0 = .ok (.aload_n 0, 1) := by decide +kernel
theorem dX6_init_1 : decode cX6_init 1 = .ok (.aload_n 1, 1) := by decide +kernel
theorem dX6_init_2 : decode cX6_init 2 = .ok (.invokespecial 3, 3) := by decide +kernel
theorem dX6_init_5 : decode cX6_init 5 = .ok (.return_, 1) := by decide +kernel
theorem dX6_goTogether_0 : decode cX6_goTogether 0 = .ok (.iload_n 1, 1) := by decide +kernel
theorem dX6_goTogether_1 : decode cX6_goTogether 1 = .ok (.ifCond .eq 12, 3) := by decide +kernel
theorem dX6_goTogether_4 : decode cX6_goTogether 4 = .ok (.iload_n 1, 1) := by decide +kernel
theorem dX6_goTogether_5 : decode cX6_goTogether 5 = .ok (.iload_n 2, 1) := by decide +kernel
theorem dX6_goTogether_6 : decode cX6_goTogether 6 = .ok (.if_icmp .ne 7, 3) := by decide +kernel
theorem dX6_goTogether_9 : decode cX6_goTogether 9 = .ok (.iconst 1, 1) := by decide +kernel
theorem dX6_goTogether_10 : decode cX6_goTogether 10 = .ok (.goto 4, 3) := by decide +kernel
theorem dX6_goTogether_13 : decode cX6_goTogether 13 = .ok (.iconst 0, 1) := by decide +kernel
theorem dX6_goTogether_14 : decode cX6_goTogether 14 = .ok (.ireturn, 1) := by decide +kernel
theorem dX6_reasonFor_0 : decode cX6_reasonFor 0 = .ok (.iload_n 1, 1) := by decide +kernel
theorem dX6_reasonFor_1 : decode cX6_reasonFor 1 = .ok (.iload_n 3, 1) := by decide +kernel
theorem dX6_reasonFor_2 : decode cX6_reasonFor 2 = .ok (.if_icmp .eq 5, 3) := by decide +kernel
theorem dX6_reasonFor_5 : decode cX6_reasonFor 5 = .ok (.iconst 1, 1) := by decide +kernel
theorem dX6_reasonFor_6 : decode cX6_reasonFor 6 = .ok (.ireturn, 1) := by decide +kernel
theorem dX6_reasonFor_7 : decode cX6_reasonFor 7 = .ok (.iload_n 1, 1) := by decide +kernel
theorem dX6_reasonFor_8 : decode cX6_reasonFor 8 = .ok (.ifCond .ne 5, 3) := by decide +kernel
theorem dX6_reasonFor_11 : decode cX6_reasonFor 11 = .ok (.iconst 0, 1) := by decide +kernel
theorem dX6_reasonFor_12 : decode cX6_reasonFor 12 = .ok (.ireturn, 1) := by decide +kernel
theorem dX6_reasonFor_13 : decode cX6_reasonFor 13 = .ok (.iload_n 1, 1) := by decide +kernel
theorem dX6_reasonFor_14 : decode cX6_reasonFor 14 = .ok (.iconst 1, 1) := by decide +kernel
theorem dX6_reasonFor_15 : decode cX6_reasonFor 15 = .ok (.if_icmp .ne 9, 3) := by decide +kernel
theorem dX6_reasonFor_18 : decode cX6_reasonFor 18 = .ok (.iload_n 2, 1) := by decide +kernel
theorem dX6_reasonFor_19 : decode cX6_reasonFor 19 = .ok (.ifCond .ne 5, 3) := by decide +kernel
theorem dX6_reasonFor_22 : decode cX6_reasonFor 22 = .ok (.iconst 2, 1) := by decide +kernel
theorem dX6_reasonFor_23 : decode cX6_reasonFor 23 = .ok (.ireturn, 1) := by decide +kernel
theorem dX6_reasonFor_24 : decode cX6_reasonFor 24 = .ok (.iload_n 1, 1) := by decide +kernel
theorem dX6_reasonFor_25 : decode cX6_reasonFor 25 = .ok (.iload_n 2, 1) := by decide +kernel
theorem dX6_reasonFor_26 : decode cX6_reasonFor 26 = .ok (.iload 4, 2) := by decide +kernel
theorem dX6_reasonFor_28 : decode cX6_reasonFor 28 = .ok (.invokestatic 11, 3) := by decide +kernel
theorem dX6_reasonFor_31 : decode cX6_reasonFor 31 = .ok (.ifCond .ne 7, 3) := by decide +kernel
theorem dX6_reasonFor_34 : decode cX6_reasonFor 34 = .ok (.iconst 0, 1) := by decide +kernel
theorem dX6_reasonFor_35 : decode cX6_reasonFor 35 = .ok (.goto 4, 3) := by decide +kernel
theorem dX6_reasonFor_38 : decode cX6_reasonFor 38 = .ok (.iconst 3, 1) := by decide +kernel
theorem dX6_reasonFor_39 : decode cX6_reasonFor 39 = .ok (.ireturn, 1) := by decide +kernel
theorem dX7_init_0 : decode cX7_init 0 = .ok (.aload_n 0, 1) := by decide +kernel
theorem dX7_init_1 : decode cX7_init 1 = .ok (.aload_n 1, 1) := by decide +kernel
theorem dX7_init_2 : decode cX7_init 2 = .ok (.invokespecial 3, 3) := by decide +kernel
theorem dX7_init_5 : decode cX7_init 5 = .ok (.return_, 1) := by decide +kernel
theorem dX7_goTogether_0 : decode cX7_goTogether 0 = .ok (.iload_n 1, 1) := by decide +kernel
theorem dX7_goTogether_1 : decode cX7_goTogether 1 = .ok (.ifCond .eq 16, 3) := by decide +kernel
theorem dX7_goTogether_4 : decode cX7_goTogether 4 = .ok (.iload_n 2, 1) := by decide +kernel
theorem dX7_goTogether_5 : decode cX7_goTogether 5 = .ok (.ifCond .eq 12, 3) := by decide +kernel
theorem dX7_goTogether_8 : decode cX7_goTogether 8 = .ok (.iload_n 1, 1) := by decide +kernel
theorem dX7_goTogether_9 : decode cX7_goTogether 9 = .ok (.iload_n 2, 1) := by decide +kernel
theorem dX7_goTogether_10 : decode cX7_goTogether 10 = .ok (.if_icmp .eq 7, 3) := by decide +kernel
theorem dX7_goTogether_13 : decode cX7_goTogether 13 = .ok (.iconst 1, 1) := by decide +kernel
theorem dX7_goTogether_14 : decode cX7_goTogether 14 = .ok (.goto 4, 3) := by decide +kernel
theorem dX7_goTogether_17 : decode cX7_goTogether 17 = .ok (.iconst 0, 1) := by decide +kernel
theorem dX7_goTogether_18 : decode cX7_goTogether 18 = .ok (.ireturn, 1) := by decide +kernel
theorem dX7_reasonFor_0 : decode cX7_reasonFor 0 = .ok (.iload_n 1, 1) := by decide +kernel
theorem dX7_reasonFor_1 : decode cX7_reasonFor 1 = .ok (.ifCond .eq 7, 3) := by decide +kernel
theorem dX7_reasonFor_4 : decode cX7_reasonFor 4 = .ok (.iload_n 3, 1) := by decide +kernel
theorem dX7_reasonFor_5 : decode cX7_reasonFor 5 = .ok (.ifCond .ne 14, 3) := by decide +kernel
theorem dX7_reasonFor_8 : decode cX7_reasonFor 8 = .ok (.iload_n 1, 1) := by decide +kernel
theorem dX7_reasonFor_9 : decode cX7_reasonFor 9 = .ok (.iload_n 3, 1) := by decide +kernel
theorem dX7_reasonFor_10 : decode cX7_reasonFor 10 = .ok (.if_icmp .ne 7, 3) := by decide +kernel
theorem dX7_reasonFor_13 : decode cX7_reasonFor 13 = .ok (.iconst 0, 1) := by decide +kernel
theorem dX7_reasonFor_14 : decode cX7_reasonFor 14 = .ok (.goto 4, 3) := by decide +kernel
theorem dX7_reasonFor_17 : decode cX7_reasonFor 17 = .ok (.iconst 1, 1) := by decide +kernel
theorem dX7_reasonFor_18 : decode cX7_reasonFor 18 = .ok (.ireturn, 1) := by decide +kernel
theorem dX7_reasonFor_19 : decode cX7_reasonFor 19 = .ok (.iload_n 1, 1) := by decide +kernel
theorem dX7_reasonFor_20 : decode cX7_reasonFor 20 = .ok (.iload_n 3, 1) := by decide +kernel
theorem dX7_reasonFor_21 : decode cX7_reasonFor 21 = .ok (.if_icmp .ne 14, 3) := by decide +kernel
theorem dX7_reasonFor_24 : decode cX7_reasonFor 24 = .ok (.iload_n 1, 1) := by decide +kernel
theorem dX7_reasonFor_25 : decode cX7_reasonFor 25 = .ok (.iconst 2, 1) := by decide +kernel
theorem dX7_reasonFor_26 : decode cX7_reasonFor 26 = .ok (.if_icmp .ne 7, 3) := by decide +kernel
theorem dX7_reasonFor_29 : decode cX7_reasonFor 29 = .ok (.iconst 2, 1) := by decide +kernel
theorem dX7_reasonFor_30 : decode cX7_reasonFor 30 = .ok (.goto 4, 3) := by decide +kernel
theorem dX7_reasonFor_33 : decode cX7_reasonFor 33 = .ok (.iconst 3, 1) := by decide +kernel
theorem dX7_reasonFor_34 : decode cX7_reasonFor 34 = .ok (.ireturn, 1) := by decide +kernel
theorem dX7_reasonFor_35 : decode cX7_reasonFor 35 = .ok (.iload_n 1, 1) := by decide +kernel
theorem dX7_reasonFor_36 : decode cX7_reasonFor 36 = .ok (.iconst 1, 1) := by decide +kernel
theorem dX7_reasonFor_37 : decode cX7_reasonFor 37 = .ok (.if_icmp .ne 7, 3) := by decide +kernel
theorem dX7_reasonFor_40 : decode cX7_reasonFor 40 = .ok (.iload_n 2, 1) := by decide +kernel
theorem dX7_reasonFor_41 : decode cX7_reasonFor 41 = .ok (.goto 5, 3) := by decide +kernel
theorem dX7_reasonFor_44 : decode cX7_reasonFor 44 = .ok (.iload 4, 2) := by decide +kernel
theorem dX7_reasonFor_46 : decode cX7_reasonFor 46 = .ok (.istore 5, 2) := by decide +kernel
theorem dX7_reasonFor_48 : decode cX7_reasonFor 48 = .ok (.iload 5, 2) := by decide +kernel
theorem dX7_reasonFor_50 : decode cX7_reasonFor 50 = .ok (.ifCond .ne 5, 3) := by decide +kernel
theorem dX7_reasonFor_53 : decode cX7_reasonFor 53 = .ok (.iconst 4, 1) := by decide +kernel
theorem dX7_reasonFor_54 : decode cX7_reasonFor 54 = .ok (.ireturn, 1) := by decide +kernel
theorem dX7_reasonFor_55 : decode cX7_reasonFor 55 = .ok (.iload_n 1, 1) := by decide +kernel
theorem dX7_reasonFor_56 : decode cX7_reasonFor 56 = .ok (.iload_n 2, 1) := by decide +kernel
theorem dX7_reasonFor_57 : decode cX7_reasonFor 57 = .ok (.iload 4, 2) := by decide +kernel
theorem dX7_reasonFor_59 : decode cX7_reasonFor 59 = .ok (.invokestatic 11, 3) := by decide +kernel
theorem dX7_reasonFor_62 : decode cX7_reasonFor 62 = .ok (.ifCond .ne 7, 3) := by decide +kernel
theorem dX7_reasonFor_65 : decode cX7_reasonFor 65 = .ok (.iconst 0, 1) := by decide +kernel
theorem dX7_reasonFor_66 : decode cX7_reasonFor 66 = .ok (.goto 4, 3) := by decide +kernel
theorem dX7_reasonFor_69 : decode cX7_reasonFor 69 = .ok (.iconst 5, 1) := by decide +kernel
theorem dX7_reasonFor_70 : decode cX7_reasonFor 70 = .ok (.ireturn, 1) := by decide +kernel
theorem dX7_isEnd_0 : decode cX7_isEnd 0 = .ok (.aload_n 0, 1) := by decide +kernel
theorem dX7_isEnd_1 : decode cX7_isEnd 1 = .ok (.iload_n 1, 1) := by decide +kernel
theorem dX7_isEnd_2 : decode cX7_isEnd 2 = .ok (.invokevirtual 15, 3) := by decide +kernel
theorem dX7_isEnd_5 : decode cX7_isEnd 5 = .ok (.ifCond .ne 15, 3) := by decide +kernel
theorem dX7_isEnd_8 : decode cX7_isEnd 8 = .ok (.aload_n 0, 1) := by decide +kernel
theorem dX7_isEnd_9 : decode cX7_isEnd 9 = .ok (.iload_n 1, 1) := by decide +kernel
theorem dX7_isEnd_10 : decode cX7_isEnd 10 = .ok (.invokevirtual 19, 3) := by decide +kernel
theorem dX7_isEnd_13 : decode cX7_isEnd 13 = .ok (.ifCond .ne 7, 3) := by decide +kernel
theorem dX7_isEnd_16 : decode cX7_isEnd 16 = .ok (.iconst 1, 1) := by decide +kernel
theorem dX7_isEnd_17 : decode cX7_isEnd 17 = .ok (.goto 4, 3) := by decide +kernel
theorem dX7_isEnd_20 : decode cX7_isEnd 20 = .ok (.iconst 0, 1) := by decide +kernel
theorem dX7_isEnd_21 : decode cX7_isEnd 21 = .ok (.ireturn, 1) := by decide +kernel
theorem dX7_stuckPairs_0 : decode cX7_stuckPairs 0 = .ok (.iconst 0, 1) := by decide +kernel
theorem dX7_stuckPairs_1 : decode cX7_stuckPairs 1 = .ok (.istore_n 1, 1) := by decide +kernel
theorem dX7_stuckPairs_2 : decode cX7_stuckPairs 2 = .ok (.iconst 0, 1) := by decide +kernel
theorem dX7_stuckPairs_3 : decode cX7_stuckPairs 3 = .ok (.istore_n 2, 1) := by decide +kernel
theorem dX7_stuckPairs_4 : decode cX7_stuckPairs 4 = .ok (.iload_n 2, 1) := by decide +kernel
theorem dX7_stuckPairs_5 : decode cX7_stuckPairs 5 = .ok (.aload_n 0, 1) := by decide +kernel
theorem dX7_stuckPairs_6 : decode cX7_stuckPairs 6 = .ok (.invokevirtual 22, 3) := by decide +kernel
theorem dX7_stuckPairs_9 : decode cX7_stuckPairs 9 = .ok (.if_icmp .ge 20, 3) := by decide +kernel
theorem dX7_stuckPairs_12 : decode cX7_stuckPairs 12 = .ok (.aload_n 0, 1) := by decide +kernel
theorem dX7_stuckPairs_13 : decode cX7_stuckPairs 13 = .ok (.iload_n 2, 1) := by decide +kernel
theorem dX7_stuckPairs_14 : decode cX7_stuckPairs 14 = .ok (.invokevirtual 26, 3) := by decide +kernel
theorem dX7_stuckPairs_17 : decode cX7_stuckPairs 17 = .ok (.ifCond .eq 6, 3) := by decide +kernel
theorem dX7_stuckPairs_20 : decode cX7_stuckPairs 20 = .ok (.iinc 1 1, 3) := by decide +kernel
theorem dX7_stuckPairs_23 : decode cX7_stuckPairs 23 = .ok (.iinc 2 1, 3) := by decide +kernel
theorem dX7_stuckPairs_26 : decode cX7_stuckPairs 26 = .ok (.goto (-22), 3) := by decide +kernel
theorem dX7_stuckPairs_29 : decode cX7_stuckPairs 29 = .ok (.iload_n 1, 1) := by decide +kernel
theorem dX7_stuckPairs_30 : decode cX7_stuckPairs 30 = .ok (.ireturn, 1) := by decide +kernel
theorem dX7_ends_0 : decode cX7_ends 0 = .ok (.iconst 0, 1) := by decide +kernel
theorem dX7_ends_1 : decode cX7_ends 1 = .ok (.istore_n 1, 1) := by decide +kernel
theorem dX7_ends_2 : decode cX7_ends 2 = .ok (.iconst 0, 1) := by decide +kernel
theorem dX7_ends_3 : decode cX7_ends 3 = .ok (.istore_n 2, 1) := by decide +kernel
theorem dX7_ends_4 : decode cX7_ends 4 = .ok (.iload_n 2, 1) := by decide +kernel
theorem dX7_ends_5 : decode cX7_ends 5 = .ok (.aload_n 0, 1) := by decide +kernel
theorem dX7_ends_6 : decode cX7_ends 6 = .ok (.invokevirtual 22, 3) := by decide +kernel
theorem dX7_ends_9 : decode cX7_ends 9 = .ok (.if_icmp .ge 20, 3) := by decide +kernel
theorem dX7_ends_12 : decode cX7_ends 12 = .ok (.aload_n 0, 1) := by decide +kernel
theorem dX7_ends_13 : decode cX7_ends 13 = .ok (.iload_n 2, 1) := by decide +kernel
theorem dX7_ends_14 : decode cX7_ends 14 = .ok (.invokevirtual 29, 3) := by decide +kernel
theorem dX7_ends_17 : decode cX7_ends 17 = .ok (.ifCond .eq 6, 3) := by decide +kernel
theorem dX7_ends_20 : decode cX7_ends 20 = .ok (.iinc 1 1, 3) := by decide +kernel
theorem dX7_ends_23 : decode cX7_ends 23 = .ok (.iinc 2 1, 3) := by decide +kernel
theorem dX7_ends_26 : decode cX7_ends 26 = .ok (.goto (-22), 3) := by decide +kernel
theorem dX7_ends_29 : decode cX7_ends 29 = .ok (.iload_n 1, 1) := by decide +kernel
theorem dX7_ends_30 : decode cX7_ends 30 = .ok (.ireturn, 1) := by decide +kernel
theorem dX7_fewestWordsToEnd_0 : decode cX7_fewestWordsToEnd 0 = .ok (.iconst 0, 1) := by decide +kernel
theorem dX7_fewestWordsToEnd_1 : decode cX7_fewestWordsToEnd 1 = .ok (.istore_n 1, 1) := by decide +kernel
theorem dX7_fewestWordsToEnd_2 : decode cX7_fewestWordsToEnd 2 = .ok (.iload_n 1, 1) := by decide +kernel
theorem dX7_fewestWordsToEnd_3 : decode cX7_fewestWordsToEnd 3 = .ok (.aload_n 0, 1) := by decide +kernel
theorem dX7_fewestWordsToEnd_4 : decode cX7_fewestWordsToEnd 4 = .ok (.invokevirtual 22, 3) := by decide +kernel
theorem dX7_fewestWordsToEnd_7 : decode cX7_fewestWordsToEnd 7 = .ok (.if_icmp .ge 23, 3) := by decide +kernel
theorem dX7_fewestWordsToEnd_10 : decode cX7_fewestWordsToEnd 10 = .ok (.aload_n 0, 1) := by decide +kernel
theorem dX7_fewestWordsToEnd_11 : decode cX7_fewestWordsToEnd 11 = .ok (.iload_n 1, 1) := by decide +kernel
theorem dX7_fewestWordsToEnd_12 : decode cX7_fewestWordsToEnd 12 = .ok (.invokevirtual 29, 3) := by decide +kernel
theorem dX7_fewestWordsToEnd_15 : decode cX7_fewestWordsToEnd 15 = .ok (.ifCond .eq 9, 3) := by decide +kernel
theorem dX7_fewestWordsToEnd_18 : decode cX7_fewestWordsToEnd 18 = .ok (.aload_n 0, 1) := by decide +kernel
theorem dX7_fewestWordsToEnd_19 : decode cX7_fewestWordsToEnd 19 = .ok (.iload_n 1, 1) := by decide +kernel
theorem dX7_fewestWordsToEnd_20 : decode cX7_fewestWordsToEnd 20 = .ok (.invokevirtual 33, 3) := by decide +kernel
theorem dX7_fewestWordsToEnd_23 : decode cX7_fewestWordsToEnd 23 = .ok (.ireturn, 1) := by decide +kernel
theorem dX7_fewestWordsToEnd_24 : decode cX7_fewestWordsToEnd 24 = .ok (.iinc 1 1, 3) := by decide +kernel
theorem dX7_fewestWordsToEnd_27 : decode cX7_fewestWordsToEnd 27 = .ok (.goto (-25), 3) := by decide +kernel
theorem dX7_fewestWordsToEnd_30 : decode cX7_fewestWordsToEnd 30 = .ok (.iconst (-1), 1) := by decide +kernel
theorem dX7_fewestWordsToEnd_31 : decode cX7_fewestWordsToEnd 31 = .ok (.ireturn, 1) := by decide +kernel
theorem dX7_statesOfOne_0 : decode cX7_statesOfOne 0 = .ok (.iconst 0, 1) := by decide +kernel
theorem dX7_statesOfOne_1 : decode cX7_statesOfOne 1 = .ok (.istore_n 1, 1) := by decide +kernel
theorem dX7_statesOfOne_2 : decode cX7_statesOfOne 2 = .ok (.iconst 0, 1) := by decide +kernel
theorem dX7_statesOfOne_3 : decode cX7_statesOfOne 3 = .ok (.istore_n 2, 1) := by decide +kernel
theorem dX7_statesOfOne_4 : decode cX7_statesOfOne 4 = .ok (.iload_n 2, 1) := by decide +kernel
theorem dX7_statesOfOne_5 : decode cX7_statesOfOne 5 = .ok (.aload_n 0, 1) := by decide +kernel
theorem dX7_statesOfOne_6 : decode cX7_statesOfOne 6 = .ok (.invokevirtual 22, 3) := by decide +kernel
theorem dX7_statesOfOne_9 : decode cX7_statesOfOne 9 = .ok (.if_icmp .ge 19, 3) := by decide +kernel
theorem dX7_statesOfOne_12 : decode cX7_statesOfOne 12 = .ok (.iload_n 1, 1) := by decide +kernel
theorem dX7_statesOfOne_13 : decode cX7_statesOfOne 13 = .ok (.iconst 1, 1) := by decide +kernel
theorem dX7_statesOfOne_14 : decode cX7_statesOfOne 14 = .ok (.aload_n 0, 1) := by decide +kernel
theorem dX7_statesOfOne_15 : decode cX7_statesOfOne 15 = .ok (.iload_n 2, 1) := by decide +kernel
theorem dX7_statesOfOne_16 : decode cX7_statesOfOne 16 = .ok (.invokevirtual 36, 3) := by decide +kernel
theorem dX7_statesOfOne_19 : decode cX7_statesOfOne 19 = .ok (.ishl, 1) := by decide +kernel
theorem dX7_statesOfOne_20 : decode cX7_statesOfOne 20 = .ok (.ior, 1) := by decide +kernel
theorem dX7_statesOfOne_21 : decode cX7_statesOfOne 21 = .ok (.istore_n 1, 1) := by decide +kernel
theorem dX7_statesOfOne_22 : decode cX7_statesOfOne 22 = .ok (.iinc 2 1, 3) := by decide +kernel
theorem dX7_statesOfOne_25 : decode cX7_statesOfOne 25 = .ok (.goto (-21), 3) := by decide +kernel
theorem dX7_statesOfOne_28 : decode cX7_statesOfOne 28 = .ok (.iload_n 1, 1) := by decide +kernel
theorem dX7_statesOfOne_29 : decode cX7_statesOfOne 29 = .ok (.ireturn, 1) := by decide +kernel
theorem dX7_statesOfOther_0 : decode cX7_statesOfOther 0 = .ok (.iconst 0, 1) := by decide +kernel
theorem dX7_statesOfOther_1 : decode cX7_statesOfOther 1 = .ok (.istore_n 1, 1) := by decide +kernel
theorem dX7_statesOfOther_2 : decode cX7_statesOfOther 2 = .ok (.iconst 0, 1) := by decide +kernel
theorem dX7_statesOfOther_3 : decode cX7_statesOfOther 3 = .ok (.istore_n 2, 1) := by decide +kernel
theorem dX7_statesOfOther_4 : decode cX7_statesOfOther 4 = .ok (.iload_n 2, 1) := by decide +kernel
theorem dX7_statesOfOther_5 : decode cX7_statesOfOther 5 = .ok (.aload_n 0, 1) := by decide +kernel
theorem dX7_statesOfOther_6 : decode cX7_statesOfOther 6 = .ok (.invokevirtual 22, 3) := by decide +kernel
theorem dX7_statesOfOther_9 : decode cX7_statesOfOther 9 = .ok (.if_icmp .ge 19, 3) := by decide +kernel
theorem dX7_statesOfOther_12 : decode cX7_statesOfOther 12 = .ok (.iload_n 1, 1) := by decide +kernel
theorem dX7_statesOfOther_13 : decode cX7_statesOfOther 13 = .ok (.iconst 1, 1) := by decide +kernel
theorem dX7_statesOfOther_14 : decode cX7_statesOfOther 14 = .ok (.aload_n 0, 1) := by decide +kernel
theorem dX7_statesOfOther_15 : decode cX7_statesOfOther 15 = .ok (.iload_n 2, 1) := by decide +kernel
theorem dX7_statesOfOther_16 : decode cX7_statesOfOther 16 = .ok (.invokevirtual 39, 3) := by decide +kernel
theorem dX7_statesOfOther_19 : decode cX7_statesOfOther 19 = .ok (.ishl, 1) := by decide +kernel
theorem dX7_statesOfOther_20 : decode cX7_statesOfOther 20 = .ok (.ior, 1) := by decide +kernel
theorem dX7_statesOfOther_21 : decode cX7_statesOfOther 21 = .ok (.istore_n 1, 1) := by decide +kernel
theorem dX7_statesOfOther_22 : decode cX7_statesOfOther 22 = .ok (.iinc 2 1, 3) := by decide +kernel
theorem dX7_statesOfOther_25 : decode cX7_statesOfOther 25 = .ok (.goto (-21), 3) := by decide +kernel
theorem dX7_statesOfOther_28 : decode cX7_statesOfOther 28 = .ok (.iload_n 1, 1) := by decide +kernel
theorem dX7_statesOfOther_29 : decode cX7_statesOfOther 29 = .ok (.ireturn, 1) := by decide +kernel
theorem dX8_init_0 : decode cX8_init 0 = .ok (.aload_n 0, 1) := by decide +kernel
theorem dX8_init_1 : decode cX8_init 1 = .ok (.invokespecial 1, 3) := by decide +kernel
theorem dX8_init_4 : decode cX8_init 4 = .ok (.aload_n 0, 1) := by decide +kernel
theorem dX8_init_5 : decode cX8_init 5 = .ok (.new 7, 3) := by decide +kernel
theorem dX8_init_8 : decode cX8_init 8 = .ok (.dup, 1) := by decide +kernel
theorem dX8_init_9 : decode cX8_init 9 = .ok (.invokespecial 9, 3) := by decide +kernel
theorem dX8_init_12 : decode cX8_init 12 = .ok (.putfield 10, 3) := by decide +kernel
theorem dX8_init_15 : decode cX8_init 15 = .ok (.aload_n 0, 1) := by decide +kernel
theorem dX8_init_16 : decode cX8_init 16 = .ok (.new 7, 3) := by decide +kernel
theorem dX8_init_19 : decode cX8_init 19 = .ok (.dup, 1) := by decide +kernel
theorem dX8_init_20 : decode cX8_init 20 = .ok (.invokespecial 9, 3) := by decide +kernel
theorem dX8_init_23 : decode cX8_init 23 = .ok (.putfield 16, 3) := by decide +kernel
theorem dX8_init_26 : decode cX8_init 26 = .ok (.aload_n 0, 1) := by decide +kernel
theorem dX8_init_27 : decode cX8_init 27 = .ok (.new 7, 3) := by decide +kernel
theorem dX8_init_30 : decode cX8_init 30 = .ok (.dup, 1) := by decide +kernel
theorem dX8_init_31 : decode cX8_init 31 = .ok (.invokespecial 9, 3) := by decide +kernel
theorem dX8_init_34 : decode cX8_init 34 = .ok (.putfield 19, 3) := by decide +kernel
theorem dX8_init_37 : decode cX8_init 37 = .ok (.aload_n 0, 1) := by decide +kernel
theorem dX8_init_38 : decode cX8_init 38 = .ok (.new 22, 3) := by decide +kernel
theorem dX8_init_41 : decode cX8_init 41 = .ok (.dup, 1) := by decide +kernel
theorem dX8_init_42 : decode cX8_init 42 = .ok (.invokespecial 24, 3) := by decide +kernel
theorem dX8_init_45 : decode cX8_init 45 = .ok (.putfield 25, 3) := by decide +kernel
theorem dX8_init_48 : decode cX8_init 48 = .ok (.aload_n 0, 1) := by decide +kernel
theorem dX8_init_49 : decode cX8_init 49 = .ok (.new 29, 3) := by decide +kernel
theorem dX8_init_52 : decode cX8_init 52 = .ok (.dup, 1) := by decide +kernel
theorem dX8_init_53 : decode cX8_init 53 = .ok (.invokespecial 31, 3) := by decide +kernel
theorem dX8_init_56 : decode cX8_init 56 = .ok (.putfield 32, 3) := by decide +kernel
theorem dX8_init_59 : decode cX8_init 59 = .ok (.aload_n 0, 1) := by decide +kernel
theorem dX8_init_60 : decode cX8_init 60 = .ok (.new 36, 3) := by decide +kernel
theorem dX8_init_63 : decode cX8_init 63 = .ok (.dup, 1) := by decide +kernel
theorem dX8_init_64 : decode cX8_init 64 = .ok (.invokespecial 38, 3) := by decide +kernel
theorem dX8_init_67 : decode cX8_init 67 = .ok (.putfield 39, 3) := by decide +kernel
theorem dX8_init_70 : decode cX8_init 70 = .ok (.aload_n 0, 1) := by decide +kernel
theorem dX8_init_71 : decode cX8_init 71 = .ok (.new 43, 3) := by decide +kernel
theorem dX8_init_74 : decode cX8_init 74 = .ok (.dup, 1) := by decide +kernel
theorem dX8_init_75 : decode cX8_init 75 = .ok (.aload_n 0, 1) := by decide +kernel
theorem dX8_init_76 : decode cX8_init 76 = .ok (.getfield 10, 3) := by decide +kernel
theorem dX8_init_79 : decode cX8_init 79 = .ok (.invokespecial 45, 3) := by decide +kernel
theorem dX8_init_82 : decode cX8_init 82 = .ok (.putfield 48, 3) := by decide +kernel
theorem dX8_init_85 : decode cX8_init 85 = .ok (.aload_n 0, 1) := by decide +kernel
theorem dX8_init_86 : decode cX8_init 86 = .ok (.new 52, 3) := by decide +kernel
theorem dX8_init_89 : decode cX8_init 89 = .ok (.dup, 1) := by decide +kernel
theorem dX8_init_90 : decode cX8_init 90 = .ok (.invokespecial 54, 3) := by decide +kernel
theorem dX8_init_93 : decode cX8_init 93 = .ok (.putfield 55, 3) := by decide +kernel
theorem dX8_init_96 : decode cX8_init 96 = .ok (.aload_n 0, 1) := by decide +kernel
theorem dX8_init_97 : decode cX8_init 97 = .ok (.new 59, 3) := by decide +kernel
theorem dX8_init_100 : decode cX8_init 100 = .ok (.dup, 1) := by decide +kernel
theorem dX8_init_101 : decode cX8_init 101 = .ok (.aload_n 0, 1) := by decide +kernel
theorem dX8_init_102 : decode cX8_init 102 = .ok (.getfield 10, 3) := by decide +kernel
theorem dX8_init_105 : decode cX8_init 105 = .ok (.invokespecial 61, 3) := by decide +kernel
theorem dX8_init_108 : decode cX8_init 108 = .ok (.putfield 62, 3) := by decide +kernel
theorem dX8_init_111 : decode cX8_init 111 = .ok (.return_, 1) := by decide +kernel
theorem dX8_kind_0 : decode cX8_kind 0 = .ok (.iload_n 1, 1) := by decide +kernel
theorem dX8_kind_1 : decode cX8_kind 1 = .ok (.invokestatic 66, 3) := by decide +kernel
theorem dX8_kind_4 : decode cX8_kind 4 = .ok (.ifCond .eq 17, 3) := by decide +kernel
theorem dX8_kind_7 : decode cX8_kind 7 = .ok (.iload_n 2, 1) := by decide +kernel
theorem dX8_kind_8 : decode cX8_kind 8 = .ok (.invokestatic 70, 3) := by decide +kernel
theorem dX8_kind_11 : decode cX8_kind 11 = .ok (.ifCond .eq 10, 3) := by decide +kernel
theorem dX8_kind_14 : decode cX8_kind 14 = .ok (.iload_n 3, 1) := by decide +kernel
theorem dX8_kind_15 : decode cX8_kind 15 = .ok (.invokestatic 73, 3) := by decide +kernel
theorem dX8_kind_18 : decode cX8_kind 18 = .ok (.ifCond .ne 6, 3) := by decide +kernel
theorem dX8_kind_21 : decode cX8_kind 21 = .ok (.ldc 76, 2) := by decide +kernel
theorem dX8_kind_23 : decode cX8_kind 23 = .ok (.ireturn, 1) := by decide +kernel
theorem dX8_kind_24 : decode cX8_kind 24 = .ok (.aload_n 0, 1) := by decide +kernel
theorem dX8_kind_25 : decode cX8_kind 25 = .ok (.invokevirtual 77, 3) := by decide +kernel
theorem dX8_kind_28 : decode cX8_kind 28 = .ok (.aload_n 0, 1) := by decide +kernel
theorem dX8_kind_29 : decode cX8_kind 29 = .ok (.iload_n 1, 1) := by decide +kernel
theorem dX8_kind_30 : decode cX8_kind 30 = .ok (.invokevirtual 80, 3) := by decide +kernel
theorem dX8_kind_33 : decode cX8_kind 33 = .ok (.iload_n 2, 1) := by decide +kernel
theorem dX8_kind_34 : decode cX8_kind 34 = .ok (.invokevirtual 84, 3) := by decide +kernel
theorem dX8_kind_37 : decode cX8_kind 37 = .ok (.istore 4, 2) := by decide +kernel
theorem dX8_kind_39 : decode cX8_kind 39 = .ok (.aload_n 0, 1) := by decide +kernel
theorem dX8_kind_40 : decode cX8_kind 40 = .ok (.iload_n 1, 1) := by decide +kernel
theorem dX8_kind_41 : decode cX8_kind 41 = .ok (.invokevirtual 80, 3) := by decide +kernel
theorem dX8_kind_44 : decode cX8_kind 44 = .ok (.iload_n 2, 1) := by decide +kernel
theorem dX8_kind_45 : decode cX8_kind 45 = .ok (.iload_n 3, 1) := by decide +kernel
theorem dX8_kind_46 : decode cX8_kind 46 = .ok (.invokevirtual 88, 3) := by decide +kernel
theorem dX8_kind_49 : decode cX8_kind 49 = .ok (.iload 4, 2) := by decide +kernel
theorem dX8_kind_51 : decode cX8_kind 51 = .ok (.ireturn, 1) := by decide +kernel
theorem dX8_arrow_0 : decode cX8_arrow 0 = .ok (.iload_n 1, 1) := by decide +kernel
theorem dX8_arrow_1 : decode cX8_arrow 1 = .ok (.invokestatic 66, 3) := by decide +kernel
theorem dX8_arrow_4 : decode cX8_arrow 4 = .ok (.ifCond .eq 25, 3) := by decide +kernel
theorem dX8_arrow_7 : decode cX8_arrow 7 = .ok (.iload_n 2, 1) := by decide +kernel
theorem dX8_arrow_8 : decode cX8_arrow 8 = .ok (.invokestatic 70, 3) := by decide +kernel
theorem dX8_arrow_11 : decode cX8_arrow 11 = .ok (.ifCond .eq 18, 3) := by decide +kernel
theorem dX8_arrow_14 : decode cX8_arrow 14 = .ok (.iload_n 3, 1) := by decide +kernel
theorem dX8_arrow_15 : decode cX8_arrow 15 = .ok (.invokestatic 92, 3) := by decide +kernel
theorem dX8_arrow_18 : decode cX8_arrow 18 = .ok (.ifCond .eq 11, 3) := by decide +kernel
theorem dX8_arrow_21 : decode cX8_arrow 21 = .ok (.iload 4, 2) := by decide +kernel
theorem dX8_arrow_23 : decode cX8_arrow 23 = .ok (.invokestatic 70, 3) := by decide +kernel
theorem dX8_arrow_26 : decode cX8_arrow 26 = .ok (.ifCond .ne 6, 3) := by decide +kernel
theorem dX8_arrow_29 : decode cX8_arrow 29 = .ok (.ldc 76, 2) := by decide +kernel
theorem dX8_arrow_31 : decode cX8_arrow 31 = .ok (.ireturn, 1) := by decide +kernel
theorem dX8_arrow_32 : decode cX8_arrow 32 = .ok (.aload_n 0, 1) := by decide +kernel
theorem dX8_arrow_33 : decode cX8_arrow 33 = .ok (.invokevirtual 77, 3) := by decide +kernel
theorem dX8_arrow_36 : decode cX8_arrow 36 = .ok (.aload_n 0, 1) := by decide +kernel
theorem dX8_arrow_37 : decode cX8_arrow 37 = .ok (.iload_n 1, 1) := by decide +kernel
theorem dX8_arrow_38 : decode cX8_arrow 38 = .ok (.invokevirtual 80, 3) := by decide +kernel
theorem dX8_arrow_41 : decode cX8_arrow 41 = .ok (.iload_n 2, 1) := by decide +kernel
theorem dX8_arrow_42 : decode cX8_arrow 42 = .ok (.iload_n 3, 1) := by decide +kernel
theorem dX8_arrow_43 : decode cX8_arrow 43 = .ok (.iload 4, 2) := by decide +kernel
theorem dX8_arrow_45 : decode cX8_arrow 45 = .ok (.invokevirtual 95, 3) := by decide +kernel
theorem dX8_arrow_48 : decode cX8_arrow 48 = .ok (.aload_n 0, 1) := by decide +kernel
theorem dX8_arrow_49 : decode cX8_arrow 49 = .ok (.iload_n 1, 1) := by decide +kernel
theorem dX8_arrow_50 : decode cX8_arrow 50 = .ok (.invokevirtual 80, 3) := by decide +kernel
theorem dX8_arrow_53 : decode cX8_arrow 53 = .ok (.iload_n 2, 1) := by decide +kernel
theorem dX8_arrow_54 : decode cX8_arrow 54 = .ok (.invokevirtual 99, 3) := by decide +kernel
theorem dX8_arrow_57 : decode cX8_arrow 57 = .ok (.invokestatic 102, 3) := by decide +kernel
theorem dX8_arrow_60 : decode cX8_arrow 60 = .ok (.ireturn, 1) := by decide +kernel
theorem dX8_erase_0 : decode cX8_erase 0 = .ok (.iload_n 1, 1) := by decide +kernel
theorem dX8_erase_1 : decode cX8_erase 1 = .ok (.invokestatic 66, 3) := by decide +kernel
theorem dX8_erase_4 : decode cX8_erase 4 = .ok (.ifCond .eq 17, 3) := by decide +kernel
theorem dX8_erase_7 : decode cX8_erase 7 = .ok (.iload_n 2, 1) := by decide +kernel
theorem dX8_erase_8 : decode cX8_erase 8 = .ok (.invokestatic 70, 3) := by decide +kernel
theorem dX8_erase_11 : decode cX8_erase 11 = .ok (.ifCond .eq 10, 3) := by decide +kernel
theorem dX8_erase_14 : decode cX8_erase 14 = .ok (.iload_n 3, 1) := by decide +kernel
theorem dX8_erase_15 : decode cX8_erase 15 = .ok (.invokestatic 92, 3) := by decide +kernel
theorem dX8_erase_18 : decode cX8_erase 18 = .ok (.ifCond .ne 6, 3) := by decide +kernel
theorem dX8_erase_21 : decode cX8_erase 21 = .ok (.ldc 76, 2) := by decide +kernel
theorem dX8_erase_23 : decode cX8_erase 23 = .ok (.ireturn, 1) := by decide +kernel
theorem dX8_erase_24 : decode cX8_erase 24 = .ok (.aload_n 0, 1) := by decide +kernel
theorem dX8_erase_25 : decode cX8_erase 25 = .ok (.iload_n 1, 1) := by decide +kernel
theorem dX8_erase_26 : decode cX8_erase 26 = .ok (.invokevirtual 80, 3) := by decide +kernel
theorem dX8_erase_29 : decode cX8_erase 29 = .ok (.iload_n 2, 1) := by decide +kernel
theorem dX8_erase_30 : decode cX8_erase 30 = .ok (.iload_n 3, 1) := by decide +kernel
theorem dX8_erase_31 : decode cX8_erase 31 = .ok (.invokevirtual 107, 3) := by decide +kernel
theorem dX8_erase_34 : decode cX8_erase 34 = .ok (.istore 4, 2) := by decide +kernel
theorem dX8_erase_36 : decode cX8_erase 36 = .ok (.iload 4, 2) := by decide +kernel
theorem dX8_erase_38 : decode cX8_erase 38 = .ok (.iconst (-1), 1) := by decide +kernel
theorem dX8_erase_39 : decode cX8_erase 39 = .ok (.if_icmp .ne 6, 3) := by decide +kernel
theorem dX8_erase_42 : decode cX8_erase 42 = .ok (.ldc 111, 2) := by decide +kernel
theorem dX8_erase_44 : decode cX8_erase 44 = .ok (.ireturn, 1) := by decide +kernel
theorem dX8_erase_45 : decode cX8_erase 45 = .ok (.aload_n 0, 1) := by decide +kernel
theorem dX8_erase_46 : decode cX8_erase 46 = .ok (.invokevirtual 77, 3) := by decide +kernel
theorem dX8_erase_49 : decode cX8_erase 49 = .ok (.aload_n 0, 1) := by decide +kernel
theorem dX8_erase_50 : decode cX8_erase 50 = .ok (.iload_n 1, 1) := by decide +kernel
theorem dX8_erase_51 : decode cX8_erase 51 = .ok (.invokevirtual 80, 3) := by decide +kernel
theorem dX8_erase_54 : decode cX8_erase 54 = .ok (.iload_n 2, 1) := by decide +kernel
theorem dX8_erase_55 : decode cX8_erase 55 = .ok (.iload_n 3, 1) := by decide +kernel
theorem dX8_erase_56 : decode cX8_erase 56 = .ok (.iconst (-1), 1) := by decide +kernel
theorem dX8_erase_57 : decode cX8_erase 57 = .ok (.invokevirtual 95, 3) := by decide +kernel
theorem dX8_erase_60 : decode cX8_erase 60 = .ok (.iload 4, 2) := by decide +kernel
theorem dX8_erase_62 : decode cX8_erase 62 = .ok (.ireturn, 1) := by decide +kernel
theorem dX8_copy_0 : decode cX8_copy 0 = .ok (.iload_n 1, 1) := by decide +kernel
theorem dX8_copy_1 : decode cX8_copy 1 = .ok (.invokestatic 66, 3) := by decide +kernel
theorem dX8_copy_4 : decode cX8_copy 4 = .ok (.ifCond .eq 15, 3) := by decide +kernel
theorem dX8_copy_7 : decode cX8_copy 7 = .ok (.iload_n 2, 1) := by decide +kernel
theorem dX8_copy_8 : decode cX8_copy 8 = .ok (.invokestatic 66, 3) := by decide +kernel
theorem dX8_copy_11 : decode cX8_copy 11 = .ok (.ifCond .eq 8, 3) := by decide +kernel
theorem dX8_copy_14 : decode cX8_copy 14 = .ok (.iload_n 1, 1) := by decide +kernel
theorem dX8_copy_15 : decode cX8_copy 15 = .ok (.iload_n 2, 1) := by decide +kernel
theorem dX8_copy_16 : decode cX8_copy 16 = .ok (.if_icmp .ne 6, 3) := by decide +kernel
theorem dX8_copy_19 : decode cX8_copy 19 = .ok (.ldc 76, 2) := by decide +kernel
theorem dX8_copy_21 : decode cX8_copy 21 = .ok (.ireturn, 1) := by decide +kernel
theorem dX8_copy_22 : decode cX8_copy 22 = .ok (.aload_n 0, 1) := by decide +kernel
theorem dX8_copy_23 : decode cX8_copy 23 = .ok (.invokevirtual 77, 3) := by decide +kernel
theorem dX8_copy_26 : decode cX8_copy 26 = .ok (.aload_n 0, 1) := by decide +kernel
theorem dX8_copy_27 : decode cX8_copy 27 = .ok (.iload_n 2, 1) := by decide +kernel
theorem dX8_copy_28 : decode cX8_copy 28 = .ok (.invokevirtual 80, 3) := by decide +kernel
theorem dX8_copy_31 : decode cX8_copy 31 = .ok (.aload_n 0, 1) := by decide +kernel
theorem dX8_copy_32 : decode cX8_copy 32 = .ok (.iload_n 1, 1) := by decide +kernel
theorem dX8_copy_33 : decode cX8_copy 33 = .ok (.invokevirtual 80, 3) := by decide +kernel
theorem dX8_copy_36 : decode cX8_copy 36 = .ok (.invokevirtual 112, 3) := by decide +kernel
theorem dX8_copy_39 : decode cX8_copy 39 = .ok (.aload_n 0, 1) := by decide +kernel
theorem dX8_copy_40 : decode cX8_copy 40 = .ok (.iload_n 2, 1) := by decide +kernel
theorem dX8_copy_41 : decode cX8_copy 41 = .ok (.invokevirtual 80, 3) := by decide +kernel
theorem dX8_copy_44 : decode cX8_copy 44 = .ok (.invokevirtual 115, 3) := by decide +kernel
theorem dX8_copy_47 : decode cX8_copy 47 = .ok (.ireturn, 1) := by decide +kernel
theorem dX8_mirror_0 : decode cX8_mirror 0 = .ok (.iload_n 1, 1) := by decide +kernel
theorem dX8_mirror_1 : decode cX8_mirror 1 = .ok (.invokestatic 66, 3) := by decide +kernel
theorem dX8_mirror_4 : decode cX8_mirror 4 = .ok (.ifCond .ne 6, 3) := by decide +kernel
theorem dX8_mirror_7 : decode cX8_mirror 7 = .ok (.ldc 76, 2) := by decide +kernel
theorem dX8_mirror_9 : decode cX8_mirror 9 = .ok (.ireturn, 1) := by decide +kernel
theorem dX8_mirror_10 : decode cX8_mirror 10 = .ok (.aload_n 0, 1) := by decide +kernel
theorem dX8_mirror_11 : decode cX8_mirror 11 = .ok (.invokevirtual 77, 3) := by decide +kernel
theorem dX8_mirror_14 : decode cX8_mirror 14 = .ok (.aload_n 0, 1) := by decide +kernel
theorem dX8_mirror_15 : decode cX8_mirror 15 = .ok (.iload_n 1, 1) := by decide +kernel
theorem dX8_mirror_16 : decode cX8_mirror 16 = .ok (.invokevirtual 80, 3) := by decide +kernel
theorem dX8_mirror_19 : decode cX8_mirror 19 = .ok (.invokevirtual 119, 3) := by decide +kernel
theorem dX8_mirror_22 : decode cX8_mirror 22 = .ok (.aload_n 0, 1) := by decide +kernel
theorem dX8_mirror_23 : decode cX8_mirror 23 = .ok (.iload_n 1, 1) := by decide +kernel
theorem dX8_mirror_24 : decode cX8_mirror 24 = .ok (.invokevirtual 80, 3) := by decide +kernel
theorem dX8_mirror_27 : decode cX8_mirror 27 = .ok (.invokevirtual 115, 3) := by decide +kernel
theorem dX8_mirror_30 : decode cX8_mirror 30 = .ok (.ireturn, 1) := by decide +kernel
theorem dX8_stateOf_0 : decode cX8_stateOf 0 = .ok (.iload_n 3, 1) := by decide +kernel
theorem dX8_stateOf_1 : decode cX8_stateOf 1 = .ok (.bipush 10, 2) := by decide +kernel
theorem dX8_stateOf_3 : decode cX8_stateOf 3 = .ok (.if_icmp .lt 13, 3) := by decide +kernel
theorem dX8_stateOf_6 : decode cX8_stateOf 6 = .ok (.iload_n 3, 1) := by decide +kernel
theorem dX8_stateOf_7 : decode cX8_stateOf 7 = .ok (.bipush 16, 2) := by decide +kernel
theorem dX8_stateOf_9 : decode cX8_stateOf 9 = .ok (.if_icmp .ge 7, 3) := by decide +kernel
theorem dX8_stateOf_12 : decode cX8_stateOf 12 = .ok (.iconst 1, 1) := by decide +kernel
theorem dX8_stateOf_13 : decode cX8_stateOf 13 = .ok (.goto 4, 3) := by decide +kernel
theorem dX8_stateOf_16 : decode cX8_stateOf 16 = .ok (.iconst 0, 1) := by decide +kernel
theorem dX8_stateOf_17 : decode cX8_stateOf 17 = .ok (.istore 4, 2) := by decide +kernel
theorem dX8_stateOf_19 : decode cX8_stateOf 19 = .ok (.iload_n 1, 1) := by decide +kernel
theorem dX8_stateOf_20 : decode cX8_stateOf 20 = .ok (.invokestatic 66, 3) := by decide +kernel
theorem dX8_stateOf_23 : decode cX8_stateOf 23 = .ok (.ifCond .eq 24, 3) := by decide +kernel
theorem dX8_stateOf_26 : decode cX8_stateOf 26 = .ok (.iload_n 2, 1) := by decide +kernel
theorem dX8_stateOf_27 : decode cX8_stateOf 27 = .ok (.invokestatic 70, 3) := by decide +kernel
theorem dX8_stateOf_30 : decode cX8_stateOf 30 = .ok (.ifCond .eq 17, 3) := by decide +kernel
theorem dX8_stateOf_33 : decode cX8_stateOf 33 = .ok (.iload 4, 2) := by decide +kernel
theorem dX8_stateOf_35 : decode cX8_stateOf 35 = .ok (.ifCond .ne 15, 3) := by decide +kernel
theorem dX8_stateOf_38 : decode cX8_stateOf 38 = .ok (.iload_n 3, 1) := by decide +kernel
theorem dX8_stateOf_39 : decode cX8_stateOf 39 = .ok (.ifCond .lt 8, 3) := by decide +kernel
theorem dX8_stateOf_42 : decode cX8_stateOf 42 = .ok (.iload_n 3, 1) := by decide +kernel
theorem dX8_stateOf_43 : decode cX8_stateOf 43 = .ok (.iconst 3, 1) := by decide +kernel
theorem dX8_stateOf_44 : decode cX8_stateOf 44 = .ok (.if_icmp .le 6, 3) := by decide +kernel
theorem dX8_stateOf_47 : decode cX8_stateOf 47 = .ok (.ldc 76, 2) := by decide +kernel
theorem dX8_stateOf_49 : decode cX8_stateOf 49 = .ok (.ireturn, 1) := by decide +kernel
theorem dX8_stateOf_50 : decode cX8_stateOf 50 = .ok (.aload_n 0, 1) := by decide +kernel
theorem dX8_stateOf_51 : decode cX8_stateOf 51 = .ok (.iload_n 1, 1) := by decide +kernel
theorem dX8_stateOf_52 : decode cX8_stateOf 52 = .ok (.invokevirtual 80, 3) := by decide +kernel
theorem dX8_stateOf_55 : decode cX8_stateOf 55 = .ok (.astore 5, 2) := by decide +kernel
theorem dX8_stateOf_57 : decode cX8_stateOf 57 = .ok (.iload_n 3, 1) := by decide +kernel
theorem dX8_stateOf_58 : decode cX8_stateOf 58 = .ok (.tableswitch 69 0 3 #[30, 37, 44, 62], 30) := by decide +kernel
theorem dX8_stateOf_88 : decode cX8_stateOf 88 = .ok (.aload 5, 2) := by decide +kernel
theorem dX8_stateOf_90 : decode cX8_stateOf 90 = .ok (.iload_n 2, 1) := by decide +kernel
theorem dX8_stateOf_91 : decode cX8_stateOf 91 = .ok (.invokevirtual 84, 3) := by decide +kernel
theorem dX8_stateOf_94 : decode cX8_stateOf 94 = .ok (.ireturn, 1) := by decide +kernel
theorem dX8_stateOf_95 : decode cX8_stateOf 95 = .ok (.aload 5, 2) := by decide +kernel
theorem dX8_stateOf_97 : decode cX8_stateOf 97 = .ok (.iload_n 2, 1) := by decide +kernel
theorem dX8_stateOf_98 : decode cX8_stateOf 98 = .ok (.invokevirtual 99, 3) := by decide +kernel
theorem dX8_stateOf_101 : decode cX8_stateOf 101 = .ok (.ireturn, 1) := by decide +kernel
theorem dX8_stateOf_102 : decode cX8_stateOf 102 = .ok (.aload_n 0, 1) := by decide +kernel
theorem dX8_stateOf_103 : decode cX8_stateOf 103 = .ok (.getfield 39, 3) := by decide +kernel
theorem dX8_stateOf_106 : decode cX8_stateOf 106 = .ok (.aload 5, 2) := by decide +kernel
theorem dX8_stateOf_108 : decode cX8_stateOf 108 = .ok (.invokevirtual 122, 3) := by decide +kernel
theorem dX8_stateOf_111 : decode cX8_stateOf 111 = .ok (.aload_n 0, 1) := by decide +kernel
theorem dX8_stateOf_112 : decode cX8_stateOf 112 = .ok (.getfield 39, 3) := by decide +kernel
theorem dX8_stateOf_115 : decode cX8_stateOf 115 = .ok (.iload_n 2, 1) := by decide +kernel
theorem dX8_stateOf_116 : decode cX8_stateOf 116 = .ok (.invokevirtual 125, 3) := by decide +kernel
theorem dX8_stateOf_119 : decode cX8_stateOf 119 = .ok (.ireturn, 1) := by decide +kernel
theorem dX8_stateOf_120 : decode cX8_stateOf 120 = .ok (.aload 5, 2) := by decide +kernel
theorem dX8_stateOf_122 : decode cX8_stateOf 122 = .ok (.iload_n 2, 1) := by decide +kernel
theorem dX8_stateOf_123 : decode cX8_stateOf 123 = .ok (.invokevirtual 128, 3) := by decide +kernel
theorem dX8_stateOf_126 : decode cX8_stateOf 126 = .ok (.ireturn, 1) := by decide +kernel
theorem dX8_stateOf_127 : decode cX8_stateOf 127 = .ok (.aload 5, 2) := by decide +kernel
theorem dX8_stateOf_129 : decode cX8_stateOf 129 = .ok (.iload_n 2, 1) := by decide +kernel
theorem dX8_stateOf_130 : decode cX8_stateOf 130 = .ok (.iload_n 3, 1) := by decide +kernel
theorem dX8_stateOf_131 : decode cX8_stateOf 131 = .ok (.bipush 10, 2) := by decide +kernel
theorem dX8_stateOf_133 : decode cX8_stateOf 133 = .ok (.isub, 1) := by decide +kernel
theorem dX8_stateOf_134 : decode cX8_stateOf 134 = .ok (.invokevirtual 107, 3) := by decide +kernel
theorem dX8_stateOf_137 : decode cX8_stateOf 137 = .ok (.invokestatic 131, 3) := by decide +kernel
theorem dX8_stateOf_140 : decode cX8_stateOf 140 = .ok (.ireturn, 1) := by decide +kernel
theorem dX8_unlike_0 : decode cX8_unlike 0 = .ok (.iload_n 1, 1) := by decide +kernel
theorem dX8_unlike_1 : decode cX8_unlike 1 = .ok (.invokestatic 66, 3) := by decide +kernel
theorem dX8_unlike_4 : decode cX8_unlike 4 = .ok (.ifCond .ne 6, 3) := by decide +kernel
theorem dX8_unlike_7 : decode cX8_unlike 7 = .ok (.ldc 76, 2) := by decide +kernel
theorem dX8_unlike_9 : decode cX8_unlike 9 = .ok (.ireturn, 1) := by decide +kernel
theorem dX8_unlike_10 : decode cX8_unlike 10 = .ok (.aload_n 0, 1) := by decide +kernel
theorem dX8_unlike_11 : decode cX8_unlike 11 = .ok (.iload_n 1, 1) := by decide +kernel
theorem dX8_unlike_12 : decode cX8_unlike 12 = .ok (.invokevirtual 80, 3) := by decide +kernel
theorem dX8_unlike_15 : decode cX8_unlike 15 = .ok (.iconst 0, 1) := by decide +kernel
theorem dX8_unlike_16 : decode cX8_unlike 16 = .ok (.invokevirtual 128, 3) := by decide +kernel
theorem dX8_unlike_19 : decode cX8_unlike 19 = .ok (.istore_n 2, 1) := by decide +kernel
theorem dX8_unlike_20 : decode cX8_unlike 20 = .ok (.aload_n 0, 1) := by decide +kernel
theorem dX8_unlike_21 : decode cX8_unlike 21 = .ok (.getfield 39, 3) := by decide +kernel
theorem dX8_unlike_24 : decode cX8_unlike 24 = .ok (.aload_n 0, 1) := by decide +kernel
theorem dX8_unlike_25 : decode cX8_unlike 25 = .ok (.iload_n 1, 1) := by decide +kernel
theorem dX8_unlike_26 : decode cX8_unlike 26 = .ok (.invokevirtual 80, 3) := by decide +kernel
theorem dX8_unlike_29 : decode cX8_unlike 29 = .ok (.invokevirtual 122, 3) := by decide +kernel
theorem dX8_unlike_32 : decode cX8_unlike 32 = .ok (.iconst 0, 1) := by decide +kernel
theorem dX8_unlike_33 : decode cX8_unlike 33 = .ok (.istore_n 3, 1) := by decide +kernel
theorem dX8_unlike_34 : decode cX8_unlike 34 = .ok (.iconst 0, 1) := by decide +kernel
theorem dX8_unlike_35 : decode cX8_unlike 35 = .ok (.istore 4, 2) := by decide +kernel
theorem dX8_unlike_37 : decode cX8_unlike 37 = .ok (.iload 4, 2) := by decide +kernel
theorem dX8_unlike_39 : decode cX8_unlike 39 = .ok (.bipush 8, 2) := by decide +kernel
theorem dX8_unlike_41 : decode cX8_unlike 41 = .ok (.if_icmp .ge 32, 3) := by decide +kernel
theorem dX8_unlike_44 : decode cX8_unlike 44 = .ok (.iload_n 2, 1) := by decide +kernel
theorem dX8_unlike_45 : decode cX8_unlike 45 = .ok (.iload 4, 2) := by decide +kernel
theorem dX8_unlike_47 : decode cX8_unlike 47 = .ok (.invokestatic 134, 3) := by decide +kernel
theorem dX8_unlike_50 : decode cX8_unlike 50 = .ok (.ifCond .eq 17, 3) := by decide +kernel
theorem dX8_unlike_53 : decode cX8_unlike 53 = .ok (.iload_n 3, 1) := by decide +kernel
theorem dX8_unlike_54 : decode cX8_unlike 54 = .ok (.iconst 1, 1) := by decide +kernel
theorem dX8_unlike_55 : decode cX8_unlike 55 = .ok (.aload_n 0, 1) := by decide +kernel
theorem dX8_unlike_56 : decode cX8_unlike 56 = .ok (.getfield 39, 3) := by decide +kernel
theorem dX8_unlike_59 : decode cX8_unlike 59 = .ok (.iload 4, 2) := by decide +kernel
theorem dX8_unlike_61 : decode cX8_unlike 61 = .ok (.invokevirtual 125, 3) := by decide +kernel
theorem dX8_unlike_64 : decode cX8_unlike 64 = .ok (.ishl, 1) := by decide +kernel
theorem dX8_unlike_65 : decode cX8_unlike 65 = .ok (.ior, 1) := by decide +kernel
theorem dX8_unlike_66 : decode cX8_unlike 66 = .ok (.istore_n 3, 1) := by decide +kernel
theorem dX8_unlike_67 : decode cX8_unlike 67 = .ok (.iinc 4 1, 3) := by decide +kernel
theorem dX8_unlike_70 : decode cX8_unlike 70 = .ok (.goto (-33), 3) := by decide +kernel
theorem dX8_unlike_73 : decode cX8_unlike 73 = .ok (.iload_n 3, 1) := by decide +kernel
theorem dX8_unlike_74 : decode cX8_unlike 74 = .ok (.invokestatic 102, 3) := by decide +kernel
theorem dX8_unlike_77 : decode cX8_unlike 77 = .ok (.ireturn, 1) := by decide +kernel
theorem dX8_pairOf_0 : decode cX8_pairOf 0 = .ok (.iload_n 1, 1) := by decide +kernel
theorem dX8_pairOf_1 : decode cX8_pairOf 1 = .ok (.invokestatic 66, 3) := by decide +kernel
theorem dX8_pairOf_4 : decode cX8_pairOf 4 = .ok (.ifCond .eq 23, 3) := by decide +kernel
theorem dX8_pairOf_7 : decode cX8_pairOf 7 = .ok (.iload_n 2, 1) := by decide +kernel
theorem dX8_pairOf_8 : decode cX8_pairOf 8 = .ok (.invokestatic 66, 3) := by decide +kernel
theorem dX8_pairOf_11 : decode cX8_pairOf 11 = .ok (.ifCond .eq 16, 3) := by decide +kernel
theorem dX8_pairOf_14 : decode cX8_pairOf 14 = .ok (.iload_n 3, 1) := by decide +kernel
theorem dX8_pairOf_15 : decode cX8_pairOf 15 = .ok (.iconst (-1), 1) := by decide +kernel
theorem dX8_pairOf_16 : decode cX8_pairOf 16 = .ok (.if_icmp .lt 11, 3) := by decide +kernel
theorem dX8_pairOf_19 : decode cX8_pairOf 19 = .ok (.iload 4, 2) := by decide +kernel
theorem dX8_pairOf_21 : decode cX8_pairOf 21 = .ok (.invokestatic 138, 3) := by decide +kernel
theorem dX8_pairOf_24 : decode cX8_pairOf 24 = .ok (.ifCond .ne 6, 3) := by decide +kernel
theorem dX8_pairOf_27 : decode cX8_pairOf 27 = .ok (.ldc 76, 2) := by decide +kernel
theorem dX8_pairOf_29 : decode cX8_pairOf 29 = .ok (.ireturn, 1) := by decide +kernel
theorem dX8_pairOf_30 : decode cX8_pairOf 30 = .ok (.aload_n 0, 1) := by decide +kernel
theorem dX8_pairOf_31 : decode cX8_pairOf 31 = .ok (.getfield 48, 3) := by decide +kernel
theorem dX8_pairOf_34 : decode cX8_pairOf 34 = .ok (.aload_n 0, 1) := by decide +kernel
theorem dX8_pairOf_35 : decode cX8_pairOf 35 = .ok (.iload_n 1, 1) := by decide +kernel
theorem dX8_pairOf_36 : decode cX8_pairOf 36 = .ok (.invokevirtual 80, 3) := by decide +kernel
theorem dX8_pairOf_39 : decode cX8_pairOf 39 = .ok (.aload_n 0, 1) := by decide +kernel
theorem dX8_pairOf_40 : decode cX8_pairOf 40 = .ok (.iload_n 2, 1) := by decide +kernel
theorem dX8_pairOf_41 : decode cX8_pairOf 41 = .ok (.invokevirtual 80, 3) := by decide +kernel
theorem dX8_pairOf_44 : decode cX8_pairOf 44 = .ok (.invokevirtual 141, 3) := by decide +kernel
theorem dX8_pairOf_47 : decode cX8_pairOf 47 = .ok (.iload_n 3, 1) := by decide +kernel
theorem dX8_pairOf_48 : decode cX8_pairOf 48 = .ok (.iconst (-1), 1) := by decide +kernel
theorem dX8_pairOf_49 : decode cX8_pairOf 49 = .ok (.if_icmp .ne 13, 3) := by decide +kernel
theorem dX8_pairOf_52 : decode cX8_pairOf 52 = .ok (.aload_n 0, 1) := by decide +kernel
theorem dX8_pairOf_53 : decode cX8_pairOf 53 = .ok (.getfield 48, 3) := by decide +kernel
theorem dX8_pairOf_56 : decode cX8_pairOf 56 = .ok (.invokevirtual 145, 3) := by decide +kernel
theorem dX8_pairOf_59 : decode cX8_pairOf 59 = .ok (.goto 4, 3) := by decide +kernel
theorem dX8_pairOf_62 : decode cX8_pairOf 62 = .ok (.iload_n 3, 1) := by decide +kernel
theorem dX8_pairOf_63 : decode cX8_pairOf 63 = .ok (.istore 5, 2) := by decide +kernel
theorem dX8_pairOf_65 : decode cX8_pairOf 65 = .ok (.aload_n 0, 1) := by decide +kernel
theorem dX8_pairOf_66 : decode cX8_pairOf 66 = .ok (.getfield 48, 3) := by decide +kernel
theorem dX8_pairOf_69 : decode cX8_pairOf 69 = .ok (.iload 5, 2) := by decide +kernel
theorem dX8_pairOf_71 : decode cX8_pairOf 71 = .ok (.invokevirtual 148, 3) := by decide +kernel
theorem dX8_pairOf_74 : decode cX8_pairOf 74 = .ok (.ifCond .ne 6, 3) := by decide +kernel
theorem dX8_pairOf_77 : decode cX8_pairOf 77 = .ok (.ldc 151, 2) := by decide +kernel
theorem dX8_pairOf_79 : decode cX8_pairOf 79 = .ok (.ireturn, 1) := by decide +kernel
theorem dX8_pairOf_80 : decode cX8_pairOf 80 = .ok (.iload 4, 2) := by decide +kernel
theorem dX8_pairOf_82 : decode cX8_pairOf 82 = .ok (.tableswitch 56 0 2 #[26, 36, 46], 26) := by decide +kernel
theorem dX8_pairOf_108 : decode cX8_pairOf 108 = .ok (.aload_n 0, 1) := by decide +kernel
theorem dX8_pairOf_109 : decode cX8_pairOf 109 = .ok (.getfield 48, 3) := by decide +kernel
theorem dX8_pairOf_112 : decode cX8_pairOf 112 = .ok (.iload 5, 2) := by decide +kernel
theorem dX8_pairOf_114 : decode cX8_pairOf 114 = .ok (.invokevirtual 152, 3) := by decide +kernel
theorem dX8_pairOf_117 : decode cX8_pairOf 117 = .ok (.ireturn, 1) := by decide +kernel
theorem dX8_pairOf_118 : decode cX8_pairOf 118 = .ok (.aload_n 0, 1) := by decide +kernel
theorem dX8_pairOf_119 : decode cX8_pairOf 119 = .ok (.getfield 48, 3) := by decide +kernel
theorem dX8_pairOf_122 : decode cX8_pairOf 122 = .ok (.iload 5, 2) := by decide +kernel
theorem dX8_pairOf_124 : decode cX8_pairOf 124 = .ok (.invokevirtual 155, 3) := by decide +kernel
theorem dX8_pairOf_127 : decode cX8_pairOf 127 = .ok (.ireturn, 1) := by decide +kernel
theorem dX8_pairOf_128 : decode cX8_pairOf 128 = .ok (.aload_n 0, 1) := by decide +kernel
theorem dX8_pairOf_129 : decode cX8_pairOf 129 = .ok (.getfield 48, 3) := by decide +kernel
theorem dX8_pairOf_132 : decode cX8_pairOf 132 = .ok (.iload 5, 2) := by decide +kernel
theorem dX8_pairOf_134 : decode cX8_pairOf 134 = .ok (.invokevirtual 158, 3) := by decide +kernel
theorem dX8_pairOf_137 : decode cX8_pairOf 137 = .ok (.ireturn, 1) := by decide +kernel
theorem dX8_pairOf_138 : decode cX8_pairOf 138 = .ok (.aload_n 0, 1) := by decide +kernel
theorem dX8_pairOf_139 : decode cX8_pairOf 139 = .ok (.getfield 48, 3) := by decide +kernel
theorem dX8_pairOf_142 : decode cX8_pairOf 142 = .ok (.iload 5, 2) := by decide +kernel
theorem dX8_pairOf_144 : decode cX8_pairOf 144 = .ok (.iload 4, 2) := by decide +kernel
theorem dX8_pairOf_146 : decode cX8_pairOf 146 = .ok (.invokevirtual 161, 3) := by decide +kernel
theorem dX8_pairOf_149 : decode cX8_pairOf 149 = .ok (.ireturn, 1) := by decide +kernel
theorem dX8_talk_0 : decode cX8_talk 0 = .ok (.iload_n 1, 1) := by decide +kernel
theorem dX8_talk_1 : decode cX8_talk 1 = .ok (.invokestatic 66, 3) := by decide +kernel
theorem dX8_talk_4 : decode cX8_talk 4 = .ok (.ifCond .eq 20, 3) := by decide +kernel
theorem dX8_talk_7 : decode cX8_talk 7 = .ok (.iload_n 2, 1) := by decide +kernel
theorem dX8_talk_8 : decode cX8_talk 8 = .ok (.invokestatic 66, 3) := by decide +kernel
theorem dX8_talk_11 : decode cX8_talk 11 = .ok (.ifCond .eq 13, 3) := by decide +kernel
theorem dX8_talk_14 : decode cX8_talk 14 = .ok (.iload_n 3, 1) := by decide +kernel
theorem dX8_talk_15 : decode cX8_talk 15 = .ok (.ifCond .lt 9, 3) := by decide +kernel
theorem dX8_talk_18 : decode cX8_talk 18 = .ok (.iload_n 3, 1) := by decide +kernel
theorem dX8_talk_19 : decode cX8_talk 19 = .ok (.bipush 6, 2) := by decide +kernel
theorem dX8_talk_21 : decode cX8_talk 21 = .ok (.if_icmp .le 6, 3) := by decide +kernel
theorem dX8_talk_24 : decode cX8_talk 24 = .ok (.ldc 76, 2) := by decide +kernel
theorem dX8_talk_26 : decode cX8_talk 26 = .ok (.ireturn, 1) := by decide +kernel
theorem dX8_talk_27 : decode cX8_talk 27 = .ok (.aload_n 0, 1) := by decide +kernel
theorem dX8_talk_28 : decode cX8_talk 28 = .ok (.getfield 48, 3) := by decide +kernel
theorem dX8_talk_31 : decode cX8_talk 31 = .ok (.aload_n 0, 1) := by decide +kernel
theorem dX8_talk_32 : decode cX8_talk 32 = .ok (.iload_n 1, 1) := by decide +kernel
theorem dX8_talk_33 : decode cX8_talk 33 = .ok (.invokevirtual 80, 3) := by decide +kernel
theorem dX8_talk_36 : decode cX8_talk 36 = .ok (.aload_n 0, 1) := by decide +kernel
theorem dX8_talk_37 : decode cX8_talk 37 = .ok (.iload_n 2, 1) := by decide +kernel
theorem dX8_talk_38 : decode cX8_talk 38 = .ok (.invokevirtual 80, 3) := by decide +kernel
theorem dX8_talk_41 : decode cX8_talk 41 = .ok (.invokevirtual 141, 3) := by decide +kernel
theorem dX8_talk_44 : decode cX8_talk 44 = .ok (.iload_n 3, 1) := by decide +kernel
theorem dX8_talk_45 : decode cX8_talk 45 = .ok (.tableswitch 106 0 5 #[39, 47, 55, 63, 87, 98], 39) := by decide +kernel
theorem dX8_talk_84 : decode cX8_talk 84 = .ok (.aload_n 0, 1) := by decide +kernel
theorem dX8_talk_85 : decode cX8_talk 85 = .ok (.getfield 48, 3) := by decide +kernel
theorem dX8_talk_88 : decode cX8_talk 88 = .ok (.invokevirtual 164, 3) := by decide +kernel
theorem dX8_talk_91 : decode cX8_talk 91 = .ok (.ireturn, 1) := by decide +kernel
theorem dX8_talk_92 : decode cX8_talk 92 = .ok (.aload_n 0, 1) := by decide +kernel
theorem dX8_talk_93 : decode cX8_talk 93 = .ok (.getfield 48, 3) := by decide +kernel
theorem dX8_talk_96 : decode cX8_talk 96 = .ok (.invokevirtual 167, 3) := by decide +kernel
theorem dX8_talk_99 : decode cX8_talk 99 = .ok (.ireturn, 1) := by decide +kernel
theorem dX8_talk_100 : decode cX8_talk 100 = .ok (.aload_n 0, 1) := by decide +kernel
theorem dX8_talk_101 : decode cX8_talk 101 = .ok (.getfield 48, 3) := by decide +kernel
theorem dX8_talk_104 : decode cX8_talk 104 = .ok (.invokevirtual 170, 3) := by decide +kernel
theorem dX8_talk_107 : decode cX8_talk 107 = .ok (.ireturn, 1) := by decide +kernel
theorem dX8_talk_108 : decode cX8_talk 108 = .ok (.aload_n 0, 1) := by decide +kernel
theorem dX8_talk_109 : decode cX8_talk 109 = .ok (.getfield 55, 3) := by decide +kernel
theorem dX8_talk_112 : decode cX8_talk 112 = .ok (.aload_n 0, 1) := by decide +kernel
theorem dX8_talk_113 : decode cX8_talk 113 = .ok (.getfield 48, 3) := by decide +kernel
theorem dX8_talk_116 : decode cX8_talk 116 = .ok (.invokevirtual 173, 3) := by decide +kernel
theorem dX8_talk_119 : decode cX8_talk 119 = .ok (.ldc2_w 177, 3) := by decide +kernel
theorem dX8_talk_122 : decode cX8_talk 122 = .ok (.lcmp, 1) := by decide +kernel
theorem dX8_talk_123 : decode cX8_talk 123 = .ok (.ifCond .ne 7, 3) := by decide +kernel
theorem dX8_talk_126 : decode cX8_talk 126 = .ok (.iconst 1, 1) := by decide +kernel
theorem dX8_talk_127 : decode cX8_talk 127 = .ok (.goto 4, 3) := by decide +kernel
theorem dX8_talk_130 : decode cX8_talk 130 = .ok (.iconst 0, 1) := by decide +kernel
theorem dX8_talk_131 : decode cX8_talk 131 = .ok (.ireturn, 1) := by decide +kernel
theorem dX8_talk_132 : decode cX8_talk 132 = .ok (.aload_n 0, 1) := by decide +kernel
theorem dX8_talk_133 : decode cX8_talk 133 = .ok (.getfield 48, 3) := by decide +kernel
theorem dX8_talk_136 : decode cX8_talk 136 = .ok (.invokevirtual 179, 3) := by decide +kernel
theorem dX8_talk_139 : decode cX8_talk 139 = .ok (.invokestatic 131, 3) := by decide +kernel
theorem dX8_talk_142 : decode cX8_talk 142 = .ok (.ireturn, 1) := by decide +kernel
theorem dX8_talk_143 : decode cX8_talk 143 = .ok (.aload_n 0, 1) := by decide +kernel
theorem dX8_talk_144 : decode cX8_talk 144 = .ok (.getfield 48, 3) := by decide +kernel
theorem dX8_talk_147 : decode cX8_talk 147 = .ok (.invokevirtual 182, 3) := by decide +kernel
theorem dX8_talk_150 : decode cX8_talk 150 = .ok (.ireturn, 1) := by decide +kernel
theorem dX8_talk_151 : decode cX8_talk 151 = .ok (.aload_n 0, 1) := by decide +kernel
theorem dX8_talk_152 : decode cX8_talk 152 = .ok (.getfield 48, 3) := by decide +kernel
theorem dX8_talk_155 : decode cX8_talk 155 = .ok (.invokevirtual 185, 3) := by decide +kernel
theorem dX8_talk_158 : decode cX8_talk 158 = .ok (.ireturn, 1) := by decide +kernel
theorem dX8_talks_0 : decode cX8_talks 0 = .ok (.iload_n 1, 1) := by decide +kernel
theorem dX8_talks_1 : decode cX8_talks 1 = .ok (.invokestatic 66, 3) := by decide +kernel
theorem dX8_talks_4 : decode cX8_talks 4 = .ok (.ifCond .eq 10, 3) := by decide +kernel
theorem dX8_talks_7 : decode cX8_talks 7 = .ok (.iload_n 2, 1) := by decide +kernel
theorem dX8_talks_8 : decode cX8_talks 8 = .ok (.invokestatic 66, 3) := by decide +kernel
theorem dX8_talks_11 : decode cX8_talks 11 = .ok (.ifCond .ne 7, 3) := by decide +kernel
theorem dX8_talks_14 : decode cX8_talks 14 = .ok (.ldc2_w 188, 3) := by decide +kernel
theorem dX8_talks_17 : decode cX8_talks 17 = .ok (.lreturn, 1) := by decide +kernel
theorem dX8_talks_18 : decode cX8_talks 18 = .ok (.aload_n 0, 1) := by decide +kernel
theorem dX8_talks_19 : decode cX8_talks 19 = .ok (.getfield 48, 3) := by decide +kernel
theorem dX8_talks_22 : decode cX8_talks 22 = .ok (.aload_n 0, 1) := by decide +kernel
theorem dX8_talks_23 : decode cX8_talks 23 = .ok (.iload_n 1, 1) := by decide +kernel
theorem dX8_talks_24 : decode cX8_talks 24 = .ok (.invokevirtual 80, 3) := by decide +kernel
theorem dX8_talks_27 : decode cX8_talks 27 = .ok (.aload_n 0, 1) := by decide +kernel
theorem dX8_talks_28 : decode cX8_talks 28 = .ok (.iload_n 2, 1) := by decide +kernel
theorem dX8_talks_29 : decode cX8_talks 29 = .ok (.invokevirtual 80, 3) := by decide +kernel
theorem dX8_talks_32 : decode cX8_talks 32 = .ok (.invokevirtual 141, 3) := by decide +kernel
theorem dX8_talks_35 : decode cX8_talks 35 = .ok (.aload_n 0, 1) := by decide +kernel
theorem dX8_talks_36 : decode cX8_talks 36 = .ok (.getfield 55, 3) := by decide +kernel
theorem dX8_talks_39 : decode cX8_talks 39 = .ok (.aload_n 0, 1) := by decide +kernel
theorem dX8_talks_40 : decode cX8_talks 40 = .ok (.getfield 48, 3) := by decide +kernel
theorem dX8_talks_43 : decode cX8_talks 43 = .ok (.invokevirtual 173, 3) := by decide +kernel
theorem dX8_talks_46 : decode cX8_talks 46 = .ok (.lstore_n 3, 1) := by decide +kernel
theorem dX8_talks_47 : decode cX8_talks 47 = .ok (.lload_n 3, 1) := by decide +kernel
theorem dX8_talks_48 : decode cX8_talks 48 = .ok (.ldc2_w 177, 3) := by decide +kernel
theorem dX8_talks_51 : decode cX8_talks 51 = .ok (.lcmp, 1) := by decide +kernel
theorem dX8_talks_52 : decode cX8_talks 52 = .ok (.ifCond .ne 7, 3) := by decide +kernel
theorem dX8_talks_55 : decode cX8_talks 55 = .ok (.ldc2_w 190, 3) := by decide +kernel
theorem dX8_talks_58 : decode cX8_talks 58 = .ok (.lreturn, 1) := by decide +kernel
theorem dX8_talks_59 : decode cX8_talks 59 = .ok (.lload_n 3, 1) := by decide +kernel
theorem dX8_talks_60 : decode cX8_talks 60 = .ok (.ldc2_w 192, 3) := by decide +kernel
theorem dX8_talks_63 : decode cX8_talks 63 = .ok (.lcmp, 1) := by decide +kernel
theorem dX8_talks_64 : decode cX8_talks 64 = .ok (.ifCond .le 9, 3) := by decide +kernel
theorem dX8_talks_67 : decode cX8_talks 67 = .ok (.ldc2_w 194, 3) := by decide +kernel
theorem dX8_talks_70 : decode cX8_talks 70 = .ok (.goto 4, 3) := by decide +kernel
theorem dX8_talks_73 : decode cX8_talks 73 = .ok (.lload_n 3, 1) := by decide +kernel
theorem dX8_talks_74 : decode cX8_talks 74 = .ok (.lreturn, 1) := by decide +kernel
theorem dX8_standsIn_0 : decode cX8_standsIn 0 = .ok (.iload_n 1, 1) := by decide +kernel
theorem dX8_standsIn_1 : decode cX8_standsIn 1 = .ok (.invokestatic 66, 3) := by decide +kernel
theorem dX8_standsIn_4 : decode cX8_standsIn 4 = .ok (.ifCond .eq 10, 3) := by decide +kernel
theorem dX8_standsIn_7 : decode cX8_standsIn 7 = .ok (.iload_n 2, 1) := by decide +kernel
theorem dX8_standsIn_8 : decode cX8_standsIn 8 = .ok (.invokestatic 66, 3) := by decide +kernel
theorem dX8_standsIn_11 : decode cX8_standsIn 11 = .ok (.ifCond .ne 6, 3) := by decide +kernel
theorem dX8_standsIn_14 : decode cX8_standsIn 14 = .ok (.ldc 76, 2) := by decide +kernel
theorem dX8_standsIn_16 : decode cX8_standsIn 16 = .ok (.ireturn, 1) := by decide +kernel
theorem dX8_standsIn_17 : decode cX8_standsIn 17 = .ok (.aload_n 0, 1) := by decide +kernel
theorem dX8_standsIn_18 : decode cX8_standsIn 18 = .ok (.getfield 62, 3) := by decide +kernel
theorem dX8_standsIn_21 : decode cX8_standsIn 21 = .ok (.aload_n 0, 1) := by decide +kernel
theorem dX8_standsIn_22 : decode cX8_standsIn 22 = .ok (.iload_n 1, 1) := by decide +kernel
theorem dX8_standsIn_23 : decode cX8_standsIn 23 = .ok (.invokevirtual 80, 3) := by decide +kernel
theorem dX8_standsIn_26 : decode cX8_standsIn 26 = .ok (.aload_n 0, 1) := by decide +kernel
theorem dX8_standsIn_27 : decode cX8_standsIn 27 = .ok (.iload_n 2, 1) := by decide +kernel
theorem dX8_standsIn_28 : decode cX8_standsIn 28 = .ok (.invokevirtual 80, 3) := by decide +kernel
theorem dX8_standsIn_31 : decode cX8_standsIn 31 = .ok (.invokevirtual 196, 3) := by decide +kernel
theorem dX8_standsIn_34 : decode cX8_standsIn 34 = .ok (.aload_n 0, 1) := by decide +kernel
theorem dX8_standsIn_35 : decode cX8_standsIn 35 = .ok (.getfield 62, 3) := by decide +kernel
theorem dX8_standsIn_38 : decode cX8_standsIn 38 = .ok (.invokevirtual 197, 3) := by decide +kernel
theorem dX8_standsIn_41 : decode cX8_standsIn 41 = .ok (.iconst (-1), 1) := by decide +kernel
theorem dX8_standsIn_42 : decode cX8_standsIn 42 = .ok (.if_icmp .ne 7, 3) := by decide +kernel
theorem dX8_standsIn_45 : decode cX8_standsIn 45 = .ok (.iconst 1, 1) := by decide +kernel
theorem dX8_standsIn_46 : decode cX8_standsIn 46 = .ok (.goto 4, 3) := by decide +kernel
theorem dX8_standsIn_49 : decode cX8_standsIn 49 = .ok (.iconst 0, 1) := by decide +kernel
theorem dX8_standsIn_50 : decode cX8_standsIn 50 = .ok (.ireturn, 1) := by decide +kernel
theorem dX8_against_0 : decode cX8_against 0 = .ok (.iload_n 1, 1) := by decide +kernel
theorem dX8_against_1 : decode cX8_against 1 = .ok (.invokestatic 66, 3) := by decide +kernel
theorem dX8_against_4 : decode cX8_against 4 = .ok (.ifCond .eq 17, 3) := by decide +kernel
theorem dX8_against_7 : decode cX8_against 7 = .ok (.iload_n 2, 1) := by decide +kernel
theorem dX8_against_8 : decode cX8_against 8 = .ok (.invokestatic 66, 3) := by decide +kernel
theorem dX8_against_11 : decode cX8_against 11 = .ok (.ifCond .eq 10, 3) := by decide +kernel
theorem dX8_against_14 : decode cX8_against 14 = .ok (.iload_n 3, 1) := by decide +kernel
theorem dX8_against_15 : decode cX8_against 15 = .ok (.invokestatic 138, 3) := by decide +kernel
theorem dX8_against_18 : decode cX8_against 18 = .ok (.ifCond .ne 6, 3) := by decide +kernel
theorem dX8_against_21 : decode cX8_against 21 = .ok (.ldc 76, 2) := by decide +kernel
theorem dX8_against_23 : decode cX8_against 23 = .ok (.ireturn, 1) := by decide +kernel
theorem dX8_against_24 : decode cX8_against 24 = .ok (.aload_n 0, 1) := by decide +kernel
theorem dX8_against_25 : decode cX8_against 25 = .ok (.getfield 62, 3) := by decide +kernel
theorem dX8_against_28 : decode cX8_against 28 = .ok (.aload_n 0, 1) := by decide +kernel
theorem dX8_against_29 : decode cX8_against 29 = .ok (.iload_n 1, 1) := by decide +kernel
theorem dX8_against_30 : decode cX8_against 30 = .ok (.invokevirtual 80, 3) := by decide +kernel
theorem dX8_against_33 : decode cX8_against 33 = .ok (.aload_n 0, 1) := by decide +kernel
theorem dX8_against_34 : decode cX8_against 34 = .ok (.iload_n 2, 1) := by decide +kernel
theorem dX8_against_35 : decode cX8_against 35 = .ok (.invokevirtual 80, 3) := by decide +kernel
theorem dX8_against_38 : decode cX8_against 38 = .ok (.invokevirtual 196, 3) := by decide +kernel
theorem dX8_against_41 : decode cX8_against 41 = .ok (.aload_n 0, 1) := by decide +kernel
theorem dX8_against_42 : decode cX8_against 42 = .ok (.getfield 62, 3) := by decide +kernel
theorem dX8_against_45 : decode cX8_against 45 = .ok (.invokevirtual 197, 3) := by decide +kernel
theorem dX8_against_48 : decode cX8_against 48 = .ok (.istore 4, 2) := by decide +kernel
theorem dX8_against_50 : decode cX8_against 50 = .ok (.aload_n 0, 1) := by decide +kernel
theorem dX8_against_51 : decode cX8_against 51 = .ok (.getfield 62, 3) := by decide +kernel
theorem dX8_against_54 : decode cX8_against 54 = .ok (.iload 4, 2) := by decide +kernel
theorem dX8_against_56 : decode cX8_against 56 = .ok (.invokevirtual 198, 3) := by decide +kernel
theorem dX8_against_59 : decode cX8_against 59 = .ok (.ifCond .ne 6, 3) := by decide +kernel
theorem dX8_against_62 : decode cX8_against 62 = .ok (.ldc 151, 2) := by decide +kernel
theorem dX8_against_64 : decode cX8_against 64 = .ok (.ireturn, 1) := by decide +kernel
theorem dX8_against_65 : decode cX8_against 65 = .ok (.iload_n 3, 1) := by decide +kernel
theorem dX8_against_66 : decode cX8_against 66 = .ok (.tableswitch 56 0 2 #[26, 36, 46], 26) := by decide +kernel
theorem dX8_against_92 : decode cX8_against 92 = .ok (.aload_n 0, 1) := by decide +kernel
theorem dX8_against_93 : decode cX8_against 93 = .ok (.getfield 62, 3) := by decide +kernel
theorem dX8_against_96 : decode cX8_against 96 = .ok (.iload 4, 2) := by decide +kernel
theorem dX8_against_98 : decode cX8_against 98 = .ok (.invokevirtual 199, 3) := by decide +kernel
theorem dX8_against_101 : decode cX8_against 101 = .ok (.ireturn, 1) := by decide +kernel
theorem dX8_against_102 : decode cX8_against 102 = .ok (.aload_n 0, 1) := by decide +kernel
theorem dX8_against_103 : decode cX8_against 103 = .ok (.getfield 62, 3) := by decide +kernel
theorem dX8_against_106 : decode cX8_against 106 = .ok (.iload 4, 2) := by decide +kernel
theorem dX8_against_108 : decode cX8_against 108 = .ok (.invokevirtual 200, 3) := by decide +kernel
theorem dX8_against_111 : decode cX8_against 111 = .ok (.ireturn, 1) := by decide +kernel
theorem dX8_against_112 : decode cX8_against 112 = .ok (.aload_n 0, 1) := by decide +kernel
theorem dX8_against_113 : decode cX8_against 113 = .ok (.getfield 62, 3) := by decide +kernel
theorem dX8_against_116 : decode cX8_against 116 = .ok (.iload 4, 2) := by decide +kernel
theorem dX8_against_118 : decode cX8_against 118 = .ok (.invokevirtual 201, 3) := by decide +kernel
theorem dX8_against_121 : decode cX8_against 121 = .ok (.ireturn, 1) := by decide +kernel
theorem dX8_against_122 : decode cX8_against 122 = .ok (.aload_n 0, 1) := by decide +kernel
theorem dX8_against_123 : decode cX8_against 123 = .ok (.getfield 62, 3) := by decide +kernel
theorem dX8_against_126 : decode cX8_against 126 = .ok (.iload 4, 2) := by decide +kernel
theorem dX8_against_128 : decode cX8_against 128 = .ok (.iload_n 3, 1) := by decide +kernel
theorem dX8_against_129 : decode cX8_against 129 = .ok (.invokevirtual 202, 3) := by decide +kernel
theorem dX8_against_132 : decode cX8_against 132 = .ok (.ireturn, 1) := by decide +kernel
theorem dX8_count_0 : decode cX8_count 0 = .ok (.iload_n 1, 1) := by decide +kernel
theorem dX8_count_1 : decode cX8_count 1 = .ok (.bipush 10, 2) := by decide +kernel
theorem dX8_count_3 : decode cX8_count 3 = .ok (.isub, 1) := by decide +kernel
theorem dX8_count_4 : decode cX8_count 4 = .ok (.istore_n 2, 1) := by decide +kernel
theorem dX8_count_5 : decode cX8_count 5 = .ok (.iload_n 1, 1) := by decide +kernel
theorem dX8_count_6 : decode cX8_count 6 = .ok (.bipush 10, 2) := by decide +kernel
theorem dX8_count_8 : decode cX8_count 8 = .ok (.if_icmp .lt 20, 3) := by decide +kernel
theorem dX8_count_11 : decode cX8_count 11 = .ok (.iload_n 1, 1) := by decide +kernel
theorem dX8_count_12 : decode cX8_count 12 = .ok (.bipush 19, 2) := by decide +kernel
theorem dX8_count_14 : decode cX8_count 14 = .ok (.if_icmp .ge 14, 3) := by decide +kernel
theorem dX8_count_17 : decode cX8_count 17 = .ok (.aload_n 0, 1) := by decide +kernel
theorem dX8_count_18 : decode cX8_count 18 = .ok (.iload_n 2, 1) := by decide +kernel
theorem dX8_count_19 : decode cX8_count 19 = .ok (.iconst 3, 1) := by decide +kernel
theorem dX8_count_20 : decode cX8_count 20 = .ok (.idiv, 1) := by decide +kernel
theorem dX8_count_21 : decode cX8_count 21 = .ok (.iload_n 2, 1) := by decide +kernel
theorem dX8_count_22 : decode cX8_count 22 = .ok (.iconst 3, 1) := by decide +kernel
theorem dX8_count_23 : decode cX8_count 23 = .ok (.irem, 1) := by decide +kernel
theorem dX8_count_24 : decode cX8_count 24 = .ok (.invokevirtual 203, 3) := by decide +kernel
theorem dX8_count_27 : decode cX8_count 27 = .ok (.ireturn, 1) := by decide +kernel
theorem dX8_count_28 : decode cX8_count 28 = .ok (.iload_n 1, 1) := by decide +kernel
theorem dX8_count_29 : decode cX8_count 29 = .ok (.tableswitch 95 0 3 #[31, 55, 79, 87], 31) := by decide +kernel
theorem dX8_count_60 : decode cX8_count 60 = .ok (.aload_n 0, 1) := by decide +kernel
theorem dX8_count_61 : decode cX8_count 61 = .ok (.getfield 10, 3) := by decide +kernel
theorem dX8_count_64 : decode cX8_count 64 = .ok (.invokevirtual 115, 3) := by decide +kernel
theorem dX8_count_67 : decode cX8_count 67 = .ok (.aload_n 0, 1) := by decide +kernel
theorem dX8_count_68 : decode cX8_count 68 = .ok (.getfield 16, 3) := by decide +kernel
theorem dX8_count_71 : decode cX8_count 71 = .ok (.invokevirtual 115, 3) := by decide +kernel
theorem dX8_count_74 : decode cX8_count 74 = .ok (.iadd, 1) := by decide +kernel
theorem dX8_count_75 : decode cX8_count 75 = .ok (.aload_n 0, 1) := by decide +kernel
theorem dX8_count_76 : decode cX8_count 76 = .ok (.getfield 19, 3) := by decide +kernel
theorem dX8_count_79 : decode cX8_count 79 = .ok (.invokevirtual 115, 3) := by decide +kernel
theorem dX8_count_82 : decode cX8_count 82 = .ok (.iadd, 1) := by decide +kernel
theorem dX8_count_83 : decode cX8_count 83 = .ok (.ireturn, 1) := by decide +kernel
theorem dX8_count_84 : decode cX8_count 84 = .ok (.aload_n 0, 1) := by decide +kernel
theorem dX8_count_85 : decode cX8_count 85 = .ok (.getfield 10, 3) := by decide +kernel
theorem dX8_count_88 : decode cX8_count 88 = .ok (.invokevirtual 206, 3) := by decide +kernel
theorem dX8_count_91 : decode cX8_count 91 = .ok (.aload_n 0, 1) := by decide +kernel
theorem dX8_count_92 : decode cX8_count 92 = .ok (.getfield 16, 3) := by decide +kernel
theorem dX8_count_95 : decode cX8_count 95 = .ok (.invokevirtual 206, 3) := by decide +kernel
theorem dX8_count_98 : decode cX8_count 98 = .ok (.iadd, 1) := by decide +kernel
theorem dX8_count_99 : decode cX8_count 99 = .ok (.aload_n 0, 1) := by decide +kernel
theorem dX8_count_100 : decode cX8_count 100 = .ok (.getfield 19, 3) := by decide +kernel
theorem dX8_count_103 : decode cX8_count 103 = .ok (.invokevirtual 206, 3) := by decide +kernel
theorem dX8_count_106 : decode cX8_count 106 = .ok (.iadd, 1) := by decide +kernel
theorem dX8_count_107 : decode cX8_count 107 = .ok (.ireturn, 1) := by decide +kernel
theorem dX8_count_108 : decode cX8_count 108 = .ok (.aload_n 0, 1) := by decide +kernel
theorem dX8_count_109 : decode cX8_count 109 = .ok (.getfield 25, 3) := by decide +kernel
theorem dX8_count_112 : decode cX8_count 112 = .ok (.invokevirtual 209, 3) := by decide +kernel
theorem dX8_count_115 : decode cX8_count 115 = .ok (.ireturn, 1) := by decide +kernel
theorem dX8_count_116 : decode cX8_count 116 = .ok (.aload_n 0, 1) := by decide +kernel
theorem dX8_count_117 : decode cX8_count 117 = .ok (.getfield 32, 3) := by decide +kernel
theorem dX8_count_120 : decode cX8_count 120 = .ok (.invokevirtual 210, 3) := by decide +kernel
theorem dX8_count_123 : decode cX8_count 123 = .ok (.ireturn, 1) := by decide +kernel
theorem dX8_count_124 : decode cX8_count 124 = .ok (.ldc 76, 2) := by decide +kernel
theorem dX8_count_126 : decode cX8_count 126 = .ok (.ireturn, 1) := by decide +kernel
theorem dX8_undo_0 : decode cX8_undo 0 = .ok (.aload_n 0, 1) := by decide +kernel
theorem dX8_undo_1 : decode cX8_undo 1 = .ok (.getfield 25, 3) := by decide +kernel
theorem dX8_undo_4 : decode cX8_undo 4 = .ok (.invokevirtual 209, 3) := by decide +kernel
theorem dX8_undo_7 : decode cX8_undo 7 = .ok (.ifCond .ne 6, 3) := by decide +kernel
theorem dX8_undo_10 : decode cX8_undo 10 = .ok (.ldc 111, 2) := by decide +kernel
theorem dX8_undo_12 : decode cX8_undo 12 = .ok (.ireturn, 1) := by decide +kernel
theorem dX8_undo_13 : decode cX8_undo 13 = .ok (.aload_n 0, 1) := by decide +kernel
theorem dX8_undo_14 : decode cX8_undo 14 = .ok (.getfield 25, 3) := by decide +kernel
theorem dX8_undo_17 : decode cX8_undo 17 = .ok (.aload_n 0, 1) := by decide +kernel
theorem dX8_undo_18 : decode cX8_undo 18 = .ok (.getfield 10, 3) := by decide +kernel
theorem dX8_undo_21 : decode cX8_undo 21 = .ok (.aload_n 0, 1) := by decide +kernel
theorem dX8_undo_22 : decode cX8_undo 22 = .ok (.getfield 16, 3) := by decide +kernel
theorem dX8_undo_25 : decode cX8_undo 25 = .ok (.aload_n 0, 1) := by decide +kernel
theorem dX8_undo_26 : decode cX8_undo 26 = .ok (.getfield 19, 3) := by decide +kernel
theorem dX8_undo_29 : decode cX8_undo 29 = .ok (.invokevirtual 213, 3) := by decide +kernel
theorem dX8_undo_32 : decode cX8_undo 32 = .ok (.aload_n 0, 1) := by decide +kernel
theorem dX8_undo_33 : decode cX8_undo 33 = .ok (.getfield 25, 3) := by decide +kernel
theorem dX8_undo_36 : decode cX8_undo 36 = .ok (.invokevirtual 209, 3) := by decide +kernel
theorem dX8_undo_39 : decode cX8_undo 39 = .ok (.ireturn, 1) := by decide +kernel
theorem dX8_type_0 : decode cX8_type 0 = .ok (.iload_n 1, 1) := by decide +kernel
theorem dX8_type_1 : decode cX8_type 1 = .ok (.bipush 32, 2) := by decide +kernel
theorem dX8_type_3 : decode cX8_type 3 = .ok (.if_icmp .lt 9, 3) := by decide +kernel
theorem dX8_type_6 : decode cX8_type 6 = .ok (.iload_n 1, 1) := by decide +kernel
theorem dX8_type_7 : decode cX8_type 7 = .ok (.bipush 126, 2) := by decide +kernel
theorem dX8_type_9 : decode cX8_type 9 = .ok (.if_icmp .le 6, 3) := by decide +kernel
theorem dX8_type_12 : decode cX8_type 12 = .ok (.ldc 76, 2) := by decide +kernel
theorem dX8_type_14 : decode cX8_type 14 = .ok (.ireturn, 1) := by decide +kernel
theorem dX8_type_15 : decode cX8_type 15 = .ok (.aload_n 0, 1) := by decide +kernel
theorem dX8_type_16 : decode cX8_type 16 = .ok (.getfield 32, 3) := by decide +kernel
theorem dX8_type_19 : decode cX8_type 19 = .ok (.invokevirtual 217, 3) := by decide +kernel
theorem dX8_type_22 : decode cX8_type 22 = .ok (.ifCond .eq 6, 3) := by decide +kernel
theorem dX8_type_25 : decode cX8_type 25 = .ok (.ldc 221, 2) := by decide +kernel
theorem dX8_type_27 : decode cX8_type 27 = .ok (.ireturn, 1) := by decide +kernel
theorem dX8_type_28 : decode cX8_type 28 = .ok (.aload_n 0, 1) := by decide +kernel
theorem dX8_type_29 : decode cX8_type 29 = .ok (.getfield 32, 3) := by decide +kernel
theorem dX8_type_32 : decode cX8_type 32 = .ok (.iload_n 1, 1) := by decide +kernel
theorem dX8_type_33 : decode cX8_type 33 = .ok (.invokevirtual 222, 3) := by decide +kernel
theorem dX8_type_36 : decode cX8_type 36 = .ok (.aload_n 0, 1) := by decide +kernel
theorem dX8_type_37 : decode cX8_type 37 = .ok (.getfield 32, 3) := by decide +kernel
theorem dX8_type_40 : decode cX8_type 40 = .ok (.invokevirtual 210, 3) := by decide +kernel
theorem dX8_type_43 : decode cX8_type 43 = .ok (.ireturn, 1) := by decide +kernel
theorem dX8_clearText_0 : decode cX8_clearText 0 = .ok (.aload_n 0, 1) := by decide +kernel
theorem dX8_clearText_1 : decode cX8_clearText 1 = .ok (.getfield 32, 3) := by decide +kernel
theorem dX8_clearText_4 : decode cX8_clearText 4 = .ok (.invokevirtual 210, 3) := by decide +kernel
theorem dX8_clearText_7 : decode cX8_clearText 7 = .ok (.istore_n 1, 1) := by decide +kernel
theorem dX8_clearText_8 : decode cX8_clearText 8 = .ok (.aload_n 0, 1) := by decide +kernel
theorem dX8_clearText_9 : decode cX8_clearText 9 = .ok (.getfield 32, 3) := by decide +kernel
theorem dX8_clearText_12 : decode cX8_clearText 12 = .ok (.invokevirtual 226, 3) := by decide +kernel
theorem dX8_clearText_15 : decode cX8_clearText 15 = .ok (.iload_n 1, 1) := by decide +kernel
theorem dX8_clearText_16 : decode cX8_clearText 16 = .ok (.ireturn, 1) := by decide +kernel
theorem dX8_fault_0 : decode cX8_fault 0 = .ok (.iload_n 1, 1) := by decide +kernel
theorem dX8_fault_1 : decode cX8_fault 1 = .ok (.ifCond .lt 8, 3) := by decide +kernel
theorem dX8_fault_4 : decode cX8_fault 4 = .ok (.iload_n 1, 1) := by decide +kernel
theorem dX8_fault_5 : decode cX8_fault 5 = .ok (.iconst 2, 1) := by decide +kernel
theorem dX8_fault_6 : decode cX8_fault 6 = .ok (.if_icmp .le 6, 3) := by decide +kernel
theorem dX8_fault_9 : decode cX8_fault 9 = .ok (.ldc 76, 2) := by decide +kernel
theorem dX8_fault_11 : decode cX8_fault 11 = .ok (.ireturn, 1) := by decide +kernel
theorem dX8_fault_12 : decode cX8_fault 12 = .ok (.aload_n 0, 1) := by decide +kernel
theorem dX8_fault_13 : decode cX8_fault 13 = .ok (.getfield 32, 3) := by decide +kernel
theorem dX8_fault_16 : decode cX8_fault 16 = .ok (.invokevirtual 229, 3) := by decide +kernel
theorem dX8_fault_19 : decode cX8_fault 19 = .ok (.aload_n 0, 1) := by decide +kernel
theorem dX8_fault_20 : decode cX8_fault 20 = .ok (.getfield 32, 3) := by decide +kernel
theorem dX8_fault_23 : decode cX8_fault 23 = .ok (.invokevirtual 232, 3) := by decide +kernel
theorem dX8_fault_26 : decode cX8_fault 26 = .ok (.ifCond .ne 6, 3) := by decide +kernel
theorem dX8_fault_29 : decode cX8_fault 29 = .ok (.ldc 151, 2) := by decide +kernel
theorem dX8_fault_31 : decode cX8_fault 31 = .ok (.ireturn, 1) := by decide +kernel
theorem dX8_fault_32 : decode cX8_fault 32 = .ok (.iload_n 1, 1) := by decide +kernel
theorem dX8_fault_33 : decode cX8_fault 33 = .ok (.lookupswitch 43 #[(0, 27), (1, 35)], 27) := by decide +kernel
theorem dX8_fault_60 : decode cX8_fault 60 = .ok (.aload_n 0, 1) := by decide +kernel
theorem dX8_fault_61 : decode cX8_fault 61 = .ok (.getfield 32, 3) := by decide +kernel
theorem dX8_fault_64 : decode cX8_fault 64 = .ok (.invokevirtual 235, 3) := by decide +kernel
theorem dX8_fault_67 : decode cX8_fault 67 = .ok (.ireturn, 1) := by decide +kernel
theorem dX8_fault_68 : decode cX8_fault 68 = .ok (.aload_n 0, 1) := by decide +kernel
theorem dX8_fault_69 : decode cX8_fault 69 = .ok (.getfield 32, 3) := by decide +kernel
theorem dX8_fault_72 : decode cX8_fault 72 = .ok (.invokevirtual 238, 3) := by decide +kernel
theorem dX8_fault_75 : decode cX8_fault 75 = .ok (.ireturn, 1) := by decide +kernel
theorem dX8_fault_76 : decode cX8_fault 76 = .ok (.aload_n 0, 1) := by decide +kernel
theorem dX8_fault_77 : decode cX8_fault 77 = .ok (.getfield 32, 3) := by decide +kernel
theorem dX8_fault_80 : decode cX8_fault 80 = .ok (.invokevirtual 241, 3) := by decide +kernel
theorem dX8_fault_83 : decode cX8_fault 83 = .ok (.invokestatic 131, 3) := by decide +kernel
theorem dX8_fault_86 : decode cX8_fault 86 = .ok (.ireturn, 1) := by decide +kernel
theorem dX8_read_0 : decode cX8_read 0 = .ok (.iload_n 1, 1) := by decide +kernel
theorem dX8_read_1 : decode cX8_read 1 = .ok (.invokestatic 66, 3) := by decide +kernel
theorem dX8_read_4 : decode cX8_read 4 = .ok (.ifCond .ne 6, 3) := by decide +kernel
theorem dX8_read_7 : decode cX8_read 7 = .ok (.ldc 76, 2) := by decide +kernel
theorem dX8_read_9 : decode cX8_read 9 = .ok (.ireturn, 1) := by decide +kernel
theorem dX8_read_10 : decode cX8_read 10 = .ok (.aload_n 0, 1) := by decide +kernel
theorem dX8_read_11 : decode cX8_read 11 = .ok (.getfield 32, 3) := by decide +kernel
theorem dX8_read_14 : decode cX8_read 14 = .ok (.invokevirtual 229, 3) := by decide +kernel
theorem dX8_read_17 : decode cX8_read 17 = .ok (.aload_n 0, 1) := by decide +kernel
theorem dX8_read_18 : decode cX8_read 18 = .ok (.getfield 32, 3) := by decide +kernel
theorem dX8_read_21 : decode cX8_read 21 = .ok (.invokevirtual 232, 3) := by decide +kernel
theorem dX8_read_24 : decode cX8_read 24 = .ok (.ifCond .eq 6, 3) := by decide +kernel
theorem dX8_read_27 : decode cX8_read 27 = .ok (.ldc 111, 2) := by decide +kernel
theorem dX8_read_29 : decode cX8_read 29 = .ok (.ireturn, 1) := by decide +kernel
theorem dX8_read_30 : decode cX8_read 30 = .ok (.aload_n 0, 1) := by decide +kernel
theorem dX8_read_31 : decode cX8_read 31 = .ok (.invokevirtual 77, 3) := by decide +kernel
theorem dX8_read_34 : decode cX8_read 34 = .ok (.aload_n 0, 1) := by decide +kernel
theorem dX8_read_35 : decode cX8_read 35 = .ok (.iload_n 1, 1) := by decide +kernel
theorem dX8_read_36 : decode cX8_read 36 = .ok (.invokevirtual 80, 3) := by decide +kernel
theorem dX8_read_39 : decode cX8_read 39 = .ok (.aload_n 0, 1) := by decide +kernel
theorem dX8_read_40 : decode cX8_read 40 = .ok (.getfield 32, 3) := by decide +kernel
theorem dX8_read_43 : decode cX8_read 43 = .ok (.invokevirtual 244, 3) := by decide +kernel
theorem dX8_read_46 : decode cX8_read 46 = .ok (.invokevirtual 112, 3) := by decide +kernel
theorem dX8_read_49 : decode cX8_read 49 = .ok (.aload_n 0, 1) := by decide +kernel
theorem dX8_read_50 : decode cX8_read 50 = .ok (.getfield 32, 3) := by decide +kernel
theorem dX8_read_53 : decode cX8_read 53 = .ok (.invokevirtual 248, 3) := by decide +kernel
theorem dX8_read_56 : decode cX8_read 56 = .ok (.ireturn, 1) := by decide +kernel
theorem dX8_remember_0 : decode cX8_remember 0 = .ok (.aload_n 0, 1) := by decide +kernel
theorem dX8_remember_1 : decode cX8_remember 1 = .ok (.getfield 25, 3) := by decide +kernel
theorem dX8_remember_4 : decode cX8_remember 4 = .ok (.aload_n 0, 1) := by decide +kernel
theorem dX8_remember_5 : decode cX8_remember 5 = .ok (.getfield 10, 3) := by decide +kernel
theorem dX8_remember_8 : decode cX8_remember 8 = .ok (.aload_n 0, 1) := by decide +kernel
theorem dX8_remember_9 : decode cX8_remember 9 = .ok (.getfield 16, 3) := by decide +kernel
theorem dX8_remember_12 : decode cX8_remember 12 = .ok (.aload_n 0, 1) := by decide +kernel
theorem dX8_remember_13 : decode cX8_remember 13 = .ok (.getfield 19, 3) := by decide +kernel
theorem dX8_remember_16 : decode cX8_remember 16 = .ok (.invokevirtual 251, 3) := by decide +kernel
theorem dX8_remember_19 : decode cX8_remember 19 = .ok (.return_, 1) := by decide +kernel
theorem dX8_planAt_0 : decode cX8_planAt 0 = .ok (.iload_n 1, 1) := by decide +kernel
theorem dX8_planAt_1 : decode cX8_planAt 1 = .ok (.ifCond .ne 10, 3) := by decide +kernel
theorem dX8_planAt_4 : decode cX8_planAt 4 = .ok (.aload_n 0, 1) := by decide +kernel
theorem dX8_planAt_5 : decode cX8_planAt 5 = .ok (.getfield 10, 3) := by decide +kernel
theorem dX8_planAt_8 : decode cX8_planAt 8 = .ok (.goto 19, 3) := by decide +kernel
theorem dX8_planAt_11 : decode cX8_planAt 11 = .ok (.iload_n 1, 1) := by decide +kernel
theorem dX8_planAt_12 : decode cX8_planAt 12 = .ok (.iconst 1, 1) := by decide +kernel
theorem dX8_planAt_13 : decode cX8_planAt 13 = .ok (.if_icmp .ne 10, 3) := by decide +kernel
theorem dX8_planAt_16 : decode cX8_planAt 16 = .ok (.aload_n 0, 1) := by decide +kernel
theorem dX8_planAt_17 : decode cX8_planAt 17 = .ok (.getfield 16, 3) := by decide +kernel
theorem dX8_planAt_20 : decode cX8_planAt 20 = .ok (.goto 7, 3) := by decide +kernel
theorem dX8_planAt_23 : decode cX8_planAt 23 = .ok (.aload_n 0, 1) := by decide +kernel
theorem dX8_planAt_24 : decode cX8_planAt 24 = .ok (.getfield 19, 3) := by decide +kernel
theorem dX8_planAt_27 : decode cX8_planAt 27 = .ok (.areturn, 1) := by decide +kernel
theorem dX8_isPlan_0 : decode cX8_isPlan 0 = .ok (.iload_n 0, 1) := by decide +kernel
theorem dX8_isPlan_1 : decode cX8_isPlan 1 = .ok (.ifCond .lt 12, 3) := by decide +kernel
theorem dX8_isPlan_4 : decode cX8_isPlan 4 = .ok (.iload_n 0, 1) := by decide +kernel
theorem dX8_isPlan_5 : decode cX8_isPlan 5 = .ok (.iconst 3, 1) := by decide +kernel
theorem dX8_isPlan_6 : decode cX8_isPlan 6 = .ok (.if_icmp .ge 7, 3) := by decide +kernel
theorem dX8_isPlan_9 : decode cX8_isPlan 9 = .ok (.iconst 1, 1) := by decide +kernel
theorem dX8_isPlan_10 : decode cX8_isPlan 10 = .ok (.goto 4, 3) := by decide +kernel
theorem dX8_isPlan_13 : decode cX8_isPlan 13 = .ok (.iconst 0, 1) := by decide +kernel
theorem dX8_isPlan_14 : decode cX8_isPlan 14 = .ok (.ireturn, 1) := by decide +kernel
theorem dX8_isState_0 : decode cX8_isState 0 = .ok (.iload_n 0, 1) := by decide +kernel
theorem dX8_isState_1 : decode cX8_isState 1 = .ok (.ifCond .lt 13, 3) := by decide +kernel
theorem dX8_isState_4 : decode cX8_isState 4 = .ok (.iload_n 0, 1) := by decide +kernel
theorem dX8_isState_5 : decode cX8_isState 5 = .ok (.bipush 8, 2) := by decide +kernel
theorem dX8_isState_7 : decode cX8_isState 7 = .ok (.if_icmp .ge 7, 3) := by decide +kernel
theorem dX8_isState_10 : decode cX8_isState 10 = .ok (.iconst 1, 1) := by decide +kernel
theorem dX8_isState_11 : decode cX8_isState 11 = .ok (.goto 4, 3) := by decide +kernel
theorem dX8_isState_14 : decode cX8_isState 14 = .ok (.iconst 0, 1) := by decide +kernel
theorem dX8_isState_15 : decode cX8_isState 15 = .ok (.ireturn, 1) := by decide +kernel
theorem dX8_isWord_0 : decode cX8_isWord 0 = .ok (.iload_n 0, 1) := by decide +kernel
theorem dX8_isWord_1 : decode cX8_isWord 1 = .ok (.ifCond .lt 13, 3) := by decide +kernel
theorem dX8_isWord_4 : decode cX8_isWord 4 = .ok (.iload_n 0, 1) := by decide +kernel
theorem dX8_isWord_5 : decode cX8_isWord 5 = .ok (.bipush 6, 2) := by decide +kernel
theorem dX8_isWord_7 : decode cX8_isWord 7 = .ok (.if_icmp .ge 7, 3) := by decide +kernel
theorem dX8_isWord_10 : decode cX8_isWord 10 = .ok (.iconst 1, 1) := by decide +kernel
theorem dX8_isWord_11 : decode cX8_isWord 11 = .ok (.goto 4, 3) := by decide +kernel
theorem dX8_isWord_14 : decode cX8_isWord 14 = .ok (.iconst 0, 1) := by decide +kernel
theorem dX8_isWord_15 : decode cX8_isWord 15 = .ok (.ireturn, 1) := by decide +kernel
theorem dX8_isKind_0 : decode cX8_isKind 0 = .ok (.iload_n 0, 1) := by decide +kernel
theorem dX8_isKind_1 : decode cX8_isKind 1 = .ok (.ifCond .lt 12, 3) := by decide +kernel
theorem dX8_isKind_4 : decode cX8_isKind 4 = .ok (.iload_n 0, 1) := by decide +kernel
theorem dX8_isKind_5 : decode cX8_isKind 5 = .ok (.iconst 2, 1) := by decide +kernel
theorem dX8_isKind_6 : decode cX8_isKind 6 = .ok (.if_icmp .gt 7, 3) := by decide +kernel
theorem dX8_isKind_9 : decode cX8_isKind 9 = .ok (.iconst 1, 1) := by decide +kernel
theorem dX8_isKind_10 : decode cX8_isKind 10 = .ok (.goto 4, 3) := by decide +kernel
theorem dX8_isKind_13 : decode cX8_isKind 13 = .ok (.iconst 0, 1) := by decide +kernel
theorem dX8_isKind_14 : decode cX8_isKind 14 = .ok (.ireturn, 1) := by decide +kernel
theorem dX8_isPairQuestion_0 : decode cX8_isPairQuestion 0 = .ok (.iload_n 0, 1) := by decide +kernel
theorem dX8_isPairQuestion_1 : decode cX8_isPairQuestion 1 = .ok (.ifCond .lt 8, 3) := by decide +kernel
theorem dX8_isPairQuestion_4 : decode cX8_isPairQuestion 4 = .ok (.iload_n 0, 1) := by decide +kernel
theorem dX8_isPairQuestion_5 : decode cX8_isPairQuestion 5 = .ok (.iconst 4, 1) := by decide +kernel
theorem dX8_isPairQuestion_6 : decode cX8_isPairQuestion 6 = .ok (.if_icmp .le 15, 3) := by decide +kernel
theorem dX8_isPairQuestion_9 : decode cX8_isPairQuestion 9 = .ok (.iload_n 0, 1) := by decide +kernel
theorem dX8_isPairQuestion_10 : decode cX8_isPairQuestion 10 = .ok (.bipush 10, 2) := by decide +kernel
theorem dX8_isPairQuestion_12 : decode cX8_isPairQuestion 12 = .ok (.if_icmp .lt 13, 3) := by decide +kernel
theorem dX8_isPairQuestion_15 : decode cX8_isPairQuestion 15 = .ok (.iload_n 0, 1) := by decide +kernel
theorem dX8_isPairQuestion_16 : decode cX8_isPairQuestion 16 = .ok (.bipush 74, 2) := by decide +kernel
theorem dX8_isPairQuestion_18 : decode cX8_isPairQuestion 18 = .ok (.if_icmp .ge 7, 3) := by decide +kernel
theorem dX8_isPairQuestion_21 : decode cX8_isPairQuestion 21 = .ok (.iconst 1, 1) := by decide +kernel
theorem dX8_isPairQuestion_22 : decode cX8_isPairQuestion 22 = .ok (.goto 4, 3) := by decide +kernel
theorem dX8_isPairQuestion_25 : decode cX8_isPairQuestion 25 = .ok (.iconst 0, 1) := by decide +kernel
theorem dX8_isPairQuestion_26 : decode cX8_isPairQuestion 26 = .ok (.ireturn, 1) := by decide +kernel
theorem dX8_foundOr_0 : decode cX8_foundOr 0 = .ok (.iload_n 0, 1) := by decide +kernel
theorem dX8_foundOr_1 : decode cX8_foundOr 1 = .ok (.iconst (-1), 1) := by decide +kernel
theorem dX8_foundOr_2 : decode cX8_foundOr 2 = .ok (.if_icmp .ne 8, 3) := by decide +kernel
theorem dX8_foundOr_5 : decode cX8_foundOr 5 = .ok (.ldc 151, 2) := by decide +kernel
theorem dX8_foundOr_7 : decode cX8_foundOr 7 = .ok (.goto 4, 3) := by decide +kernel
theorem dX8_foundOr_10 : decode cX8_foundOr 10 = .ok (.iload_n 0, 1) := by decide +kernel
theorem dX8_foundOr_11 : decode cX8_foundOr 11 = .ok (.ireturn, 1) := by decide +kernel
theorem dX8_holds_0 : decode cX8_holds 0 = .ok (.iload_n 0, 1) := by decide +kernel
theorem dX8_holds_1 : decode cX8_holds 1 = .ok (.iload_n 1, 1) := by decide +kernel
theorem dX8_holds_2 : decode cX8_holds 2 = .ok (.ishr, 1) := by decide +kernel
theorem dX8_holds_3 : decode cX8_holds 3 = .ok (.iconst 1, 1) := by decide +kernel
theorem dX8_holds_4 : decode cX8_holds 4 = .ok (.iand, 1) := by decide +kernel
theorem dX8_holds_5 : decode cX8_holds 5 = .ok (.iconst 1, 1) := by decide +kernel
theorem dX8_holds_6 : decode cX8_holds 6 = .ok (.if_icmp .ne 7, 3) := by decide +kernel
theorem dX8_holds_9 : decode cX8_holds 9 = .ok (.iconst 1, 1) := by decide +kernel
theorem dX8_holds_10 : decode cX8_holds 10 = .ok (.goto 4, 3) := by decide +kernel
theorem dX8_holds_13 : decode cX8_holds 13 = .ok (.iconst 0, 1) := by decide +kernel
theorem dX8_holds_14 : decode cX8_holds 14 = .ok (.ireturn, 1) := by decide +kernel
theorem dX8_firstWordIn_0 : decode cX8_firstWordIn 0 = .ok (.iconst 0, 1) := by decide +kernel
theorem dX8_firstWordIn_1 : decode cX8_firstWordIn 1 = .ok (.istore_n 1, 1) := by decide +kernel
theorem dX8_firstWordIn_2 : decode cX8_firstWordIn 2 = .ok (.iload_n 1, 1) := by decide +kernel
theorem dX8_firstWordIn_3 : decode cX8_firstWordIn 3 = .ok (.bipush 6, 2) := by decide +kernel
theorem dX8_firstWordIn_5 : decode cX8_firstWordIn 5 = .ok (.if_icmp .ge 19, 3) := by decide +kernel
theorem dX8_firstWordIn_8 : decode cX8_firstWordIn 8 = .ok (.iload_n 0, 1) := by decide +kernel
theorem dX8_firstWordIn_9 : decode cX8_firstWordIn 9 = .ok (.iload_n 1, 1) := by decide +kernel
theorem dX8_firstWordIn_10 : decode cX8_firstWordIn 10 = .ok (.invokestatic 134, 3) := by decide +kernel
theorem dX8_firstWordIn_13 : decode cX8_firstWordIn 13 = .ok (.ifCond .eq 5, 3) := by decide +kernel
theorem dX8_firstWordIn_16 : decode cX8_firstWordIn 16 = .ok (.iload_n 1, 1) := by decide +kernel
theorem dX8_firstWordIn_17 : decode cX8_firstWordIn 17 = .ok (.ireturn, 1) := by decide +kernel
theorem dX8_firstWordIn_18 : decode cX8_firstWordIn 18 = .ok (.iinc 1 1, 3) := by decide +kernel
theorem dX8_firstWordIn_21 : decode cX8_firstWordIn 21 = .ok (.goto (-19), 3) := by decide +kernel
theorem dX8_firstWordIn_24 : decode cX8_firstWordIn 24 = .ok (.iconst (-1), 1) := by decide +kernel
theorem dX8_firstWordIn_25 : decode cX8_firstWordIn 25 = .ok (.ireturn, 1) := by decide +kernel
theorem dX8_cellOf_0 : decode cX8_cellOf 0 = .ok (.iload_n 1, 1) := by decide +kernel
theorem dX8_cellOf_1 : decode cX8_cellOf 1 = .ok (.ifCond .lt 15, 3) := by decide +kernel
theorem dX8_cellOf_4 : decode cX8_cellOf 4 = .ok (.iload_n 1, 1) := by decide +kernel
theorem dX8_cellOf_5 : decode cX8_cellOf 5 = .ok (.aload_n 0, 1) := by decide +kernel
theorem dX8_cellOf_6 : decode cX8_cellOf 6 = .ok (.arraylength, 1) := by decide +kernel
theorem dX8_cellOf_7 : decode cX8_cellOf 7 = .ok (.if_icmp .ge 9, 3) := by decide +kernel
theorem dX8_cellOf_10 : decode cX8_cellOf 10 = .ok (.aload_n 0, 1) := by decide +kernel
theorem dX8_cellOf_11 : decode cX8_cellOf 11 = .ok (.iload_n 1, 1) := by decide +kernel
theorem dX8_cellOf_12 : decode cX8_cellOf 12 = .ok (.iaload, 1) := by decide +kernel
theorem dX8_cellOf_13 : decode cX8_cellOf 13 = .ok (.goto 4, 3) := by decide +kernel
theorem dX8_cellOf_16 : decode cX8_cellOf 16 = .ok (.iconst (-1), 1) := by decide +kernel
theorem dX8_cellOf_17 : decode cX8_cellOf 17 = .ok (.ireturn, 1) := by decide +kernel
theorem dX9_init_0 : decode cX9_init 0 = .ok (.aload_n 0, 1) := by decide +kernel
theorem dX9_init_1 : decode cX9_init 1 = .ok (.invokespecial 1, 3) := by decide +kernel
theorem dX9_init_4 : decode cX9_init 4 = .ok (.aload_n 0, 1) := by decide +kernel
theorem dX9_init_5 : decode cX9_init 5 = .ok (.sipush 168, 3) := by decide +kernel
theorem dX9_init_8 : decode cX9_init 8 = .ok (.newarray .int, 2) := by decide +kernel
theorem dX9_init_10 : decode cX9_init 10 = .ok (.putfield 7, 3) := by decide +kernel
theorem dX9_init_13 : decode cX9_init 13 = .ok (.aload_n 0, 1) := by decide +kernel
theorem dX9_init_14 : decode cX9_init 14 = .ok (.sipush 672, 3) := by decide +kernel
theorem dX9_init_17 : decode cX9_init 17 = .ok (.newarray .int, 2) := by decide +kernel
theorem dX9_init_19 : decode cX9_init 19 = .ok (.putfield 13, 3) := by decide +kernel
theorem dX9_init_22 : decode cX9_init 22 = .ok (.aload_n 0, 1) := by decide +kernel
theorem dX9_init_23 : decode cX9_init 23 = .ok (.bipush 80, 2) := by decide +kernel
theorem dX9_init_25 : decode cX9_init 25 = .ok (.newarray .char, 2) := by decide +kernel
theorem dX9_init_27 : decode cX9_init 27 = .ok (.putfield 16, 3) := by decide +kernel
theorem dX9_init_30 : decode cX9_init 30 = .ok (.aload_n 0, 1) := by decide +kernel
theorem dX9_init_31 : decode cX9_init 31 = .ok (.bipush 8, 2) := by decide +kernel
theorem dX9_init_33 : decode cX9_init 33 = .ok (.newarray .int, 2) := by decide +kernel
theorem dX9_init_35 : decode cX9_init 35 = .ok (.putfield 20, 3) := by decide +kernel
theorem dX9_init_38 : decode cX9_init 38 = .ok (.aload_n 0, 1) := by decide +kernel
theorem dX9_init_39 : decode cX9_init 39 = .ok (.bipush 64, 2) := by decide +kernel
theorem dX9_init_41 : decode cX9_init 41 = .ok (.newarray .int, 2) := by decide +kernel
theorem dX9_init_43 : decode cX9_init 43 = .ok (.putfield 23, 3) := by decide +kernel
theorem dX9_init_46 : decode cX9_init 46 = .ok (.aload_n 0, 1) := by decide +kernel
theorem dX9_init_47 : decode cX9_init 47 = .ok (.bipush 64, 2) := by decide +kernel
theorem dX9_init_49 : decode cX9_init 49 = .ok (.newarray .int, 2) := by decide +kernel
theorem dX9_init_51 : decode cX9_init 51 = .ok (.putfield 26, 3) := by decide +kernel
theorem dX9_init_54 : decode cX9_init 54 = .ok (.aload_n 0, 1) := by decide +kernel
theorem dX9_init_55 : decode cX9_init 55 = .ok (.bipush 64, 2) := by decide +kernel
theorem dX9_init_57 : decode cX9_init 57 = .ok (.newarray .int, 2) := by decide +kernel
theorem dX9_init_59 : decode cX9_init 59 = .ok (.putfield 29, 3) := by decide +kernel
theorem dX9_init_62 : decode cX9_init 62 = .ok (.aload_n 0, 1) := by decide +kernel
theorem dX9_init_63 : decode cX9_init 63 = .ok (.bipush 64, 2) := by decide +kernel
theorem dX9_init_65 : decode cX9_init 65 = .ok (.newarray .int, 2) := by decide +kernel
theorem dX9_init_67 : decode cX9_init 67 = .ok (.putfield 32, 3) := by decide +kernel
theorem dX9_init_70 : decode cX9_init 70 = .ok (.aload_n 0, 1) := by decide +kernel
theorem dX9_init_71 : decode cX9_init 71 = .ok (.bipush 64, 2) := by decide +kernel
theorem dX9_init_73 : decode cX9_init 73 = .ok (.newarray .int, 2) := by decide +kernel
theorem dX9_init_75 : decode cX9_init 75 = .ok (.putfield 35, 3) := by decide +kernel
theorem dX9_init_78 : decode cX9_init 78 = .ok (.aload_n 0, 1) := by decide +kernel
theorem dX9_init_79 : decode cX9_init 79 = .ok (.bipush 64, 2) := by decide +kernel
theorem dX9_init_81 : decode cX9_init 81 = .ok (.newarray .long, 2) := by decide +kernel
theorem dX9_init_83 : decode cX9_init 83 = .ok (.putfield 38, 3) := by decide +kernel
theorem dX9_init_86 : decode cX9_init 86 = .ok (.aload_n 0, 1) := by decide +kernel
theorem dX9_init_87 : decode cX9_init 87 = .ok (.bipush 64, 2) := by decide +kernel
theorem dX9_init_89 : decode cX9_init 89 = .ok (.newarray .boolean, 2) := by decide +kernel
theorem dX9_init_91 : decode cX9_init 91 = .ok (.putfield 42, 3) := by decide +kernel
theorem dX9_init_94 : decode cX9_init 94 = .ok (.aload_n 0, 1) := by decide +kernel
theorem dX9_init_95 : decode cX9_init 95 = .ok (.bipush 56, 2) := by decide +kernel
theorem dX9_init_97 : decode cX9_init 97 = .ok (.newarray .int, 2) := by decide +kernel
theorem dX9_init_99 : decode cX9_init 99 = .ok (.putfield 46, 3) := by decide +kernel
theorem dX9_init_102 : decode cX9_init 102 = .ok (.aload_n 0, 1) := by decide +kernel
theorem dX9_init_103 : decode cX9_init 103 = .ok (.bipush 40, 2) := by decide +kernel
theorem dX9_init_105 : decode cX9_init 105 = .ok (.newarray .int, 2) := by decide +kernel
theorem dX9_init_107 : decode cX9_init 107 = .ok (.putfield 49, 3) := by decide +kernel
theorem dX9_init_110 : decode cX9_init 110 = .ok (.aload_n 0, 1) := by decide +kernel
theorem dX9_init_111 : decode cX9_init 111 = .ok (.bipush 40, 2) := by decide +kernel
theorem dX9_init_113 : decode cX9_init 113 = .ok (.newarray .int, 2) := by decide +kernel
theorem dX9_init_115 : decode cX9_init 115 = .ok (.putfield 52, 3) := by decide +kernel
theorem dX9_init_118 : decode cX9_init 118 = .ok (.aload_n 0, 1) := by decide +kernel
theorem dX9_init_119 : decode cX9_init 119 = .ok (.iconst 0, 1) := by decide +kernel
theorem dX9_init_120 : decode cX9_init 120 = .ok (.putfield 55, 3) := by decide +kernel
theorem dX9_init_123 : decode cX9_init 123 = .ok (.return_, 1) := by decide +kernel
theorem dX9_in_0 : decode cX9_in 0 = .ok (.iload_n 0, 1) := by decide +kernel
theorem dX9_in_1 : decode cX9_in 1 = .ok (.iload_n 1, 1) := by decide +kernel
theorem dX9_in_2 : decode cX9_in 2 = .ok (.if_icmp .lt 12, 3) := by decide +kernel
theorem dX9_in_5 : decode cX9_in 5 = .ok (.iload_n 0, 1) := by decide +kernel
theorem dX9_in_6 : decode cX9_in 6 = .ok (.iload_n 2, 1) := by decide +kernel
theorem dX9_in_7 : decode cX9_in 7 = .ok (.if_icmp .gt 7, 3) := by decide +kernel
theorem dX9_in_10 : decode cX9_in 10 = .ok (.iconst 1, 1) := by decide +kernel
theorem dX9_in_11 : decode cX9_in 11 = .ok (.goto 4, 3) := by decide +kernel
theorem dX9_in_14 : decode cX9_in 14 = .ok (.iconst 0, 1) := by decide +kernel
theorem dX9_in_15 : decode cX9_in 15 = .ok (.ireturn, 1) := by decide +kernel
theorem dX9_isPlan_0 : decode cX9_isPlan 0 = .ok (.iload_n 0, 1) := by decide +kernel
theorem dX9_isPlan_1 : decode cX9_isPlan 1 = .ok (.iconst 0, 1) := by decide +kernel
theorem dX9_isPlan_2 : decode cX9_isPlan 2 = .ok (.iconst 2, 1) := by decide +kernel
theorem dX9_isPlan_3 : decode cX9_isPlan 3 = .ok (.invokestatic 59, 3) := by decide +kernel
theorem dX9_isPlan_6 : decode cX9_isPlan 6 = .ok (.ireturn, 1) := by decide +kernel
theorem dX9_isState_0 : decode cX9_isState 0 = .ok (.iload_n 0, 1) := by decide +kernel
theorem dX9_isState_1 : decode cX9_isState 1 = .ok (.iconst 0, 1) := by decide +kernel
theorem dX9_isState_2 : decode cX9_isState 2 = .ok (.bipush 7, 2) := by decide +kernel
theorem dX9_isState_4 : decode cX9_isState 4 = .ok (.invokestatic 59, 3) := by decide +kernel
theorem dX9_isState_7 : decode cX9_isState 7 = .ok (.ireturn, 1) := by decide +kernel
theorem dX9_isWord_0 : decode cX9_isWord 0 = .ok (.iload_n 0, 1) := by decide +kernel
theorem dX9_isWord_1 : decode cX9_isWord 1 = .ok (.iconst 0, 1) := by decide +kernel
theorem dX9_isWord_2 : decode cX9_isWord 2 = .ok (.iconst 5, 1) := by decide +kernel
theorem dX9_isWord_3 : decode cX9_isWord 3 = .ok (.invokestatic 59, 3) := by decide +kernel
theorem dX9_isWord_6 : decode cX9_isWord 6 = .ok (.ireturn, 1) := by decide +kernel
theorem dX9_kindOf_0 : decode cX9_kindOf 0 = .ok (.aload_n 0, 1) := by decide +kernel
theorem dX9_kindOf_1 : decode cX9_kindOf 1 = .ok (.getfield 7, 3) := by decide +kernel
theorem dX9_kindOf_4 : decode cX9_kindOf 4 = .ok (.bipush 56, 2) := by decide +kernel
theorem dX9_kindOf_6 : decode cX9_kindOf 6 = .ok (.iload_n 1, 1) := by decide +kernel
theorem dX9_kindOf_7 : decode cX9_kindOf 7 = .ok (.imul, 1) := by decide +kernel
theorem dX9_kindOf_8 : decode cX9_kindOf 8 = .ok (.bipush 7, 2) := by decide +kernel
theorem dX9_kindOf_10 : decode cX9_kindOf 10 = .ok (.iload_n 2, 1) := by decide +kernel
theorem dX9_kindOf_11 : decode cX9_kindOf 11 = .ok (.imul, 1) := by decide +kernel
theorem dX9_kindOf_12 : decode cX9_kindOf 12 = .ok (.iadd, 1) := by decide +kernel
theorem dX9_kindOf_13 : decode cX9_kindOf 13 = .ok (.iaload, 1) := by decide +kernel
theorem dX9_kindOf_14 : decode cX9_kindOf 14 = .ok (.ireturn, 1) := by decide +kernel
theorem dX9_placeOf_0 : decode cX9_placeOf 0 = .ok (.bipush 56, 2) := by decide +kernel
theorem dX9_placeOf_2 : decode cX9_placeOf 2 = .ok (.iload_n 0, 1) := by decide +kernel
theorem dX9_placeOf_3 : decode cX9_placeOf 3 = .ok (.imul, 1) := by decide +kernel
theorem dX9_placeOf_4 : decode cX9_placeOf 4 = .ok (.bipush 7, 2) := by decide +kernel
theorem dX9_placeOf_6 : decode cX9_placeOf 6 = .ok (.iload_n 1, 1) := by decide +kernel
theorem dX9_placeOf_7 : decode cX9_placeOf 7 = .ok (.imul, 1) := by decide +kernel
theorem dX9_placeOf_8 : decode cX9_placeOf 8 = .ok (.iadd, 1) := by decide +kernel
theorem dX9_placeOf_9 : decode cX9_placeOf 9 = .ok (.iconst 1, 1) := by decide +kernel
theorem dX9_placeOf_10 : decode cX9_placeOf 10 = .ok (.iadd, 1) := by decide +kernel
theorem dX9_placeOf_11 : decode cX9_placeOf 11 = .ok (.iload_n 2, 1) := by decide +kernel
theorem dX9_placeOf_12 : decode cX9_placeOf 12 = .ok (.iadd, 1) := by decide +kernel
theorem dX9_placeOf_13 : decode cX9_placeOf 13 = .ok (.ireturn, 1) := by decide +kernel
theorem dX9_led_0 : decode cX9_led 0 = .ok (.aload_n 0, 1) := by decide +kernel
theorem dX9_led_1 : decode cX9_led 1 = .ok (.getfield 7, 3) := by decide +kernel
theorem dX9_led_4 : decode cX9_led 4 = .ok (.iload_n 1, 1) := by decide +kernel
theorem dX9_led_5 : decode cX9_led 5 = .ok (.iload_n 2, 1) := by decide +kernel
theorem dX9_led_6 : decode cX9_led 6 = .ok (.iload_n 3, 1) := by decide +kernel
theorem dX9_led_7 : decode cX9_led 7 = .ok (.invokestatic 63, 3) := by decide +kernel
theorem dX9_led_10 : decode cX9_led 10 = .ok (.iaload, 1) := by decide +kernel
theorem dX9_led_11 : decode cX9_led 11 = .ok (.iconst 1, 1) := by decide +kernel
theorem dX9_led_12 : decode cX9_led 12 = .ok (.isub, 1) := by decide +kernel
theorem dX9_led_13 : decode cX9_led 13 = .ok (.ireturn, 1) := by decide +kernel
theorem dX9_leads_0 : decode cX9_leads 0 = .ok (.aload_n 0, 1) := by decide +kernel
theorem dX9_leads_1 : decode cX9_leads 1 = .ok (.iload_n 1, 1) := by decide +kernel
theorem dX9_leads_2 : decode cX9_leads 2 = .ok (.iload_n 2, 1) := by decide +kernel
theorem dX9_leads_3 : decode cX9_leads 3 = .ok (.invokevirtual 67, 3) := by decide +kernel
theorem dX9_leads_6 : decode cX9_leads 6 = .ok (.ifCond .ne 7, 3) := by decide +kernel
theorem dX9_leads_9 : decode cX9_leads 9 = .ok (.iconst (-1), 1) := by decide +kernel
theorem dX9_leads_10 : decode cX9_leads 10 = .ok (.goto 10, 3) := by decide +kernel
theorem dX9_leads_13 : decode cX9_leads 13 = .ok (.aload_n 0, 1) := by decide +kernel
theorem dX9_leads_14 : decode cX9_leads 14 = .ok (.iload_n 1, 1) := by decide +kernel
theorem dX9_leads_15 : decode cX9_leads 15 = .ok (.iload_n 2, 1) := by decide +kernel
theorem dX9_leads_16 : decode cX9_leads 16 = .ok (.iload_n 3, 1) := by decide +kernel
theorem dX9_leads_17 : decode cX9_leads 17 = .ok (.invokevirtual 71, 3) := by decide +kernel
theorem dX9_leads_20 : decode cX9_leads 20 = .ok (.ireturn, 1) := by decide +kernel
theorem dX9_records_0 : decode cX9_records 0 = .ok (.aload_n 0, 1) := by decide +kernel
theorem dX9_records_1 : decode cX9_records 1 = .ok (.getfield 55, 3) := by decide +kernel
theorem dX9_records_4 : decode cX9_records 4 = .ok (.iconst 4, 1) := by decide +kernel
theorem dX9_records_5 : decode cX9_records 5 = .ok (.if_icmp .ne 44, 3) := by decide +kernel
theorem dX9_records_8 : decode cX9_records 8 = .ok (.iconst 0, 1) := by decide +kernel
theorem dX9_records_9 : decode cX9_records 9 = .ok (.istore_n 1, 1) := by decide +kernel
theorem dX9_records_10 : decode cX9_records 10 = .ok (.iload_n 1, 1) := by decide +kernel
theorem dX9_records_11 : decode cX9_records 11 = .ok (.sipush 504, 3) := by decide +kernel
theorem dX9_records_14 : decode cX9_records 14 = .ok (.if_icmp .ge 25, 3) := by decide +kernel
theorem dX9_records_17 : decode cX9_records 17 = .ok (.aload_n 0, 1) := by decide +kernel
theorem dX9_records_18 : decode cX9_records 18 = .ok (.getfield 13, 3) := by decide +kernel
theorem dX9_records_21 : decode cX9_records 21 = .ok (.iload_n 1, 1) := by decide +kernel
theorem dX9_records_22 : decode cX9_records 22 = .ok (.aload_n 0, 1) := by decide +kernel
theorem dX9_records_23 : decode cX9_records 23 = .ok (.getfield 13, 3) := by decide +kernel
theorem dX9_records_26 : decode cX9_records 26 = .ok (.iload_n 1, 1) := by decide +kernel
theorem dX9_records_27 : decode cX9_records 27 = .ok (.sipush 168, 3) := by decide +kernel
theorem dX9_records_30 : decode cX9_records 30 = .ok (.iadd, 1) := by decide +kernel
theorem dX9_records_31 : decode cX9_records 31 = .ok (.iaload, 1) := by decide +kernel
theorem dX9_records_32 : decode cX9_records 32 = .ok (.iastore, 1) := by decide +kernel
theorem dX9_records_33 : decode cX9_records 33 = .ok (.iinc 1 1, 3) := by decide +kernel
theorem dX9_records_36 : decode cX9_records 36 = .ok (.goto (-26), 3) := by decide +kernel
theorem dX9_records_39 : decode cX9_records 39 = .ok (.aload_n 0, 1) := by decide +kernel
theorem dX9_records_40 : decode cX9_records 40 = .ok (.dup, 1) := by decide +kernel
theorem dX9_records_41 : decode cX9_records 41 = .ok (.getfield 55, 3) := by decide +kernel
theorem dX9_records_44 : decode cX9_records 44 = .ok (.iconst 1, 1) := by decide +kernel
theorem dX9_records_45 : decode cX9_records 45 = .ok (.isub, 1) := by decide +kernel
theorem dX9_records_46 : decode cX9_records 46 = .ok (.putfield 55, 3) := by decide +kernel
theorem dX9_records_49 : decode cX9_records 49 = .ok (.iconst 0, 1) := by decide +kernel
theorem dX9_records_50 : decode cX9_records 50 = .ok (.istore_n 1, 1) := by decide +kernel
theorem dX9_records_51 : decode cX9_records 51 = .ok (.iload_n 1, 1) := by decide +kernel
theorem dX9_records_52 : decode cX9_records 52 = .ok (.sipush 168, 3) := by decide +kernel
theorem dX9_records_55 : decode cX9_records 55 = .ok (.if_icmp .ge 30, 3) := by decide +kernel
theorem dX9_records_58 : decode cX9_records 58 = .ok (.aload_n 0, 1) := by decide +kernel
theorem dX9_records_59 : decode cX9_records 59 = .ok (.getfield 13, 3) := by decide +kernel
theorem dX9_records_62 : decode cX9_records 62 = .ok (.sipush 168, 3) := by decide +kernel
theorem dX9_records_65 : decode cX9_records 65 = .ok (.aload_n 0, 1) := by decide +kernel
theorem dX9_records_66 : decode cX9_records 66 = .ok (.getfield 55, 3) := by decide +kernel
theorem dX9_records_69 : decode cX9_records 69 = .ok (.imul, 1) := by decide +kernel
theorem dX9_records_70 : decode cX9_records 70 = .ok (.iload_n 1, 1) := by decide +kernel
theorem dX9_records_71 : decode cX9_records 71 = .ok (.iadd, 1) := by decide +kernel
theorem dX9_records_72 : decode cX9_records 72 = .ok (.aload_n 0, 1) := by decide +kernel
theorem dX9_records_73 : decode cX9_records 73 = .ok (.getfield 7, 3) := by decide +kernel
theorem dX9_records_76 : decode cX9_records 76 = .ok (.iload_n 1, 1) := by decide +kernel
theorem dX9_records_77 : decode cX9_records 77 = .ok (.iaload, 1) := by decide +kernel
theorem dX9_records_78 : decode cX9_records 78 = .ok (.iastore, 1) := by decide +kernel
theorem dX9_records_79 : decode cX9_records 79 = .ok (.iinc 1 1, 3) := by decide +kernel
theorem dX9_records_82 : decode cX9_records 82 = .ok (.goto (-31), 3) := by decide +kernel
theorem dX9_records_85 : decode cX9_records 85 = .ok (.aload_n 0, 1) := by decide +kernel
theorem dX9_records_86 : decode cX9_records 86 = .ok (.dup, 1) := by decide +kernel
theorem dX9_records_87 : decode cX9_records 87 = .ok (.getfield 55, 3) := by decide +kernel
theorem dX9_records_90 : decode cX9_records 90 = .ok (.iconst 1, 1) := by decide +kernel
theorem dX9_records_91 : decode cX9_records 91 = .ok (.iadd, 1) := by decide +kernel
theorem dX9_records_92 : decode cX9_records 92 = .ok (.putfield 55, 3) := by decide +kernel
theorem dX9_records_95 : decode cX9_records 95 = .ok (.return_, 1) := by decide +kernel
theorem dX9_kind_0 : decode cX9_kind 0 = .ok (.iload_n 1, 1) := by decide +kernel
theorem dX9_kind_1 : decode cX9_kind 1 = .ok (.invokestatic 74, 3) := by decide +kernel
theorem dX9_kind_4 : decode cX9_kind 4 = .ok (.ifCond .eq 19, 3) := by decide +kernel
theorem dX9_kind_7 : decode cX9_kind 7 = .ok (.iload_n 2, 1) := by decide +kernel
theorem dX9_kind_8 : decode cX9_kind 8 = .ok (.invokestatic 78, 3) := by decide +kernel
theorem dX9_kind_11 : decode cX9_kind 11 = .ok (.ifCond .eq 12, 3) := by decide +kernel
theorem dX9_kind_14 : decode cX9_kind 14 = .ok (.iload_n 3, 1) := by decide +kernel
theorem dX9_kind_15 : decode cX9_kind 15 = .ok (.iconst 0, 1) := by decide +kernel
theorem dX9_kind_16 : decode cX9_kind 16 = .ok (.iconst 2, 1) := by decide +kernel
theorem dX9_kind_17 : decode cX9_kind 17 = .ok (.invokestatic 59, 3) := by decide +kernel
theorem dX9_kind_20 : decode cX9_kind 20 = .ok (.ifCond .ne 6, 3) := by decide +kernel
theorem dX9_kind_23 : decode cX9_kind 23 = .ok (.ldc 81, 2) := by decide +kernel
theorem dX9_kind_25 : decode cX9_kind 25 = .ok (.ireturn, 1) := by decide +kernel
theorem dX9_kind_26 : decode cX9_kind 26 = .ok (.aload_n 0, 1) := by decide +kernel
theorem dX9_kind_27 : decode cX9_kind 27 = .ok (.invokevirtual 82, 3) := by decide +kernel
theorem dX9_kind_30 : decode cX9_kind 30 = .ok (.aload_n 0, 1) := by decide +kernel
theorem dX9_kind_31 : decode cX9_kind 31 = .ok (.iload_n 1, 1) := by decide +kernel
theorem dX9_kind_32 : decode cX9_kind 32 = .ok (.iload_n 2, 1) := by decide +kernel
theorem dX9_kind_33 : decode cX9_kind 33 = .ok (.invokevirtual 67, 3) := by decide +kernel
theorem dX9_kind_36 : decode cX9_kind 36 = .ok (.istore 4, 2) := by decide +kernel
theorem dX9_kind_38 : decode cX9_kind 38 = .ok (.aload_n 0, 1) := by decide +kernel
theorem dX9_kind_39 : decode cX9_kind 39 = .ok (.getfield 7, 3) := by decide +kernel
theorem dX9_kind_42 : decode cX9_kind 42 = .ok (.bipush 56, 2) := by decide +kernel
theorem dX9_kind_44 : decode cX9_kind 44 = .ok (.iload_n 1, 1) := by decide +kernel
theorem dX9_kind_45 : decode cX9_kind 45 = .ok (.imul, 1) := by decide +kernel
theorem dX9_kind_46 : decode cX9_kind 46 = .ok (.bipush 7, 2) := by decide +kernel
theorem dX9_kind_48 : decode cX9_kind 48 = .ok (.iload_n 2, 1) := by decide +kernel
theorem dX9_kind_49 : decode cX9_kind 49 = .ok (.imul, 1) := by decide +kernel
theorem dX9_kind_50 : decode cX9_kind 50 = .ok (.iadd, 1) := by decide +kernel
theorem dX9_kind_51 : decode cX9_kind 51 = .ok (.iload_n 3, 1) := by decide +kernel
theorem dX9_kind_52 : decode cX9_kind 52 = .ok (.iastore, 1) := by decide +kernel
theorem dX9_kind_53 : decode cX9_kind 53 = .ok (.iload 4, 2) := by decide +kernel
theorem dX9_kind_55 : decode cX9_kind 55 = .ok (.ireturn, 1) := by decide +kernel
theorem dX9_words_0 : decode cX9_words 0 = .ok (.iconst 0, 1) := by decide +kernel
theorem dX9_words_1 : decode cX9_words 1 = .ok (.istore_n 3, 1) := by decide +kernel
theorem dX9_words_2 : decode cX9_words 2 = .ok (.iconst 0, 1) := by decide +kernel
theorem dX9_words_3 : decode cX9_words 3 = .ok (.istore 4, 2) := by decide +kernel
theorem dX9_words_5 : decode cX9_words 5 = .ok (.iload 4, 2) := by decide +kernel
theorem dX9_words_7 : decode cX9_words 7 = .ok (.bipush 6, 2) := by decide +kernel
theorem dX9_words_9 : decode cX9_words 9 = .ok (.if_icmp .ge 31, 3) := by decide +kernel
theorem dX9_words_12 : decode cX9_words 12 = .ok (.iload_n 3, 1) := by decide +kernel
theorem dX9_words_13 : decode cX9_words 13 = .ok (.aload_n 0, 1) := by decide +kernel
theorem dX9_words_14 : decode cX9_words 14 = .ok (.iload_n 1, 1) := by decide +kernel
theorem dX9_words_15 : decode cX9_words 15 = .ok (.iload_n 2, 1) := by decide +kernel
theorem dX9_words_16 : decode cX9_words 16 = .ok (.iload 4, 2) := by decide +kernel
theorem dX9_words_18 : decode cX9_words 18 = .ok (.invokevirtual 71, 3) := by decide +kernel
theorem dX9_words_21 : decode cX9_words 21 = .ok (.ifCond .ge 7, 3) := by decide +kernel
theorem dX9_words_24 : decode cX9_words 24 = .ok (.iconst 0, 1) := by decide +kernel
theorem dX9_words_25 : decode cX9_words 25 = .ok (.goto 7, 3) := by decide +kernel
theorem dX9_words_28 : decode cX9_words 28 = .ok (.iconst 1, 1) := by decide +kernel
theorem dX9_words_29 : decode cX9_words 29 = .ok (.iload 4, 2) := by decide +kernel
theorem dX9_words_31 : decode cX9_words 31 = .ok (.ishl, 1) := by decide +kernel
theorem dX9_words_32 : decode cX9_words 32 = .ok (.ior, 1) := by decide +kernel
theorem dX9_words_33 : decode cX9_words 33 = .ok (.istore_n 3, 1) := by decide +kernel
theorem dX9_words_34 : decode cX9_words 34 = .ok (.iinc 4 1, 3) := by decide +kernel
theorem dX9_words_37 : decode cX9_words 37 = .ok (.goto (-32), 3) := by decide +kernel
theorem dX9_words_40 : decode cX9_words 40 = .ok (.iload_n 3, 1) := by decide +kernel
theorem dX9_words_41 : decode cX9_words 41 = .ok (.ireturn, 1) := by decide +kernel
theorem dX9_bits_0 : decode cX9_bits 0 = .ok (.iconst 0, 1) := by decide +kernel
theorem dX9_bits_1 : decode cX9_bits 1 = .ok (.istore_n 1, 1) := by decide +kernel
theorem dX9_bits_2 : decode cX9_bits 2 = .ok (.iload_n 0, 1) := by decide +kernel
theorem dX9_bits_3 : decode cX9_bits 3 = .ok (.istore_n 2, 1) := by decide +kernel
theorem dX9_bits_4 : decode cX9_bits 4 = .ok (.iload_n 2, 1) := by decide +kernel
theorem dX9_bits_5 : decode cX9_bits 5 = .ok (.ifCond .le 16, 3) := by decide +kernel
theorem dX9_bits_8 : decode cX9_bits 8 = .ok (.iload_n 1, 1) := by decide +kernel
theorem dX9_bits_9 : decode cX9_bits 9 = .ok (.iload_n 2, 1) := by decide +kernel
theorem dX9_bits_10 : decode cX9_bits 10 = .ok (.iconst 1, 1) := by decide +kernel
theorem dX9_bits_11 : decode cX9_bits 11 = .ok (.iand, 1) := by decide +kernel
theorem dX9_bits_12 : decode cX9_bits 12 = .ok (.iadd, 1) := by decide +kernel
theorem dX9_bits_13 : decode cX9_bits 13 = .ok (.istore_n 1, 1) := by decide +kernel
theorem dX9_bits_14 : decode cX9_bits 14 = .ok (.iload_n 2, 1) := by decide +kernel
theorem dX9_bits_15 : decode cX9_bits 15 = .ok (.iconst 1, 1) := by decide +kernel
theorem dX9_bits_16 : decode cX9_bits 16 = .ok (.ishr, 1) := by decide +kernel
theorem dX9_bits_17 : decode cX9_bits 17 = .ok (.istore_n 2, 1) := by decide +kernel
theorem dX9_bits_18 : decode cX9_bits 18 = .ok (.goto (-14), 3) := by decide +kernel
theorem dX9_bits_21 : decode cX9_bits 21 = .ok (.iload_n 1, 1) := by decide +kernel
theorem dX9_bits_22 : decode cX9_bits 22 = .ok (.ireturn, 1) := by decide +kernel
theorem dX9_arrow_0 : decode cX9_arrow 0 = .ok (.iload_n 1, 1) := by decide +kernel
theorem dX9_arrow_1 : decode cX9_arrow 1 = .ok (.invokestatic 74, 3) := by decide +kernel
theorem dX9_arrow_4 : decode cX9_arrow 4 = .ok (.ifCond .eq 25, 3) := by decide +kernel
theorem dX9_arrow_7 : decode cX9_arrow 7 = .ok (.iload_n 2, 1) := by decide +kernel
theorem dX9_arrow_8 : decode cX9_arrow 8 = .ok (.invokestatic 78, 3) := by decide +kernel
theorem dX9_arrow_11 : decode cX9_arrow 11 = .ok (.ifCond .eq 18, 3) := by decide +kernel
theorem dX9_arrow_14 : decode cX9_arrow 14 = .ok (.iload_n 3, 1) := by decide +kernel
theorem dX9_arrow_15 : decode cX9_arrow 15 = .ok (.invokestatic 85, 3) := by decide +kernel
theorem dX9_arrow_18 : decode cX9_arrow 18 = .ok (.ifCond .eq 11, 3) := by decide +kernel
theorem dX9_arrow_21 : decode cX9_arrow 21 = .ok (.iload 4, 2) := by decide +kernel
theorem dX9_arrow_23 : decode cX9_arrow 23 = .ok (.invokestatic 78, 3) := by decide +kernel
theorem dX9_arrow_26 : decode cX9_arrow 26 = .ok (.ifCond .ne 6, 3) := by decide +kernel
theorem dX9_arrow_29 : decode cX9_arrow 29 = .ok (.ldc 81, 2) := by decide +kernel
theorem dX9_arrow_31 : decode cX9_arrow 31 = .ok (.ireturn, 1) := by decide +kernel
theorem dX9_arrow_32 : decode cX9_arrow 32 = .ok (.aload_n 0, 1) := by decide +kernel
theorem dX9_arrow_33 : decode cX9_arrow 33 = .ok (.invokevirtual 82, 3) := by decide +kernel
theorem dX9_arrow_36 : decode cX9_arrow 36 = .ok (.aload_n 0, 1) := by decide +kernel
theorem dX9_arrow_37 : decode cX9_arrow 37 = .ok (.getfield 7, 3) := by decide +kernel
theorem dX9_arrow_40 : decode cX9_arrow 40 = .ok (.iload_n 1, 1) := by decide +kernel
theorem dX9_arrow_41 : decode cX9_arrow 41 = .ok (.iload_n 2, 1) := by decide +kernel
theorem dX9_arrow_42 : decode cX9_arrow 42 = .ok (.iload_n 3, 1) := by decide +kernel
theorem dX9_arrow_43 : decode cX9_arrow 43 = .ok (.invokestatic 63, 3) := by decide +kernel
theorem dX9_arrow_46 : decode cX9_arrow 46 = .ok (.iload 4, 2) := by decide +kernel
theorem dX9_arrow_48 : decode cX9_arrow 48 = .ok (.iconst 1, 1) := by decide +kernel
theorem dX9_arrow_49 : decode cX9_arrow 49 = .ok (.iadd, 1) := by decide +kernel
theorem dX9_arrow_50 : decode cX9_arrow 50 = .ok (.iastore, 1) := by decide +kernel
theorem dX9_arrow_51 : decode cX9_arrow 51 = .ok (.aload_n 0, 1) := by decide +kernel
theorem dX9_arrow_52 : decode cX9_arrow 52 = .ok (.iload_n 1, 1) := by decide +kernel
theorem dX9_arrow_53 : decode cX9_arrow 53 = .ok (.iload_n 2, 1) := by decide +kernel
theorem dX9_arrow_54 : decode cX9_arrow 54 = .ok (.invokevirtual 88, 3) := by decide +kernel
theorem dX9_arrow_57 : decode cX9_arrow 57 = .ok (.invokestatic 91, 3) := by decide +kernel
theorem dX9_arrow_60 : decode cX9_arrow 60 = .ok (.ireturn, 1) := by decide +kernel
theorem dX9_erase_0 : decode cX9_erase 0 = .ok (.iload_n 1, 1) := by decide +kernel
theorem dX9_erase_1 : decode cX9_erase 1 = .ok (.invokestatic 74, 3) := by decide +kernel
theorem dX9_erase_4 : decode cX9_erase 4 = .ok (.ifCond .eq 17, 3) := by decide +kernel
theorem dX9_erase_7 : decode cX9_erase 7 = .ok (.iload_n 2, 1) := by decide +kernel
theorem dX9_erase_8 : decode cX9_erase 8 = .ok (.invokestatic 78, 3) := by decide +kernel
theorem dX9_erase_11 : decode cX9_erase 11 = .ok (.ifCond .eq 10, 3) := by decide +kernel
theorem dX9_erase_14 : decode cX9_erase 14 = .ok (.iload_n 3, 1) := by decide +kernel
theorem dX9_erase_15 : decode cX9_erase 15 = .ok (.invokestatic 85, 3) := by decide +kernel
theorem dX9_erase_18 : decode cX9_erase 18 = .ok (.ifCond .ne 6, 3) := by decide +kernel
theorem dX9_erase_21 : decode cX9_erase 21 = .ok (.ldc 81, 2) := by decide +kernel
theorem dX9_erase_23 : decode cX9_erase 23 = .ok (.ireturn, 1) := by decide +kernel
theorem dX9_erase_24 : decode cX9_erase 24 = .ok (.aload_n 0, 1) := by decide +kernel
theorem dX9_erase_25 : decode cX9_erase 25 = .ok (.iload_n 1, 1) := by decide +kernel
theorem dX9_erase_26 : decode cX9_erase 26 = .ok (.iload_n 2, 1) := by decide +kernel
theorem dX9_erase_27 : decode cX9_erase 27 = .ok (.iload_n 3, 1) := by decide +kernel
theorem dX9_erase_28 : decode cX9_erase 28 = .ok (.invokevirtual 71, 3) := by decide +kernel
theorem dX9_erase_31 : decode cX9_erase 31 = .ok (.istore 4, 2) := by decide +kernel
theorem dX9_erase_33 : decode cX9_erase 33 = .ok (.iload 4, 2) := by decide +kernel
theorem dX9_erase_35 : decode cX9_erase 35 = .ok (.ifCond .ge 6, 3) := by decide +kernel
theorem dX9_erase_38 : decode cX9_erase 38 = .ok (.ldc 95, 2) := by decide +kernel
theorem dX9_erase_40 : decode cX9_erase 40 = .ok (.ireturn, 1) := by decide +kernel
theorem dX9_erase_41 : decode cX9_erase 41 = .ok (.aload_n 0, 1) := by decide +kernel
theorem dX9_erase_42 : decode cX9_erase 42 = .ok (.invokevirtual 82, 3) := by decide +kernel
theorem dX9_erase_45 : decode cX9_erase 45 = .ok (.aload_n 0, 1) := by decide +kernel
theorem dX9_erase_46 : decode cX9_erase 46 = .ok (.getfield 7, 3) := by decide +kernel
theorem dX9_erase_49 : decode cX9_erase 49 = .ok (.iload_n 1, 1) := by decide +kernel
theorem dX9_erase_50 : decode cX9_erase 50 = .ok (.iload_n 2, 1) := by decide +kernel
theorem dX9_erase_51 : decode cX9_erase 51 = .ok (.iload_n 3, 1) := by decide +kernel
theorem dX9_erase_52 : decode cX9_erase 52 = .ok (.invokestatic 63, 3) := by decide +kernel
theorem dX9_erase_55 : decode cX9_erase 55 = .ok (.iconst 0, 1) := by decide +kernel
theorem dX9_erase_56 : decode cX9_erase 56 = .ok (.iastore, 1) := by decide +kernel
theorem dX9_erase_57 : decode cX9_erase 57 = .ok (.iload 4, 2) := by decide +kernel
theorem dX9_erase_59 : decode cX9_erase 59 = .ok (.ireturn, 1) := by decide +kernel
theorem dX9_going_0 : decode cX9_going 0 = .ok (.iconst 0, 1) := by decide +kernel
theorem dX9_going_1 : decode cX9_going 1 = .ok (.istore_n 2, 1) := by decide +kernel
theorem dX9_going_2 : decode cX9_going 2 = .ok (.iconst 0, 1) := by decide +kernel
theorem dX9_going_3 : decode cX9_going 3 = .ok (.istore_n 3, 1) := by decide +kernel
theorem dX9_going_4 : decode cX9_going 4 = .ok (.iload_n 3, 1) := by decide +kernel
theorem dX9_going_5 : decode cX9_going 5 = .ok (.bipush 8, 2) := by decide +kernel
theorem dX9_going_7 : decode cX9_going 7 = .ok (.if_icmp .ge 26, 3) := by decide +kernel
theorem dX9_going_10 : decode cX9_going 10 = .ok (.iload_n 2, 1) := by decide +kernel
theorem dX9_going_11 : decode cX9_going 11 = .ok (.aload_n 0, 1) := by decide +kernel
theorem dX9_going_12 : decode cX9_going 12 = .ok (.iload_n 1, 1) := by decide +kernel
theorem dX9_going_13 : decode cX9_going 13 = .ok (.iload_n 3, 1) := by decide +kernel
theorem dX9_going_14 : decode cX9_going 14 = .ok (.invokevirtual 67, 3) := by decide +kernel
theorem dX9_going_17 : decode cX9_going 17 = .ok (.ifCond .ne 7, 3) := by decide +kernel
theorem dX9_going_20 : decode cX9_going 20 = .ok (.iconst 0, 1) := by decide +kernel
theorem dX9_going_21 : decode cX9_going 21 = .ok (.goto 4, 3) := by decide +kernel
theorem dX9_going_24 : decode cX9_going 24 = .ok (.iconst 1, 1) := by decide +kernel
theorem dX9_going_25 : decode cX9_going 25 = .ok (.iadd, 1) := by decide +kernel
theorem dX9_going_26 : decode cX9_going 26 = .ok (.istore_n 2, 1) := by decide +kernel
theorem dX9_going_27 : decode cX9_going 27 = .ok (.iinc 3 1, 3) := by decide +kernel
theorem dX9_going_30 : decode cX9_going 30 = .ok (.goto (-26), 3) := by decide +kernel
theorem dX9_going_33 : decode cX9_going 33 = .ok (.iload_n 2, 1) := by decide +kernel
theorem dX9_going_34 : decode cX9_going 34 = .ok (.ireturn, 1) := by decide +kernel
theorem dX9_copy_0 : decode cX9_copy 0 = .ok (.iload_n 1, 1) := by decide +kernel
theorem dX9_copy_1 : decode cX9_copy 1 = .ok (.invokestatic 74, 3) := by decide +kernel
theorem dX9_copy_4 : decode cX9_copy 4 = .ok (.ifCond .eq 15, 3) := by decide +kernel
theorem dX9_copy_7 : decode cX9_copy 7 = .ok (.iload_n 2, 1) := by decide +kernel
theorem dX9_copy_8 : decode cX9_copy 8 = .ok (.invokestatic 74, 3) := by decide +kernel
theorem dX9_copy_11 : decode cX9_copy 11 = .ok (.ifCond .eq 8, 3) := by decide +kernel
theorem dX9_copy_14 : decode cX9_copy 14 = .ok (.iload_n 1, 1) := by decide +kernel
theorem dX9_copy_15 : decode cX9_copy 15 = .ok (.iload_n 2, 1) := by decide +kernel
theorem dX9_copy_16 : decode cX9_copy 16 = .ok (.if_icmp .ne 6, 3) := by decide +kernel
theorem dX9_copy_19 : decode cX9_copy 19 = .ok (.ldc 81, 2) := by decide +kernel
theorem dX9_copy_21 : decode cX9_copy 21 = .ok (.ireturn, 1) := by decide +kernel
theorem dX9_copy_22 : decode cX9_copy 22 = .ok (.aload_n 0, 1) := by decide +kernel
theorem dX9_copy_23 : decode cX9_copy 23 = .ok (.invokevirtual 82, 3) := by decide +kernel
theorem dX9_copy_26 : decode cX9_copy 26 = .ok (.iconst 0, 1) := by decide +kernel
theorem dX9_copy_27 : decode cX9_copy 27 = .ok (.istore_n 3, 1) := by decide +kernel
theorem dX9_copy_28 : decode cX9_copy 28 = .ok (.iload_n 3, 1) := by decide +kernel
theorem dX9_copy_29 : decode cX9_copy 29 = .ok (.bipush 56, 2) := by decide +kernel
theorem dX9_copy_31 : decode cX9_copy 31 = .ok (.if_icmp .ge 31, 3) := by decide +kernel
theorem dX9_copy_34 : decode cX9_copy 34 = .ok (.aload_n 0, 1) := by decide +kernel
theorem dX9_copy_35 : decode cX9_copy 35 = .ok (.getfield 7, 3) := by decide +kernel
theorem dX9_copy_38 : decode cX9_copy 38 = .ok (.bipush 56, 2) := by decide +kernel
theorem dX9_copy_40 : decode cX9_copy 40 = .ok (.iload_n 2, 1) := by decide +kernel
theorem dX9_copy_41 : decode cX9_copy 41 = .ok (.imul, 1) := by decide +kernel
theorem dX9_copy_42 : decode cX9_copy 42 = .ok (.iload_n 3, 1) := by decide +kernel
theorem dX9_copy_43 : decode cX9_copy 43 = .ok (.iadd, 1) := by decide +kernel
theorem dX9_copy_44 : decode cX9_copy 44 = .ok (.aload_n 0, 1) := by decide +kernel
theorem dX9_copy_45 : decode cX9_copy 45 = .ok (.getfield 7, 3) := by decide +kernel
theorem dX9_copy_48 : decode cX9_copy 48 = .ok (.bipush 56, 2) := by decide +kernel
theorem dX9_copy_50 : decode cX9_copy 50 = .ok (.iload_n 1, 1) := by decide +kernel
theorem dX9_copy_51 : decode cX9_copy 51 = .ok (.imul, 1) := by decide +kernel
theorem dX9_copy_52 : decode cX9_copy 52 = .ok (.iload_n 3, 1) := by decide +kernel
theorem dX9_copy_53 : decode cX9_copy 53 = .ok (.iadd, 1) := by decide +kernel
theorem dX9_copy_54 : decode cX9_copy 54 = .ok (.iaload, 1) := by decide +kernel
theorem dX9_copy_55 : decode cX9_copy 55 = .ok (.iastore, 1) := by decide +kernel
theorem dX9_copy_56 : decode cX9_copy 56 = .ok (.iinc 3 1, 3) := by decide +kernel
theorem dX9_copy_59 : decode cX9_copy 59 = .ok (.goto (-31), 3) := by decide +kernel
theorem dX9_copy_62 : decode cX9_copy 62 = .ok (.aload_n 0, 1) := by decide +kernel
theorem dX9_copy_63 : decode cX9_copy 63 = .ok (.iload_n 1, 1) := by decide +kernel
theorem dX9_copy_64 : decode cX9_copy 64 = .ok (.invokevirtual 96, 3) := by decide +kernel
theorem dX9_copy_67 : decode cX9_copy 67 = .ok (.ireturn, 1) := by decide +kernel
theorem dX9_mirror_0 : decode cX9_mirror 0 = .ok (.iload_n 1, 1) := by decide +kernel
theorem dX9_mirror_1 : decode cX9_mirror 1 = .ok (.invokestatic 74, 3) := by decide +kernel
theorem dX9_mirror_4 : decode cX9_mirror 4 = .ok (.ifCond .ne 6, 3) := by decide +kernel
theorem dX9_mirror_7 : decode cX9_mirror 7 = .ok (.ldc 81, 2) := by decide +kernel
theorem dX9_mirror_9 : decode cX9_mirror 9 = .ok (.ireturn, 1) := by decide +kernel
theorem dX9_mirror_10 : decode cX9_mirror 10 = .ok (.aload_n 0, 1) := by decide +kernel
theorem dX9_mirror_11 : decode cX9_mirror 11 = .ok (.invokevirtual 82, 3) := by decide +kernel
theorem dX9_mirror_14 : decode cX9_mirror 14 = .ok (.iconst 0, 1) := by decide +kernel
theorem dX9_mirror_15 : decode cX9_mirror 15 = .ok (.istore_n 2, 1) := by decide +kernel
theorem dX9_mirror_16 : decode cX9_mirror 16 = .ok (.iload_n 2, 1) := by decide +kernel
theorem dX9_mirror_17 : decode cX9_mirror 17 = .ok (.bipush 8, 2) := by decide +kernel
theorem dX9_mirror_19 : decode cX9_mirror 19 = .ok (.if_icmp .ge 41, 3) := by decide +kernel
theorem dX9_mirror_22 : decode cX9_mirror 22 = .ok (.aload_n 0, 1) := by decide +kernel
theorem dX9_mirror_23 : decode cX9_mirror 23 = .ok (.iload_n 1, 1) := by decide +kernel
theorem dX9_mirror_24 : decode cX9_mirror 24 = .ok (.iload_n 2, 1) := by decide +kernel
theorem dX9_mirror_25 : decode cX9_mirror 25 = .ok (.invokevirtual 67, 3) := by decide +kernel
theorem dX9_mirror_28 : decode cX9_mirror 28 = .ok (.istore_n 3, 1) := by decide +kernel
theorem dX9_mirror_29 : decode cX9_mirror 29 = .ok (.aload_n 0, 1) := by decide +kernel
theorem dX9_mirror_30 : decode cX9_mirror 30 = .ok (.getfield 7, 3) := by decide +kernel
theorem dX9_mirror_33 : decode cX9_mirror 33 = .ok (.bipush 56, 2) := by decide +kernel
theorem dX9_mirror_35 : decode cX9_mirror 35 = .ok (.iload_n 1, 1) := by decide +kernel
theorem dX9_mirror_36 : decode cX9_mirror 36 = .ok (.imul, 1) := by decide +kernel
theorem dX9_mirror_37 : decode cX9_mirror 37 = .ok (.bipush 7, 2) := by decide +kernel
theorem dX9_mirror_39 : decode cX9_mirror 39 = .ok (.iload_n 2, 1) := by decide +kernel
theorem dX9_mirror_40 : decode cX9_mirror 40 = .ok (.imul, 1) := by decide +kernel
theorem dX9_mirror_41 : decode cX9_mirror 41 = .ok (.iadd, 1) := by decide +kernel
theorem dX9_mirror_42 : decode cX9_mirror 42 = .ok (.iload_n 3, 1) := by decide +kernel
theorem dX9_mirror_43 : decode cX9_mirror 43 = .ok (.ifCond .ne 7, 3) := by decide +kernel
theorem dX9_mirror_46 : decode cX9_mirror 46 = .ok (.iconst 0, 1) := by decide +kernel
theorem dX9_mirror_47 : decode cX9_mirror 47 = .ok (.goto 6, 3) := by decide +kernel
theorem dX9_mirror_50 : decode cX9_mirror 50 = .ok (.iconst 3, 1) := by decide +kernel
theorem dX9_mirror_51 : decode cX9_mirror 51 = .ok (.iload_n 3, 1) := by decide +kernel
theorem dX9_mirror_52 : decode cX9_mirror 52 = .ok (.isub, 1) := by decide +kernel
theorem dX9_mirror_53 : decode cX9_mirror 53 = .ok (.iastore, 1) := by decide +kernel
theorem dX9_mirror_54 : decode cX9_mirror 54 = .ok (.iinc 2 1, 3) := by decide +kernel
theorem dX9_mirror_57 : decode cX9_mirror 57 = .ok (.goto (-41), 3) := by decide +kernel
theorem dX9_mirror_60 : decode cX9_mirror 60 = .ok (.aload_n 0, 1) := by decide +kernel
theorem dX9_mirror_61 : decode cX9_mirror 61 = .ok (.iload_n 1, 1) := by decide +kernel
theorem dX9_mirror_62 : decode cX9_mirror 62 = .ok (.invokevirtual 96, 3) := by decide +kernel
theorem dX9_mirror_65 : decode cX9_mirror 65 = .ok (.ireturn, 1) := by decide +kernel
theorem dX9_haveSame_0 : decode cX9_haveSame 0 = .ok (.aload_n 0, 1) := by decide +kernel
theorem dX9_haveSame_1 : decode cX9_haveSame 1 = .ok (.iload_n 1, 1) := by decide +kernel
theorem dX9_haveSame_2 : decode cX9_haveSame 2 = .ok (.iload_n 2, 1) := by decide +kernel
theorem dX9_haveSame_3 : decode cX9_haveSame 3 = .ok (.invokevirtual 67, 3) := by decide +kernel
theorem dX9_haveSame_6 : decode cX9_haveSame 6 = .ok (.aload_n 0, 1) := by decide +kernel
theorem dX9_haveSame_7 : decode cX9_haveSame 7 = .ok (.iload_n 1, 1) := by decide +kernel
theorem dX9_haveSame_8 : decode cX9_haveSame 8 = .ok (.iload_n 3, 1) := by decide +kernel
theorem dX9_haveSame_9 : decode cX9_haveSame 9 = .ok (.invokevirtual 67, 3) := by decide +kernel
theorem dX9_haveSame_12 : decode cX9_haveSame 12 = .ok (.if_icmp .ne 7, 3) := by decide +kernel
theorem dX9_haveSame_15 : decode cX9_haveSame 15 = .ok (.iconst 1, 1) := by decide +kernel
theorem dX9_haveSame_16 : decode cX9_haveSame 16 = .ok (.goto 4, 3) := by decide +kernel
theorem dX9_haveSame_19 : decode cX9_haveSame 19 = .ok (.iconst 0, 1) := by decide +kernel
theorem dX9_haveSame_20 : decode cX9_haveSame 20 = .ok (.istore 4, 2) := by decide +kernel
theorem dX9_haveSame_22 : decode cX9_haveSame 22 = .ok (.iload 4, 2) := by decide +kernel
theorem dX9_haveSame_24 : decode cX9_haveSame 24 = .ok (.ifCond .eq 31, 3) := by decide +kernel
theorem dX9_haveSame_27 : decode cX9_haveSame 27 = .ok (.aload_n 0, 1) := by decide +kernel
theorem dX9_haveSame_28 : decode cX9_haveSame 28 = .ok (.iload_n 1, 1) := by decide +kernel
theorem dX9_haveSame_29 : decode cX9_haveSame 29 = .ok (.iload_n 2, 1) := by decide +kernel
theorem dX9_haveSame_30 : decode cX9_haveSame 30 = .ok (.invokevirtual 67, 3) := by decide +kernel
theorem dX9_haveSame_33 : decode cX9_haveSame 33 = .ok (.ifCond .eq 18, 3) := by decide +kernel
theorem dX9_haveSame_36 : decode cX9_haveSame 36 = .ok (.aload_n 0, 1) := by decide +kernel
theorem dX9_haveSame_37 : decode cX9_haveSame 37 = .ok (.iload_n 1, 1) := by decide +kernel
theorem dX9_haveSame_38 : decode cX9_haveSame 38 = .ok (.iload_n 2, 1) := by decide +kernel
theorem dX9_haveSame_39 : decode cX9_haveSame 39 = .ok (.invokevirtual 88, 3) := by decide +kernel
theorem dX9_haveSame_42 : decode cX9_haveSame 42 = .ok (.aload_n 0, 1) := by decide +kernel
theorem dX9_haveSame_43 : decode cX9_haveSame 43 = .ok (.iload_n 1, 1) := by decide +kernel
theorem dX9_haveSame_44 : decode cX9_haveSame 44 = .ok (.iload_n 3, 1) := by decide +kernel
theorem dX9_haveSame_45 : decode cX9_haveSame 45 = .ok (.invokevirtual 88, 3) := by decide +kernel
theorem dX9_haveSame_48 : decode cX9_haveSame 48 = .ok (.if_icmp .ne 7, 3) := by decide +kernel
theorem dX9_haveSame_51 : decode cX9_haveSame 51 = .ok (.iconst 1, 1) := by decide +kernel
theorem dX9_haveSame_52 : decode cX9_haveSame 52 = .ok (.goto 4, 3) := by decide +kernel
theorem dX9_haveSame_55 : decode cX9_haveSame 55 = .ok (.iconst 0, 1) := by decide +kernel
theorem dX9_haveSame_56 : decode cX9_haveSame 56 = .ok (.ireturn, 1) := by decide +kernel
theorem dX9_leadAlike_0 : decode cX9_leadAlike 0 = .ok (.iconst 1, 1) := by decide +kernel
theorem dX9_leadAlike_1 : decode cX9_leadAlike 1 = .ok (.istore 4, 2) := by decide +kernel
theorem dX9_leadAlike_3 : decode cX9_leadAlike 3 = .ok (.iconst 0, 1) := by decide +kernel
theorem dX9_leadAlike_4 : decode cX9_leadAlike 4 = .ok (.istore 5, 2) := by decide +kernel
theorem dX9_leadAlike_6 : decode cX9_leadAlike 6 = .ok (.iload 5, 2) := by decide +kernel
theorem dX9_leadAlike_8 : decode cX9_leadAlike 8 = .ok (.bipush 6, 2) := by decide +kernel
theorem dX9_leadAlike_10 : decode cX9_leadAlike 10 = .ok (.if_icmp .ge 58, 3) := by decide +kernel
theorem dX9_leadAlike_13 : decode cX9_leadAlike 13 = .ok (.aload_n 0, 1) := by decide +kernel
theorem dX9_leadAlike_14 : decode cX9_leadAlike 14 = .ok (.iload_n 1, 1) := by decide +kernel
theorem dX9_leadAlike_15 : decode cX9_leadAlike 15 = .ok (.iload_n 2, 1) := by decide +kernel
theorem dX9_leadAlike_16 : decode cX9_leadAlike 16 = .ok (.iload 5, 2) := by decide +kernel
theorem dX9_leadAlike_18 : decode cX9_leadAlike 18 = .ok (.invokevirtual 99, 3) := by decide +kernel
theorem dX9_leadAlike_21 : decode cX9_leadAlike 21 = .ok (.istore 6, 2) := by decide +kernel
theorem dX9_leadAlike_23 : decode cX9_leadAlike 23 = .ok (.iload 4, 2) := by decide +kernel
theorem dX9_leadAlike_25 : decode cX9_leadAlike 25 = .ok (.ifCond .eq 34, 3) := by decide +kernel
theorem dX9_leadAlike_28 : decode cX9_leadAlike 28 = .ok (.iload 6, 2) := by decide +kernel
theorem dX9_leadAlike_30 : decode cX9_leadAlike 30 = .ok (.ifCond .lt 25, 3) := by decide +kernel
theorem dX9_leadAlike_33 : decode cX9_leadAlike 33 = .ok (.aload_n 0, 1) := by decide +kernel
theorem dX9_leadAlike_34 : decode cX9_leadAlike 34 = .ok (.getfield 20, 3) := by decide +kernel
theorem dX9_leadAlike_37 : decode cX9_leadAlike 37 = .ok (.iload 6, 2) := by decide +kernel
theorem dX9_leadAlike_39 : decode cX9_leadAlike 39 = .ok (.iaload, 1) := by decide +kernel
theorem dX9_leadAlike_40 : decode cX9_leadAlike 40 = .ok (.aload_n 0, 1) := by decide +kernel
theorem dX9_leadAlike_41 : decode cX9_leadAlike 41 = .ok (.iload_n 1, 1) := by decide +kernel
theorem dX9_leadAlike_42 : decode cX9_leadAlike 42 = .ok (.iload_n 3, 1) := by decide +kernel
theorem dX9_leadAlike_43 : decode cX9_leadAlike 43 = .ok (.iload 5, 2) := by decide +kernel
theorem dX9_leadAlike_45 : decode cX9_leadAlike 45 = .ok (.invokevirtual 99, 3) := by decide +kernel
theorem dX9_leadAlike_48 : decode cX9_leadAlike 48 = .ok (.ishr, 1) := by decide +kernel
theorem dX9_leadAlike_49 : decode cX9_leadAlike 49 = .ok (.iconst 1, 1) := by decide +kernel
theorem dX9_leadAlike_50 : decode cX9_leadAlike 50 = .ok (.iand, 1) := by decide +kernel
theorem dX9_leadAlike_51 : decode cX9_leadAlike 51 = .ok (.iconst 1, 1) := by decide +kernel
theorem dX9_leadAlike_52 : decode cX9_leadAlike 52 = .ok (.if_icmp .ne 7, 3) := by decide +kernel
theorem dX9_leadAlike_55 : decode cX9_leadAlike 55 = .ok (.iconst 1, 1) := by decide +kernel
theorem dX9_leadAlike_56 : decode cX9_leadAlike 56 = .ok (.goto 4, 3) := by decide +kernel
theorem dX9_leadAlike_59 : decode cX9_leadAlike 59 = .ok (.iconst 0, 1) := by decide +kernel
theorem dX9_leadAlike_60 : decode cX9_leadAlike 60 = .ok (.istore 4, 2) := by decide +kernel
theorem dX9_leadAlike_62 : decode cX9_leadAlike 62 = .ok (.iinc 5 1, 3) := by decide +kernel
theorem dX9_leadAlike_65 : decode cX9_leadAlike 65 = .ok (.goto (-59), 3) := by decide +kernel
theorem dX9_leadAlike_68 : decode cX9_leadAlike 68 = .ok (.iload 4, 2) := by decide +kernel
theorem dX9_leadAlike_70 : decode cX9_leadAlike 70 = .ok (.ireturn, 1) := by decide +kernel
theorem dX9_findAlike_0 : decode cX9_findAlike 0 = .ok (.iconst 0, 1) := by decide +kernel
theorem dX9_findAlike_1 : decode cX9_findAlike 1 = .ok (.istore_n 2, 1) := by decide +kernel
theorem dX9_findAlike_2 : decode cX9_findAlike 2 = .ok (.iload_n 2, 1) := by decide +kernel
theorem dX9_findAlike_3 : decode cX9_findAlike 3 = .ok (.bipush 8, 2) := by decide +kernel
theorem dX9_findAlike_5 : decode cX9_findAlike 5 = .ok (.if_icmp .ge 56, 3) := by decide +kernel
theorem dX9_findAlike_8 : decode cX9_findAlike 8 = .ok (.aload_n 0, 1) := by decide +kernel
theorem dX9_findAlike_9 : decode cX9_findAlike 9 = .ok (.getfield 20, 3) := by decide +kernel
theorem dX9_findAlike_12 : decode cX9_findAlike 12 = .ok (.iload_n 2, 1) := by decide +kernel
theorem dX9_findAlike_13 : decode cX9_findAlike 13 = .ok (.iconst 0, 1) := by decide +kernel
theorem dX9_findAlike_14 : decode cX9_findAlike 14 = .ok (.iastore, 1) := by decide +kernel
theorem dX9_findAlike_15 : decode cX9_findAlike 15 = .ok (.iconst 0, 1) := by decide +kernel
theorem dX9_findAlike_16 : decode cX9_findAlike 16 = .ok (.istore_n 3, 1) := by decide +kernel
theorem dX9_findAlike_17 : decode cX9_findAlike 17 = .ok (.iload_n 3, 1) := by decide +kernel
theorem dX9_findAlike_18 : decode cX9_findAlike 18 = .ok (.bipush 8, 2) := by decide +kernel
theorem dX9_findAlike_20 : decode cX9_findAlike 20 = .ok (.if_icmp .ge 35, 3) := by decide +kernel
theorem dX9_findAlike_23 : decode cX9_findAlike 23 = .ok (.aload_n 0, 1) := by decide +kernel
theorem dX9_findAlike_24 : decode cX9_findAlike 24 = .ok (.getfield 20, 3) := by decide +kernel
theorem dX9_findAlike_27 : decode cX9_findAlike 27 = .ok (.iload_n 2, 1) := by decide +kernel
theorem dX9_findAlike_28 : decode cX9_findAlike 28 = .ok (.dup2, 1) := by decide +kernel
theorem dX9_findAlike_29 : decode cX9_findAlike 29 = .ok (.iaload, 1) := by decide +kernel
theorem dX9_findAlike_30 : decode cX9_findAlike 30 = .ok (.aload_n 0, 1) := by decide +kernel
theorem dX9_findAlike_31 : decode cX9_findAlike 31 = .ok (.iload_n 1, 1) := by decide +kernel
theorem dX9_findAlike_32 : decode cX9_findAlike 32 = .ok (.iload_n 2, 1) := by decide +kernel
theorem dX9_findAlike_33 : decode cX9_findAlike 33 = .ok (.iload_n 3, 1) := by decide +kernel
theorem dX9_findAlike_34 : decode cX9_findAlike 34 = .ok (.invokevirtual 102, 3) := by decide +kernel
theorem dX9_findAlike_37 : decode cX9_findAlike 37 = .ok (.ifCond .eq 9, 3) := by decide +kernel
theorem dX9_findAlike_40 : decode cX9_findAlike 40 = .ok (.iconst 1, 1) := by decide +kernel
theorem dX9_findAlike_41 : decode cX9_findAlike 41 = .ok (.iload_n 3, 1) := by decide +kernel
theorem dX9_findAlike_42 : decode cX9_findAlike 42 = .ok (.ishl, 1) := by decide +kernel
theorem dX9_findAlike_43 : decode cX9_findAlike 43 = .ok (.goto 4, 3) := by decide +kernel
theorem dX9_findAlike_46 : decode cX9_findAlike 46 = .ok (.iconst 0, 1) := by decide +kernel
theorem dX9_findAlike_47 : decode cX9_findAlike 47 = .ok (.ior, 1) := by decide +kernel
theorem dX9_findAlike_48 : decode cX9_findAlike 48 = .ok (.iastore, 1) := by decide +kernel
theorem dX9_findAlike_49 : decode cX9_findAlike 49 = .ok (.iinc 3 1, 3) := by decide +kernel
theorem dX9_findAlike_52 : decode cX9_findAlike 52 = .ok (.goto (-35), 3) := by decide +kernel
theorem dX9_findAlike_55 : decode cX9_findAlike 55 = .ok (.iinc 2 1, 3) := by decide +kernel
theorem dX9_findAlike_58 : decode cX9_findAlike 58 = .ok (.goto (-56), 3) := by decide +kernel
theorem dX9_findAlike_61 : decode cX9_findAlike 61 = .ok (.iconst 1, 1) := by decide +kernel
theorem dX9_findAlike_62 : decode cX9_findAlike 62 = .ok (.istore_n 2, 1) := by decide +kernel
theorem dX9_findAlike_63 : decode cX9_findAlike 63 = .ok (.iload_n 2, 1) := by decide +kernel
theorem dX9_findAlike_64 : decode cX9_findAlike 64 = .ok (.ifCond .eq 80, 3) := by decide +kernel
theorem dX9_findAlike_67 : decode cX9_findAlike 67 = .ok (.iconst 0, 1) := by decide +kernel
theorem dX9_findAlike_68 : decode cX9_findAlike 68 = .ok (.istore_n 2, 1) := by decide +kernel
theorem dX9_findAlike_69 : decode cX9_findAlike 69 = .ok (.iconst 0, 1) := by decide +kernel
theorem dX9_findAlike_70 : decode cX9_findAlike 70 = .ok (.istore_n 3, 1) := by decide +kernel
theorem dX9_findAlike_71 : decode cX9_findAlike 71 = .ok (.iload_n 3, 1) := by decide +kernel
theorem dX9_findAlike_72 : decode cX9_findAlike 72 = .ok (.bipush 64, 2) := by decide +kernel
theorem dX9_findAlike_74 : decode cX9_findAlike 74 = .ok (.if_icmp .ge 67, 3) := by decide +kernel
theorem dX9_findAlike_77 : decode cX9_findAlike 77 = .ok (.iload_n 3, 1) := by decide +kernel
theorem dX9_findAlike_78 : decode cX9_findAlike 78 = .ok (.bipush 8, 2) := by decide +kernel
theorem dX9_findAlike_80 : decode cX9_findAlike 80 = .ok (.idiv, 1) := by decide +kernel
theorem dX9_findAlike_81 : decode cX9_findAlike 81 = .ok (.istore 4, 2) := by decide +kernel
theorem dX9_findAlike_83 : decode cX9_findAlike 83 = .ok (.iload_n 3, 1) := by decide +kernel
theorem dX9_findAlike_84 : decode cX9_findAlike 84 = .ok (.bipush 8, 2) := by decide +kernel
theorem dX9_findAlike_86 : decode cX9_findAlike 86 = .ok (.irem, 1) := by decide +kernel
theorem dX9_findAlike_87 : decode cX9_findAlike 87 = .ok (.istore 5, 2) := by decide +kernel
theorem dX9_findAlike_89 : decode cX9_findAlike 89 = .ok (.aload_n 0, 1) := by decide +kernel
theorem dX9_findAlike_90 : decode cX9_findAlike 90 = .ok (.getfield 20, 3) := by decide +kernel
theorem dX9_findAlike_93 : decode cX9_findAlike 93 = .ok (.iload 4, 2) := by decide +kernel
theorem dX9_findAlike_95 : decode cX9_findAlike 95 = .ok (.iaload, 1) := by decide +kernel
theorem dX9_findAlike_96 : decode cX9_findAlike 96 = .ok (.iload 5, 2) := by decide +kernel
theorem dX9_findAlike_98 : decode cX9_findAlike 98 = .ok (.ishr, 1) := by decide +kernel
theorem dX9_findAlike_99 : decode cX9_findAlike 99 = .ok (.iconst 1, 1) := by decide +kernel
theorem dX9_findAlike_100 : decode cX9_findAlike 100 = .ok (.iand, 1) := by decide +kernel
theorem dX9_findAlike_101 : decode cX9_findAlike 101 = .ok (.iconst 1, 1) := by decide +kernel
theorem dX9_findAlike_102 : decode cX9_findAlike 102 = .ok (.if_icmp .ne 33, 3) := by decide +kernel
theorem dX9_findAlike_105 : decode cX9_findAlike 105 = .ok (.aload_n 0, 1) := by decide +kernel
theorem dX9_findAlike_106 : decode cX9_findAlike 106 = .ok (.iload_n 1, 1) := by decide +kernel
theorem dX9_findAlike_107 : decode cX9_findAlike 107 = .ok (.iload 4, 2) := by decide +kernel
theorem dX9_findAlike_109 : decode cX9_findAlike 109 = .ok (.iload 5, 2) := by decide +kernel
theorem dX9_findAlike_111 : decode cX9_findAlike 111 = .ok (.invokevirtual 105, 3) := by decide +kernel
theorem dX9_findAlike_114 : decode cX9_findAlike 114 = .ok (.ifCond .ne 21, 3) := by decide +kernel
theorem dX9_findAlike_117 : decode cX9_findAlike 117 = .ok (.aload_n 0, 1) := by decide +kernel
theorem dX9_findAlike_118 : decode cX9_findAlike 118 = .ok (.getfield 20, 3) := by decide +kernel
theorem dX9_findAlike_121 : decode cX9_findAlike 121 = .ok (.iload 4, 2) := by decide +kernel
theorem dX9_findAlike_123 : decode cX9_findAlike 123 = .ok (.dup2, 1) := by decide +kernel
theorem dX9_findAlike_124 : decode cX9_findAlike 124 = .ok (.iaload, 1) := by decide +kernel
theorem dX9_findAlike_125 : decode cX9_findAlike 125 = .ok (.iconst 1, 1) := by decide +kernel
theorem dX9_findAlike_126 : decode cX9_findAlike 126 = .ok (.iload 5, 2) := by decide +kernel
theorem dX9_findAlike_128 : decode cX9_findAlike 128 = .ok (.ishl, 1) := by decide +kernel
theorem dX9_findAlike_129 : decode cX9_findAlike 129 = .ok (.iconst (-1), 1) := by decide +kernel
theorem dX9_findAlike_130 : decode cX9_findAlike 130 = .ok (.ixor, 1) := by decide +kernel
theorem dX9_findAlike_131 : decode cX9_findAlike 131 = .ok (.iand, 1) := by decide +kernel
theorem dX9_findAlike_132 : decode cX9_findAlike 132 = .ok (.iastore, 1) := by decide +kernel
theorem dX9_findAlike_133 : decode cX9_findAlike 133 = .ok (.iconst 1, 1) := by decide +kernel
theorem dX9_findAlike_134 : decode cX9_findAlike 134 = .ok (.istore_n 2, 1) := by decide +kernel
theorem dX9_findAlike_135 : decode cX9_findAlike 135 = .ok (.iinc 3 1, 3) := by decide +kernel
theorem dX9_findAlike_138 : decode cX9_findAlike 138 = .ok (.goto (-67), 3) := by decide +kernel
theorem dX9_findAlike_141 : decode cX9_findAlike 141 = .ok (.goto (-78), 3) := by decide +kernel
theorem dX9_findAlike_144 : decode cX9_findAlike 144 = .ok (.return_, 1) := by decide +kernel
theorem dX9_lowest_0 : decode cX9_lowest 0 = .ok (.iconst 0, 1) := by decide +kernel
theorem dX9_lowest_1 : decode cX9_lowest 1 = .ok (.istore_n 1, 1) := by decide +kernel
theorem dX9_lowest_2 : decode cX9_lowest 2 = .ok (.iload_n 0, 1) := by decide +kernel
theorem dX9_lowest_3 : decode cX9_lowest 3 = .ok (.iload_n 1, 1) := by decide +kernel
theorem dX9_lowest_4 : decode cX9_lowest 4 = .ok (.ishr, 1) := by decide +kernel
theorem dX9_lowest_5 : decode cX9_lowest 5 = .ok (.iconst 1, 1) := by decide +kernel
theorem dX9_lowest_6 : decode cX9_lowest 6 = .ok (.iand, 1) := by decide +kernel
theorem dX9_lowest_7 : decode cX9_lowest 7 = .ok (.ifCond .ne 9, 3) := by decide +kernel
theorem dX9_lowest_10 : decode cX9_lowest 10 = .ok (.iinc 1 1, 3) := by decide +kernel
theorem dX9_lowest_13 : decode cX9_lowest 13 = .ok (.goto (-11), 3) := by decide +kernel
theorem dX9_lowest_16 : decode cX9_lowest 16 = .ok (.iload_n 1, 1) := by decide +kernel
theorem dX9_lowest_17 : decode cX9_lowest 17 = .ok (.ireturn, 1) := by decide +kernel
theorem dX9_alikeTo_0 : decode cX9_alikeTo 0 = .ok (.aload_n 0, 1) := by decide +kernel
theorem dX9_alikeTo_1 : decode cX9_alikeTo 1 = .ok (.iload_n 1, 1) := by decide +kernel
theorem dX9_alikeTo_2 : decode cX9_alikeTo 2 = .ok (.invokevirtual 108, 3) := by decide +kernel
theorem dX9_alikeTo_5 : decode cX9_alikeTo 5 = .ok (.aload_n 0, 1) := by decide +kernel
theorem dX9_alikeTo_6 : decode cX9_alikeTo 6 = .ok (.getfield 20, 3) := by decide +kernel
theorem dX9_alikeTo_9 : decode cX9_alikeTo 9 = .ok (.iload_n 2, 1) := by decide +kernel
theorem dX9_alikeTo_10 : decode cX9_alikeTo 10 = .ok (.iaload, 1) := by decide +kernel
theorem dX9_alikeTo_11 : decode cX9_alikeTo 11 = .ok (.invokestatic 112, 3) := by decide +kernel
theorem dX9_alikeTo_14 : decode cX9_alikeTo 14 = .ok (.ireturn, 1) := by decide +kernel
theorem dX9_reached_0 : decode cX9_reached 0 = .ok (.iconst 0, 1) := by decide +kernel
theorem dX9_reached_1 : decode cX9_reached 1 = .ok (.istore_n 3, 1) := by decide +kernel
theorem dX9_reached_2 : decode cX9_reached 2 = .ok (.iconst 1, 1) := by decide +kernel
theorem dX9_reached_3 : decode cX9_reached 3 = .ok (.iload_n 2, 1) := by decide +kernel
theorem dX9_reached_4 : decode cX9_reached 4 = .ok (.ishl, 1) := by decide +kernel
theorem dX9_reached_5 : decode cX9_reached 5 = .ok (.istore 4, 2) := by decide +kernel
theorem dX9_reached_7 : decode cX9_reached 7 = .ok (.iload 4, 2) := by decide +kernel
theorem dX9_reached_9 : decode cX9_reached 9 = .ok (.iload_n 3, 1) := by decide +kernel
theorem dX9_reached_10 : decode cX9_reached 10 = .ok (.if_icmp .eq 73, 3) := by decide +kernel
theorem dX9_reached_13 : decode cX9_reached 13 = .ok (.iload 4, 2) := by decide +kernel
theorem dX9_reached_15 : decode cX9_reached 15 = .ok (.istore_n 3, 1) := by decide +kernel
theorem dX9_reached_16 : decode cX9_reached 16 = .ok (.iconst 0, 1) := by decide +kernel
theorem dX9_reached_17 : decode cX9_reached 17 = .ok (.istore 5, 2) := by decide +kernel
theorem dX9_reached_19 : decode cX9_reached 19 = .ok (.iload 5, 2) := by decide +kernel
theorem dX9_reached_21 : decode cX9_reached 21 = .ok (.bipush 48, 2) := by decide +kernel
theorem dX9_reached_23 : decode cX9_reached 23 = .ok (.if_icmp .ge 57, 3) := by decide +kernel
theorem dX9_reached_26 : decode cX9_reached 26 = .ok (.aload_n 0, 1) := by decide +kernel
theorem dX9_reached_27 : decode cX9_reached 27 = .ok (.iload_n 1, 1) := by decide +kernel
theorem dX9_reached_28 : decode cX9_reached 28 = .ok (.iload 5, 2) := by decide +kernel
theorem dX9_reached_30 : decode cX9_reached 30 = .ok (.bipush 6, 2) := by decide +kernel
theorem dX9_reached_32 : decode cX9_reached 32 = .ok (.idiv, 1) := by decide +kernel
theorem dX9_reached_33 : decode cX9_reached 33 = .ok (.iload 5, 2) := by decide +kernel
theorem dX9_reached_35 : decode cX9_reached 35 = .ok (.bipush 6, 2) := by decide +kernel
theorem dX9_reached_37 : decode cX9_reached 37 = .ok (.irem, 1) := by decide +kernel
theorem dX9_reached_38 : decode cX9_reached 38 = .ok (.invokevirtual 99, 3) := by decide +kernel
theorem dX9_reached_41 : decode cX9_reached 41 = .ok (.istore 6, 2) := by decide +kernel
theorem dX9_reached_43 : decode cX9_reached 43 = .ok (.iload 4, 2) := by decide +kernel
theorem dX9_reached_45 : decode cX9_reached 45 = .ok (.iload_n 3, 1) := by decide +kernel
theorem dX9_reached_46 : decode cX9_reached 46 = .ok (.iload 5, 2) := by decide +kernel
theorem dX9_reached_48 : decode cX9_reached 48 = .ok (.bipush 6, 2) := by decide +kernel
theorem dX9_reached_50 : decode cX9_reached 50 = .ok (.idiv, 1) := by decide +kernel
theorem dX9_reached_51 : decode cX9_reached 51 = .ok (.ishr, 1) := by decide +kernel
theorem dX9_reached_52 : decode cX9_reached 52 = .ok (.iconst 1, 1) := by decide +kernel
theorem dX9_reached_53 : decode cX9_reached 53 = .ok (.iand, 1) := by decide +kernel
theorem dX9_reached_54 : decode cX9_reached 54 = .ok (.iconst 1, 1) := by decide +kernel
theorem dX9_reached_55 : decode cX9_reached 55 = .ok (.if_icmp .ne 15, 3) := by decide +kernel
theorem dX9_reached_58 : decode cX9_reached 58 = .ok (.iload 6, 2) := by decide +kernel
theorem dX9_reached_60 : decode cX9_reached 60 = .ok (.ifCond .lt 10, 3) := by decide +kernel
theorem dX9_reached_63 : decode cX9_reached 63 = .ok (.iconst 1, 1) := by decide +kernel
theorem dX9_reached_64 : decode cX9_reached 64 = .ok (.iload 6, 2) := by decide +kernel
theorem dX9_reached_66 : decode cX9_reached 66 = .ok (.ishl, 1) := by decide +kernel
theorem dX9_reached_67 : decode cX9_reached 67 = .ok (.goto 4, 3) := by decide +kernel
theorem dX9_reached_70 : decode cX9_reached 70 = .ok (.iconst 0, 1) := by decide +kernel
theorem dX9_reached_71 : decode cX9_reached 71 = .ok (.ior, 1) := by decide +kernel
theorem dX9_reached_72 : decode cX9_reached 72 = .ok (.istore 4, 2) := by decide +kernel
theorem dX9_reached_74 : decode cX9_reached 74 = .ok (.iinc 5 1, 3) := by decide +kernel
theorem dX9_reached_77 : decode cX9_reached 77 = .ok (.goto (-58), 3) := by decide +kernel
theorem dX9_reached_80 : decode cX9_reached 80 = .ok (.goto (-73), 3) := by decide +kernel
theorem dX9_reached_83 : decode cX9_reached 83 = .ok (.iload_n 3, 1) := by decide +kernel
theorem dX9_reached_84 : decode cX9_reached 84 = .ok (.ireturn, 1) := by decide +kernel
theorem dX9_stateOf_0 : decode cX9_stateOf 0 = .ok (.iload_n 1, 1) := by decide +kernel
theorem dX9_stateOf_1 : decode cX9_stateOf 1 = .ok (.invokestatic 74, 3) := by decide +kernel
theorem dX9_stateOf_4 : decode cX9_stateOf 4 = .ok (.ifCond .eq 29, 3) := by decide +kernel
theorem dX9_stateOf_7 : decode cX9_stateOf 7 = .ok (.iload_n 2, 1) := by decide +kernel
theorem dX9_stateOf_8 : decode cX9_stateOf 8 = .ok (.invokestatic 78, 3) := by decide +kernel
theorem dX9_stateOf_11 : decode cX9_stateOf 11 = .ok (.ifCond .eq 22, 3) := by decide +kernel
theorem dX9_stateOf_14 : decode cX9_stateOf 14 = .ok (.iload_n 3, 1) := by decide +kernel
theorem dX9_stateOf_15 : decode cX9_stateOf 15 = .ok (.iconst 0, 1) := by decide +kernel
theorem dX9_stateOf_16 : decode cX9_stateOf 16 = .ok (.iconst 3, 1) := by decide +kernel
theorem dX9_stateOf_17 : decode cX9_stateOf 17 = .ok (.invokestatic 59, 3) := by decide +kernel
theorem dX9_stateOf_20 : decode cX9_stateOf 20 = .ok (.ifCond .ne 16, 3) := by decide +kernel
theorem dX9_stateOf_23 : decode cX9_stateOf 23 = .ok (.iload_n 3, 1) := by decide +kernel
theorem dX9_stateOf_24 : decode cX9_stateOf 24 = .ok (.bipush 10, 2) := by decide +kernel
theorem dX9_stateOf_26 : decode cX9_stateOf 26 = .ok (.isub, 1) := by decide +kernel
theorem dX9_stateOf_27 : decode cX9_stateOf 27 = .ok (.invokestatic 85, 3) := by decide +kernel
theorem dX9_stateOf_30 : decode cX9_stateOf 30 = .ok (.ifCond .ne 6, 3) := by decide +kernel
theorem dX9_stateOf_33 : decode cX9_stateOf 33 = .ok (.ldc 81, 2) := by decide +kernel
theorem dX9_stateOf_35 : decode cX9_stateOf 35 = .ok (.ireturn, 1) := by decide +kernel
theorem dX9_stateOf_36 : decode cX9_stateOf 36 = .ok (.iload_n 3, 1) := by decide +kernel
theorem dX9_stateOf_37 : decode cX9_stateOf 37 = .ok (.tableswitch 59 0 3 #[31, 38, 45, 52], 31) := by decide +kernel
theorem dX9_stateOf_68 : decode cX9_stateOf 68 = .ok (.aload_n 0, 1) := by decide +kernel
theorem dX9_stateOf_69 : decode cX9_stateOf 69 = .ok (.iload_n 1, 1) := by decide +kernel
theorem dX9_stateOf_70 : decode cX9_stateOf 70 = .ok (.iload_n 2, 1) := by decide +kernel
theorem dX9_stateOf_71 : decode cX9_stateOf 71 = .ok (.invokevirtual 67, 3) := by decide +kernel
theorem dX9_stateOf_74 : decode cX9_stateOf 74 = .ok (.ireturn, 1) := by decide +kernel
theorem dX9_stateOf_75 : decode cX9_stateOf 75 = .ok (.aload_n 0, 1) := by decide +kernel
theorem dX9_stateOf_76 : decode cX9_stateOf 76 = .ok (.iload_n 1, 1) := by decide +kernel
theorem dX9_stateOf_77 : decode cX9_stateOf 77 = .ok (.iload_n 2, 1) := by decide +kernel
theorem dX9_stateOf_78 : decode cX9_stateOf 78 = .ok (.invokevirtual 88, 3) := by decide +kernel
theorem dX9_stateOf_81 : decode cX9_stateOf 81 = .ok (.ireturn, 1) := by decide +kernel
theorem dX9_stateOf_82 : decode cX9_stateOf 82 = .ok (.aload_n 0, 1) := by decide +kernel
theorem dX9_stateOf_83 : decode cX9_stateOf 83 = .ok (.iload_n 1, 1) := by decide +kernel
theorem dX9_stateOf_84 : decode cX9_stateOf 84 = .ok (.iload_n 2, 1) := by decide +kernel
theorem dX9_stateOf_85 : decode cX9_stateOf 85 = .ok (.invokevirtual 115, 3) := by decide +kernel
theorem dX9_stateOf_88 : decode cX9_stateOf 88 = .ok (.ireturn, 1) := by decide +kernel
theorem dX9_stateOf_89 : decode cX9_stateOf 89 = .ok (.aload_n 0, 1) := by decide +kernel
theorem dX9_stateOf_90 : decode cX9_stateOf 90 = .ok (.iload_n 1, 1) := by decide +kernel
theorem dX9_stateOf_91 : decode cX9_stateOf 91 = .ok (.iload_n 2, 1) := by decide +kernel
theorem dX9_stateOf_92 : decode cX9_stateOf 92 = .ok (.invokevirtual 118, 3) := by decide +kernel
theorem dX9_stateOf_95 : decode cX9_stateOf 95 = .ok (.ireturn, 1) := by decide +kernel
theorem dX9_stateOf_96 : decode cX9_stateOf 96 = .ok (.aload_n 0, 1) := by decide +kernel
theorem dX9_stateOf_97 : decode cX9_stateOf 97 = .ok (.iload_n 1, 1) := by decide +kernel
theorem dX9_stateOf_98 : decode cX9_stateOf 98 = .ok (.iload_n 2, 1) := by decide +kernel
theorem dX9_stateOf_99 : decode cX9_stateOf 99 = .ok (.iload_n 3, 1) := by decide +kernel
theorem dX9_stateOf_100 : decode cX9_stateOf 100 = .ok (.bipush 10, 2) := by decide +kernel
theorem dX9_stateOf_102 : decode cX9_stateOf 102 = .ok (.isub, 1) := by decide +kernel
theorem dX9_stateOf_103 : decode cX9_stateOf 103 = .ok (.invokevirtual 71, 3) := by decide +kernel
theorem dX9_stateOf_106 : decode cX9_stateOf 106 = .ok (.istore 4, 2) := by decide +kernel
theorem dX9_stateOf_108 : decode cX9_stateOf 108 = .ok (.iload 4, 2) := by decide +kernel
theorem dX9_stateOf_110 : decode cX9_stateOf 110 = .ok (.ifCond .ge 8, 3) := by decide +kernel
theorem dX9_stateOf_113 : decode cX9_stateOf 113 = .ok (.ldc 121, 2) := by decide +kernel
theorem dX9_stateOf_115 : decode cX9_stateOf 115 = .ok (.goto 5, 3) := by decide +kernel
theorem dX9_stateOf_118 : decode cX9_stateOf 118 = .ok (.iload 4, 2) := by decide +kernel
theorem dX9_stateOf_120 : decode cX9_stateOf 120 = .ok (.ireturn, 1) := by decide +kernel
theorem dX9_unlike_0 : decode cX9_unlike 0 = .ok (.iload_n 1, 1) := by decide +kernel
theorem dX9_unlike_1 : decode cX9_unlike 1 = .ok (.invokestatic 74, 3) := by decide +kernel
theorem dX9_unlike_4 : decode cX9_unlike 4 = .ok (.ifCond .ne 6, 3) := by decide +kernel
theorem dX9_unlike_7 : decode cX9_unlike 7 = .ok (.ldc 81, 2) := by decide +kernel
theorem dX9_unlike_9 : decode cX9_unlike 9 = .ok (.ireturn, 1) := by decide +kernel
theorem dX9_unlike_10 : decode cX9_unlike 10 = .ok (.aload_n 0, 1) := by decide +kernel
theorem dX9_unlike_11 : decode cX9_unlike 11 = .ok (.iload_n 1, 1) := by decide +kernel
theorem dX9_unlike_12 : decode cX9_unlike 12 = .ok (.invokevirtual 108, 3) := by decide +kernel
theorem dX9_unlike_15 : decode cX9_unlike 15 = .ok (.aload_n 0, 1) := by decide +kernel
theorem dX9_unlike_16 : decode cX9_unlike 16 = .ok (.iload_n 1, 1) := by decide +kernel
theorem dX9_unlike_17 : decode cX9_unlike 17 = .ok (.iconst 0, 1) := by decide +kernel
theorem dX9_unlike_18 : decode cX9_unlike 18 = .ok (.invokevirtual 118, 3) := by decide +kernel
theorem dX9_unlike_21 : decode cX9_unlike 21 = .ok (.istore_n 2, 1) := by decide +kernel
theorem dX9_unlike_22 : decode cX9_unlike 22 = .ok (.iconst 0, 1) := by decide +kernel
theorem dX9_unlike_23 : decode cX9_unlike 23 = .ok (.istore_n 3, 1) := by decide +kernel
theorem dX9_unlike_24 : decode cX9_unlike 24 = .ok (.iconst 0, 1) := by decide +kernel
theorem dX9_unlike_25 : decode cX9_unlike 25 = .ok (.istore 4, 2) := by decide +kernel
theorem dX9_unlike_27 : decode cX9_unlike 27 = .ok (.iload 4, 2) := by decide +kernel
theorem dX9_unlike_29 : decode cX9_unlike 29 = .ok (.bipush 8, 2) := by decide +kernel
theorem dX9_unlike_31 : decode cX9_unlike 31 = .ok (.if_icmp .ge 44, 3) := by decide +kernel
theorem dX9_unlike_34 : decode cX9_unlike 34 = .ok (.iload_n 3, 1) := by decide +kernel
theorem dX9_unlike_35 : decode cX9_unlike 35 = .ok (.iload_n 2, 1) := by decide +kernel
theorem dX9_unlike_36 : decode cX9_unlike 36 = .ok (.iload 4, 2) := by decide +kernel
theorem dX9_unlike_38 : decode cX9_unlike 38 = .ok (.ishr, 1) := by decide +kernel
theorem dX9_unlike_39 : decode cX9_unlike 39 = .ok (.iconst 1, 1) := by decide +kernel
theorem dX9_unlike_40 : decode cX9_unlike 40 = .ok (.iand, 1) := by decide +kernel
theorem dX9_unlike_41 : decode cX9_unlike 41 = .ok (.iconst 1, 1) := by decide +kernel
theorem dX9_unlike_42 : decode cX9_unlike 42 = .ok (.if_icmp .ne 24, 3) := by decide +kernel
theorem dX9_unlike_45 : decode cX9_unlike 45 = .ok (.aload_n 0, 1) := by decide +kernel
theorem dX9_unlike_46 : decode cX9_unlike 46 = .ok (.getfield 20, 3) := by decide +kernel
theorem dX9_unlike_49 : decode cX9_unlike 49 = .ok (.iload 4, 2) := by decide +kernel
theorem dX9_unlike_51 : decode cX9_unlike 51 = .ok (.iaload, 1) := by decide +kernel
theorem dX9_unlike_52 : decode cX9_unlike 52 = .ok (.iload_n 2, 1) := by decide +kernel
theorem dX9_unlike_53 : decode cX9_unlike 53 = .ok (.iand, 1) := by decide +kernel
theorem dX9_unlike_54 : decode cX9_unlike 54 = .ok (.invokestatic 112, 3) := by decide +kernel
theorem dX9_unlike_57 : decode cX9_unlike 57 = .ok (.iload 4, 2) := by decide +kernel
theorem dX9_unlike_59 : decode cX9_unlike 59 = .ok (.if_icmp .ne 7, 3) := by decide +kernel
theorem dX9_unlike_62 : decode cX9_unlike 62 = .ok (.iconst 1, 1) := by decide +kernel
theorem dX9_unlike_63 : decode cX9_unlike 63 = .ok (.goto 4, 3) := by decide +kernel
theorem dX9_unlike_66 : decode cX9_unlike 66 = .ok (.iconst 0, 1) := by decide +kernel
theorem dX9_unlike_67 : decode cX9_unlike 67 = .ok (.iadd, 1) := by decide +kernel
theorem dX9_unlike_68 : decode cX9_unlike 68 = .ok (.istore_n 3, 1) := by decide +kernel
theorem dX9_unlike_69 : decode cX9_unlike 69 = .ok (.iinc 4 1, 3) := by decide +kernel
theorem dX9_unlike_72 : decode cX9_unlike 72 = .ok (.goto (-45), 3) := by decide +kernel
theorem dX9_unlike_75 : decode cX9_unlike 75 = .ok (.iload_n 3, 1) := by decide +kernel
theorem dX9_unlike_76 : decode cX9_unlike 76 = .ok (.ireturn, 1) := by decide +kernel
theorem dX9_together_0 : decode cX9_together 0 = .ok (.iload_n 0, 1) := by decide +kernel
theorem dX9_together_1 : decode cX9_together 1 = .ok (.ifCond .eq 25, 3) := by decide +kernel
theorem dX9_together_4 : decode cX9_together 4 = .ok (.iload_n 1, 1) := by decide +kernel
theorem dX9_together_5 : decode cX9_together 5 = .ok (.ifCond .eq 21, 3) := by decide +kernel
theorem dX9_together_8 : decode cX9_together 8 = .ok (.iload_n 2, 1) := by decide +kernel
theorem dX9_together_9 : decode cX9_together 9 = .ok (.iload_n 0, 1) := by decide +kernel
theorem dX9_together_10 : decode cX9_together 10 = .ok (.iload_n 1, 1) := by decide +kernel
theorem dX9_together_11 : decode cX9_together 11 = .ok (.if_icmp .ne 7, 3) := by decide +kernel
theorem dX9_together_14 : decode cX9_together 14 = .ok (.iconst 1, 1) := by decide +kernel
theorem dX9_together_15 : decode cX9_together 15 = .ok (.goto 4, 3) := by decide +kernel
theorem dX9_together_18 : decode cX9_together 18 = .ok (.iconst 0, 1) := by decide +kernel
theorem dX9_together_19 : decode cX9_together 19 = .ok (.if_icmp .eq 7, 3) := by decide +kernel
theorem dX9_together_22 : decode cX9_together 22 = .ok (.iconst 1, 1) := by decide +kernel
theorem dX9_together_23 : decode cX9_together 23 = .ok (.goto 4, 3) := by decide +kernel
theorem dX9_together_26 : decode cX9_together 26 = .ok (.iconst 0, 1) := by decide +kernel
theorem dX9_together_27 : decode cX9_together 27 = .ok (.ireturn, 1) := by decide +kernel
theorem dX9_behind_0 : decode cX9_behind 0 = .ok (.aload_n 0, 1) := by decide +kernel
theorem dX9_behind_1 : decode cX9_behind 1 = .ok (.iload_n 1, 1) := by decide +kernel
theorem dX9_behind_2 : decode cX9_behind 2 = .ok (.iload_n 3, 1) := by decide +kernel
theorem dX9_behind_3 : decode cX9_behind 3 = .ok (.bipush 8, 2) := by decide +kernel
theorem dX9_behind_5 : decode cX9_behind 5 = .ok (.idiv, 1) := by decide +kernel
theorem dX9_behind_6 : decode cX9_behind 6 = .ok (.iload 4, 2) := by decide +kernel
theorem dX9_behind_8 : decode cX9_behind 8 = .ok (.invokevirtual 99, 3) := by decide +kernel
theorem dX9_behind_11 : decode cX9_behind 11 = .ok (.istore 5, 2) := by decide +kernel
theorem dX9_behind_13 : decode cX9_behind 13 = .ok (.aload_n 0, 1) := by decide +kernel
theorem dX9_behind_14 : decode cX9_behind 14 = .ok (.iload_n 2, 1) := by decide +kernel
theorem dX9_behind_15 : decode cX9_behind 15 = .ok (.iload_n 3, 1) := by decide +kernel
theorem dX9_behind_16 : decode cX9_behind 16 = .ok (.bipush 8, 2) := by decide +kernel
theorem dX9_behind_18 : decode cX9_behind 18 = .ok (.irem, 1) := by decide +kernel
theorem dX9_behind_19 : decode cX9_behind 19 = .ok (.iload 4, 2) := by decide +kernel
theorem dX9_behind_21 : decode cX9_behind 21 = .ok (.invokevirtual 99, 3) := by decide +kernel
theorem dX9_behind_24 : decode cX9_behind 24 = .ok (.istore 6, 2) := by decide +kernel
theorem dX9_behind_26 : decode cX9_behind 26 = .ok (.iload 5, 2) := by decide +kernel
theorem dX9_behind_28 : decode cX9_behind 28 = .ok (.ifCond .lt 8, 3) := by decide +kernel
theorem dX9_behind_31 : decode cX9_behind 31 = .ok (.iload 6, 2) := by decide +kernel
theorem dX9_behind_33 : decode cX9_behind 33 = .ok (.ifCond .ge 7, 3) := by decide +kernel
theorem dX9_behind_36 : decode cX9_behind 36 = .ok (.iconst (-1), 1) := by decide +kernel
theorem dX9_behind_37 : decode cX9_behind 37 = .ok (.goto 11, 3) := by decide +kernel
theorem dX9_behind_40 : decode cX9_behind 40 = .ok (.bipush 8, 2) := by decide +kernel
theorem dX9_behind_42 : decode cX9_behind 42 = .ok (.iload 5, 2) := by decide +kernel
theorem dX9_behind_44 : decode cX9_behind 44 = .ok (.imul, 1) := by decide +kernel
theorem dX9_behind_45 : decode cX9_behind 45 = .ok (.iload 6, 2) := by decide +kernel
theorem dX9_behind_47 : decode cX9_behind 47 = .ok (.iadd, 1) := by decide +kernel
theorem dX9_behind_48 : decode cX9_behind 48 = .ok (.ireturn, 1) := by decide +kernel
theorem dX9_finds_0 : decode cX9_finds 0 = .ok (.aload_n 0, 1) := by decide +kernel
theorem dX9_finds_1 : decode cX9_finds 1 = .ok (.getfield 35, 3) := by decide +kernel
theorem dX9_finds_4 : decode cX9_finds 4 = .ok (.iload_n 1, 1) := by decide +kernel
theorem dX9_finds_5 : decode cX9_finds 5 = .ok (.iaload, 1) := by decide +kernel
theorem dX9_finds_6 : decode cX9_finds 6 = .ok (.iconst (-1), 1) := by decide +kernel
theorem dX9_finds_7 : decode cX9_finds 7 = .ok (.if_icmp .ne 78, 3) := by decide +kernel
theorem dX9_finds_10 : decode cX9_finds 10 = .ok (.aload_n 0, 1) := by decide +kernel
theorem dX9_finds_11 : decode cX9_finds 11 = .ok (.getfield 35, 3) := by decide +kernel
theorem dX9_finds_14 : decode cX9_finds 14 = .ok (.iload_n 1, 1) := by decide +kernel
theorem dX9_finds_15 : decode cX9_finds 15 = .ok (.aload_n 0, 1) := by decide +kernel
theorem dX9_finds_16 : decode cX9_finds 16 = .ok (.getfield 122, 3) := by decide +kernel
theorem dX9_finds_19 : decode cX9_finds 19 = .ok (.iastore, 1) := by decide +kernel
theorem dX9_finds_20 : decode cX9_finds 20 = .ok (.aload_n 0, 1) := by decide +kernel
theorem dX9_finds_21 : decode cX9_finds 21 = .ok (.getfield 23, 3) := by decide +kernel
theorem dX9_finds_24 : decode cX9_finds 24 = .ok (.aload_n 0, 1) := by decide +kernel
theorem dX9_finds_25 : decode cX9_finds 25 = .ok (.getfield 122, 3) := by decide +kernel
theorem dX9_finds_28 : decode cX9_finds 28 = .ok (.iload_n 1, 1) := by decide +kernel
theorem dX9_finds_29 : decode cX9_finds 29 = .ok (.iastore, 1) := by decide +kernel
theorem dX9_finds_30 : decode cX9_finds 30 = .ok (.aload_n 0, 1) := by decide +kernel
theorem dX9_finds_31 : decode cX9_finds 31 = .ok (.getfield 26, 3) := by decide +kernel
theorem dX9_finds_34 : decode cX9_finds 34 = .ok (.aload_n 0, 1) := by decide +kernel
theorem dX9_finds_35 : decode cX9_finds 35 = .ok (.getfield 122, 3) := by decide +kernel
theorem dX9_finds_38 : decode cX9_finds 38 = .ok (.iload_n 2, 1) := by decide +kernel
theorem dX9_finds_39 : decode cX9_finds 39 = .ok (.iastore, 1) := by decide +kernel
theorem dX9_finds_40 : decode cX9_finds 40 = .ok (.aload_n 0, 1) := by decide +kernel
theorem dX9_finds_41 : decode cX9_finds 41 = .ok (.getfield 29, 3) := by decide +kernel
theorem dX9_finds_44 : decode cX9_finds 44 = .ok (.aload_n 0, 1) := by decide +kernel
theorem dX9_finds_45 : decode cX9_finds 45 = .ok (.getfield 122, 3) := by decide +kernel
theorem dX9_finds_48 : decode cX9_finds 48 = .ok (.iload_n 3, 1) := by decide +kernel
theorem dX9_finds_49 : decode cX9_finds 49 = .ok (.iastore, 1) := by decide +kernel
theorem dX9_finds_50 : decode cX9_finds 50 = .ok (.aload_n 0, 1) := by decide +kernel
theorem dX9_finds_51 : decode cX9_finds 51 = .ok (.getfield 32, 3) := by decide +kernel
theorem dX9_finds_54 : decode cX9_finds 54 = .ok (.aload_n 0, 1) := by decide +kernel
theorem dX9_finds_55 : decode cX9_finds 55 = .ok (.getfield 122, 3) := by decide +kernel
theorem dX9_finds_58 : decode cX9_finds 58 = .ok (.iload_n 2, 1) := by decide +kernel
theorem dX9_finds_59 : decode cX9_finds 59 = .ok (.ifCond .ge 7, 3) := by decide +kernel
theorem dX9_finds_62 : decode cX9_finds 62 = .ok (.iconst 0, 1) := by decide +kernel
theorem dX9_finds_63 : decode cX9_finds 63 = .ok (.goto 11, 3) := by decide +kernel
theorem dX9_finds_66 : decode cX9_finds 66 = .ok (.aload_n 0, 1) := by decide +kernel
theorem dX9_finds_67 : decode cX9_finds 67 = .ok (.getfield 32, 3) := by decide +kernel
theorem dX9_finds_70 : decode cX9_finds 70 = .ok (.iload_n 2, 1) := by decide +kernel
theorem dX9_finds_71 : decode cX9_finds 71 = .ok (.iaload, 1) := by decide +kernel
theorem dX9_finds_72 : decode cX9_finds 72 = .ok (.iconst 1, 1) := by decide +kernel
theorem dX9_finds_73 : decode cX9_finds 73 = .ok (.iadd, 1) := by decide +kernel
theorem dX9_finds_74 : decode cX9_finds 74 = .ok (.iastore, 1) := by decide +kernel
theorem dX9_finds_75 : decode cX9_finds 75 = .ok (.aload_n 0, 1) := by decide +kernel
theorem dX9_finds_76 : decode cX9_finds 76 = .ok (.dup, 1) := by decide +kernel
theorem dX9_finds_77 : decode cX9_finds 77 = .ok (.getfield 122, 3) := by decide +kernel
theorem dX9_finds_80 : decode cX9_finds 80 = .ok (.iconst 1, 1) := by decide +kernel
theorem dX9_finds_81 : decode cX9_finds 81 = .ok (.iadd, 1) := by decide +kernel
theorem dX9_finds_82 : decode cX9_finds 82 = .ok (.putfield 122, 3) := by decide +kernel
theorem dX9_finds_85 : decode cX9_finds 85 = .ok (.return_, 1) := by decide +kernel
theorem dX9_follows_0 : decode cX9_follows 0 = .ok (.aload_n 0, 1) := by decide +kernel
theorem dX9_follows_1 : decode cX9_follows 1 = .ok (.getfield 23, 3) := by decide +kernel
theorem dX9_follows_4 : decode cX9_follows 4 = .ok (.iload_n 3, 1) := by decide +kernel
theorem dX9_follows_5 : decode cX9_follows 5 = .ok (.iaload, 1) := by decide +kernel
theorem dX9_follows_6 : decode cX9_follows 6 = .ok (.istore 6, 2) := by decide +kernel
theorem dX9_follows_8 : decode cX9_follows 8 = .ok (.aload_n 0, 1) := by decide +kernel
theorem dX9_follows_9 : decode cX9_follows 9 = .ok (.iload_n 1, 1) := by decide +kernel
theorem dX9_follows_10 : decode cX9_follows 10 = .ok (.iload 6, 2) := by decide +kernel
theorem dX9_follows_12 : decode cX9_follows 12 = .ok (.bipush 8, 2) := by decide +kernel
theorem dX9_follows_14 : decode cX9_follows 14 = .ok (.idiv, 1) := by decide +kernel
theorem dX9_follows_15 : decode cX9_follows 15 = .ok (.invokevirtual 67, 3) := by decide +kernel
theorem dX9_follows_18 : decode cX9_follows 18 = .ok (.aload_n 0, 1) := by decide +kernel
theorem dX9_follows_19 : decode cX9_follows 19 = .ok (.iload_n 2, 1) := by decide +kernel
theorem dX9_follows_20 : decode cX9_follows 20 = .ok (.iload 6, 2) := by decide +kernel
theorem dX9_follows_22 : decode cX9_follows 22 = .ok (.bipush 8, 2) := by decide +kernel
theorem dX9_follows_24 : decode cX9_follows 24 = .ok (.irem, 1) := by decide +kernel
theorem dX9_follows_25 : decode cX9_follows 25 = .ok (.invokevirtual 67, 3) := by decide +kernel
theorem dX9_follows_28 : decode cX9_follows 28 = .ok (.iload 5, 2) := by decide +kernel
theorem dX9_follows_30 : decode cX9_follows 30 = .ok (.invokestatic 125, 3) := by decide +kernel
theorem dX9_follows_33 : decode cX9_follows 33 = .ok (.istore 7, 2) := by decide +kernel
theorem dX9_follows_35 : decode cX9_follows 35 = .ok (.iload 7, 2) := by decide +kernel
theorem dX9_follows_37 : decode cX9_follows 37 = .ok (.ifCond .eq 16, 3) := by decide +kernel
theorem dX9_follows_40 : decode cX9_follows 40 = .ok (.aload_n 0, 1) := by decide +kernel
theorem dX9_follows_41 : decode cX9_follows 41 = .ok (.iload_n 1, 1) := by decide +kernel
theorem dX9_follows_42 : decode cX9_follows 42 = .ok (.iload_n 2, 1) := by decide +kernel
theorem dX9_follows_43 : decode cX9_follows 43 = .ok (.iload 6, 2) := by decide +kernel
theorem dX9_follows_45 : decode cX9_follows 45 = .ok (.iload 4, 2) := by decide +kernel
theorem dX9_follows_47 : decode cX9_follows 47 = .ok (.invokevirtual 129, 3) := by decide +kernel
theorem dX9_follows_50 : decode cX9_follows 50 = .ok (.goto 4, 3) := by decide +kernel
theorem dX9_follows_53 : decode cX9_follows 53 = .ok (.iconst (-1), 1) := by decide +kernel
theorem dX9_follows_54 : decode cX9_follows 54 = .ok (.ireturn, 1) := by decide +kernel
theorem dX9_goThrough_0 : decode cX9_goThrough 0 = .ok (.iconst 0, 1) := by decide +kernel
theorem dX9_goThrough_1 : decode cX9_goThrough 1 = .ok (.istore 4, 2) := by decide +kernel
theorem dX9_goThrough_3 : decode cX9_goThrough 3 = .ok (.iload 4, 2) := by decide +kernel
theorem dX9_goThrough_5 : decode cX9_goThrough 5 = .ok (.bipush 64, 2) := by decide +kernel
theorem dX9_goThrough_7 : decode cX9_goThrough 7 = .ok (.if_icmp .ge 17, 3) := by decide +kernel
theorem dX9_goThrough_10 : decode cX9_goThrough 10 = .ok (.aload_n 0, 1) := by decide +kernel
theorem dX9_goThrough_11 : decode cX9_goThrough 11 = .ok (.getfield 35, 3) := by decide +kernel
theorem dX9_goThrough_14 : decode cX9_goThrough 14 = .ok (.iload 4, 2) := by decide +kernel
theorem dX9_goThrough_16 : decode cX9_goThrough 16 = .ok (.iconst (-1), 1) := by decide +kernel
theorem dX9_goThrough_17 : decode cX9_goThrough 17 = .ok (.iastore, 1) := by decide +kernel
theorem dX9_goThrough_18 : decode cX9_goThrough 18 = .ok (.iinc 4 1, 3) := by decide +kernel
theorem dX9_goThrough_21 : decode cX9_goThrough 21 = .ok (.goto (-18), 3) := by decide +kernel
theorem dX9_goThrough_24 : decode cX9_goThrough 24 = .ok (.aload_n 0, 1) := by decide +kernel
theorem dX9_goThrough_25 : decode cX9_goThrough 25 = .ok (.iconst 0, 1) := by decide +kernel
theorem dX9_goThrough_26 : decode cX9_goThrough 26 = .ok (.putfield 122, 3) := by decide +kernel
theorem dX9_goThrough_29 : decode cX9_goThrough 29 = .ok (.aload_n 0, 1) := by decide +kernel
theorem dX9_goThrough_30 : decode cX9_goThrough 30 = .ok (.iconst 0, 1) := by decide +kernel
theorem dX9_goThrough_31 : decode cX9_goThrough 31 = .ok (.iconst (-1), 1) := by decide +kernel
theorem dX9_goThrough_32 : decode cX9_goThrough 32 = .ok (.iconst (-1), 1) := by decide +kernel
theorem dX9_goThrough_33 : decode cX9_goThrough 33 = .ok (.invokevirtual 133, 3) := by decide +kernel
theorem dX9_goThrough_36 : decode cX9_goThrough 36 = .ok (.iconst 0, 1) := by decide +kernel
theorem dX9_goThrough_37 : decode cX9_goThrough 37 = .ok (.istore 4, 2) := by decide +kernel
theorem dX9_goThrough_39 : decode cX9_goThrough 39 = .ok (.iload 4, 2) := by decide +kernel
theorem dX9_goThrough_41 : decode cX9_goThrough 41 = .ok (.aload_n 0, 1) := by decide +kernel
theorem dX9_goThrough_42 : decode cX9_goThrough 42 = .ok (.getfield 122, 3) := by decide +kernel
theorem dX9_goThrough_45 : decode cX9_goThrough 45 = .ok (.if_icmp .ge 53, 3) := by decide +kernel
theorem dX9_goThrough_48 : decode cX9_goThrough 48 = .ok (.iconst 0, 1) := by decide +kernel
theorem dX9_goThrough_49 : decode cX9_goThrough 49 = .ok (.istore 5, 2) := by decide +kernel
theorem dX9_goThrough_51 : decode cX9_goThrough 51 = .ok (.iload 5, 2) := by decide +kernel
theorem dX9_goThrough_53 : decode cX9_goThrough 53 = .ok (.bipush 6, 2) := by decide +kernel
theorem dX9_goThrough_55 : decode cX9_goThrough 55 = .ok (.if_icmp .ge 37, 3) := by decide +kernel
theorem dX9_goThrough_58 : decode cX9_goThrough 58 = .ok (.aload_n 0, 1) := by decide +kernel
theorem dX9_goThrough_59 : decode cX9_goThrough 59 = .ok (.iload_n 1, 1) := by decide +kernel
theorem dX9_goThrough_60 : decode cX9_goThrough 60 = .ok (.iload_n 2, 1) := by decide +kernel
theorem dX9_goThrough_61 : decode cX9_goThrough 61 = .ok (.iload 4, 2) := by decide +kernel
theorem dX9_goThrough_63 : decode cX9_goThrough 63 = .ok (.iload 5, 2) := by decide +kernel
theorem dX9_goThrough_65 : decode cX9_goThrough 65 = .ok (.iload_n 3, 1) := by decide +kernel
theorem dX9_goThrough_66 : decode cX9_goThrough 66 = .ok (.invokevirtual 137, 3) := by decide +kernel
theorem dX9_goThrough_69 : decode cX9_goThrough 69 = .ok (.istore 6, 2) := by decide +kernel
theorem dX9_goThrough_71 : decode cX9_goThrough 71 = .ok (.iload 6, 2) := by decide +kernel
theorem dX9_goThrough_73 : decode cX9_goThrough 73 = .ok (.ifCond .lt 13, 3) := by decide +kernel
theorem dX9_goThrough_76 : decode cX9_goThrough 76 = .ok (.aload_n 0, 1) := by decide +kernel
theorem dX9_goThrough_77 : decode cX9_goThrough 77 = .ok (.iload 6, 2) := by decide +kernel
theorem dX9_goThrough_79 : decode cX9_goThrough 79 = .ok (.iload 4, 2) := by decide +kernel
theorem dX9_goThrough_81 : decode cX9_goThrough 81 = .ok (.iload 5, 2) := by decide +kernel
theorem dX9_goThrough_83 : decode cX9_goThrough 83 = .ok (.invokevirtual 133, 3) := by decide +kernel
theorem dX9_goThrough_86 : decode cX9_goThrough 86 = .ok (.iinc 5 1, 3) := by decide +kernel
theorem dX9_goThrough_89 : decode cX9_goThrough 89 = .ok (.goto (-38), 3) := by decide +kernel
theorem dX9_goThrough_92 : decode cX9_goThrough 92 = .ok (.iinc 4 1, 3) := by decide +kernel
theorem dX9_goThrough_95 : decode cX9_goThrough 95 = .ok (.goto (-56), 3) := by decide +kernel
theorem dX9_goThrough_98 : decode cX9_goThrough 98 = .ok (.return_, 1) := by decide +kernel
theorem dX9_wordOf_0 : decode cX9_wordOf 0 = .ok (.iload_n 2, 1) := by decide +kernel
theorem dX9_wordOf_1 : decode cX9_wordOf 1 = .ok (.aload_n 0, 1) := by decide +kernel
theorem dX9_wordOf_2 : decode cX9_wordOf 2 = .ok (.getfield 32, 3) := by decide +kernel
theorem dX9_wordOf_5 : decode cX9_wordOf 5 = .ok (.iload_n 1, 1) := by decide +kernel
theorem dX9_wordOf_6 : decode cX9_wordOf 6 = .ok (.iaload, 1) := by decide +kernel
theorem dX9_wordOf_7 : decode cX9_wordOf 7 = .ok (.if_icmp .lt 6, 3) := by decide +kernel
theorem dX9_wordOf_10 : decode cX9_wordOf 10 = .ok (.ldc 121, 2) := by decide +kernel
theorem dX9_wordOf_12 : decode cX9_wordOf 12 = .ok (.ireturn, 1) := by decide +kernel
theorem dX9_wordOf_13 : decode cX9_wordOf 13 = .ok (.iload_n 1, 1) := by decide +kernel
theorem dX9_wordOf_14 : decode cX9_wordOf 14 = .ok (.istore_n 3, 1) := by decide +kernel
theorem dX9_wordOf_15 : decode cX9_wordOf 15 = .ok (.aload_n 0, 1) := by decide +kernel
theorem dX9_wordOf_16 : decode cX9_wordOf 16 = .ok (.getfield 32, 3) := by decide +kernel
theorem dX9_wordOf_19 : decode cX9_wordOf 19 = .ok (.iload_n 3, 1) := by decide +kernel
theorem dX9_wordOf_20 : decode cX9_wordOf 20 = .ok (.iaload, 1) := by decide +kernel
theorem dX9_wordOf_21 : decode cX9_wordOf 21 = .ok (.iload_n 2, 1) := by decide +kernel
theorem dX9_wordOf_22 : decode cX9_wordOf 22 = .ok (.iconst 1, 1) := by decide +kernel
theorem dX9_wordOf_23 : decode cX9_wordOf 23 = .ok (.iadd, 1) := by decide +kernel
theorem dX9_wordOf_24 : decode cX9_wordOf 24 = .ok (.if_icmp .le 13, 3) := by decide +kernel
theorem dX9_wordOf_27 : decode cX9_wordOf 27 = .ok (.aload_n 0, 1) := by decide +kernel
theorem dX9_wordOf_28 : decode cX9_wordOf 28 = .ok (.getfield 26, 3) := by decide +kernel
theorem dX9_wordOf_31 : decode cX9_wordOf 31 = .ok (.iload_n 3, 1) := by decide +kernel
theorem dX9_wordOf_32 : decode cX9_wordOf 32 = .ok (.iaload, 1) := by decide +kernel
theorem dX9_wordOf_33 : decode cX9_wordOf 33 = .ok (.istore_n 3, 1) := by decide +kernel
theorem dX9_wordOf_34 : decode cX9_wordOf 34 = .ok (.goto (-19), 3) := by decide +kernel
theorem dX9_wordOf_37 : decode cX9_wordOf 37 = .ok (.aload_n 0, 1) := by decide +kernel
theorem dX9_wordOf_38 : decode cX9_wordOf 38 = .ok (.getfield 29, 3) := by decide +kernel
theorem dX9_wordOf_41 : decode cX9_wordOf 41 = .ok (.iload_n 3, 1) := by decide +kernel
theorem dX9_wordOf_42 : decode cX9_wordOf 42 = .ok (.iaload, 1) := by decide +kernel
theorem dX9_wordOf_43 : decode cX9_wordOf 43 = .ok (.ireturn, 1) := by decide +kernel
theorem dX9_lacking_0 : decode cX9_lacking 0 = .ok (.iload_n 0, 1) := by decide +kernel
theorem dX9_lacking_1 : decode cX9_lacking 1 = .ok (.iload_n 1, 1) := by decide +kernel
theorem dX9_lacking_2 : decode cX9_lacking 2 = .ok (.iconst (-1), 1) := by decide +kernel
theorem dX9_lacking_3 : decode cX9_lacking 3 = .ok (.ixor, 1) := by decide +kernel
theorem dX9_lacking_4 : decode cX9_lacking 4 = .ok (.iand, 1) := by decide +kernel
theorem dX9_lacking_5 : decode cX9_lacking 5 = .ok (.istore_n 2, 1) := by decide +kernel
theorem dX9_lacking_6 : decode cX9_lacking 6 = .ok (.iload_n 2, 1) := by decide +kernel
theorem dX9_lacking_7 : decode cX9_lacking 7 = .ok (.ifCond .ne 8, 3) := by decide +kernel
theorem dX9_lacking_10 : decode cX9_lacking 10 = .ok (.ldc 121, 2) := by decide +kernel
theorem dX9_lacking_12 : decode cX9_lacking 12 = .ok (.goto 7, 3) := by decide +kernel
theorem dX9_lacking_15 : decode cX9_lacking 15 = .ok (.iload_n 2, 1) := by decide +kernel
theorem dX9_lacking_16 : decode cX9_lacking 16 = .ok (.invokestatic 112, 3) := by decide +kernel
theorem dX9_lacking_19 : decode cX9_lacking 19 = .ok (.ireturn, 1) := by decide +kernel
theorem dX9_missing_0 : decode cX9_missing 0 = .ok (.aload_n 0, 1) := by decide +kernel
theorem dX9_missing_1 : decode cX9_missing 1 = .ok (.getfield 23, 3) := by decide +kernel
theorem dX9_missing_4 : decode cX9_missing 4 = .ok (.iload_n 3, 1) := by decide +kernel
theorem dX9_missing_5 : decode cX9_missing 5 = .ok (.iaload, 1) := by decide +kernel
theorem dX9_missing_6 : decode cX9_missing 6 = .ok (.bipush 8, 2) := by decide +kernel
theorem dX9_missing_8 : decode cX9_missing 8 = .ok (.idiv, 1) := by decide +kernel
theorem dX9_missing_9 : decode cX9_missing 9 = .ok (.istore 4, 2) := by decide +kernel
theorem dX9_missing_11 : decode cX9_missing 11 = .ok (.aload_n 0, 1) := by decide +kernel
theorem dX9_missing_12 : decode cX9_missing 12 = .ok (.getfield 23, 3) := by decide +kernel
theorem dX9_missing_15 : decode cX9_missing 15 = .ok (.iload_n 3, 1) := by decide +kernel
theorem dX9_missing_16 : decode cX9_missing 16 = .ok (.iaload, 1) := by decide +kernel
theorem dX9_missing_17 : decode cX9_missing 17 = .ok (.bipush 8, 2) := by decide +kernel
theorem dX9_missing_19 : decode cX9_missing 19 = .ok (.irem, 1) := by decide +kernel
theorem dX9_missing_20 : decode cX9_missing 20 = .ok (.istore 5, 2) := by decide +kernel
theorem dX9_missing_22 : decode cX9_missing 22 = .ok (.aload_n 0, 1) := by decide +kernel
theorem dX9_missing_23 : decode cX9_missing 23 = .ok (.iload_n 1, 1) := by decide +kernel
theorem dX9_missing_24 : decode cX9_missing 24 = .ok (.iload 4, 2) := by decide +kernel
theorem dX9_missing_26 : decode cX9_missing 26 = .ok (.invokevirtual 67, 3) := by decide +kernel
theorem dX9_missing_29 : decode cX9_missing 29 = .ok (.aload_n 0, 1) := by decide +kernel
theorem dX9_missing_30 : decode cX9_missing 30 = .ok (.iload_n 2, 1) := by decide +kernel
theorem dX9_missing_31 : decode cX9_missing 31 = .ok (.iload 5, 2) := by decide +kernel
theorem dX9_missing_33 : decode cX9_missing 33 = .ok (.invokevirtual 67, 3) := by decide +kernel
theorem dX9_missing_36 : decode cX9_missing 36 = .ok (.iconst 1, 1) := by decide +kernel
theorem dX9_missing_37 : decode cX9_missing 37 = .ok (.invokestatic 125, 3) := by decide +kernel
theorem dX9_missing_40 : decode cX9_missing 40 = .ok (.ifCond .ne 6, 3) := by decide +kernel
theorem dX9_missing_43 : decode cX9_missing 43 = .ok (.ldc 121, 2) := by decide +kernel
theorem dX9_missing_45 : decode cX9_missing 45 = .ok (.ireturn, 1) := by decide +kernel
theorem dX9_missing_46 : decode cX9_missing 46 = .ok (.aload_n 0, 1) := by decide +kernel
theorem dX9_missing_47 : decode cX9_missing 47 = .ok (.iload_n 1, 1) := by decide +kernel
theorem dX9_missing_48 : decode cX9_missing 48 = .ok (.iload 4, 2) := by decide +kernel
theorem dX9_missing_50 : decode cX9_missing 50 = .ok (.invokevirtual 67, 3) := by decide +kernel
theorem dX9_missing_53 : decode cX9_missing 53 = .ok (.iconst 1, 1) := by decide +kernel
theorem dX9_missing_54 : decode cX9_missing 54 = .ok (.if_icmp .ne 7, 3) := by decide +kernel
theorem dX9_missing_57 : decode cX9_missing 57 = .ok (.iconst 1, 1) := by decide +kernel
theorem dX9_missing_58 : decode cX9_missing 58 = .ok (.goto 4, 3) := by decide +kernel
theorem dX9_missing_61 : decode cX9_missing 61 = .ok (.iconst 0, 1) := by decide +kernel
theorem dX9_missing_62 : decode cX9_missing 62 = .ok (.istore 6, 2) := by decide +kernel
theorem dX9_missing_64 : decode cX9_missing 64 = .ok (.aload_n 0, 1) := by decide +kernel
theorem dX9_missing_65 : decode cX9_missing 65 = .ok (.iload_n 1, 1) := by decide +kernel
theorem dX9_missing_66 : decode cX9_missing 66 = .ok (.iload 4, 2) := by decide +kernel
theorem dX9_missing_68 : decode cX9_missing 68 = .ok (.invokevirtual 88, 3) := by decide +kernel
theorem dX9_missing_71 : decode cX9_missing 71 = .ok (.istore 7, 2) := by decide +kernel
theorem dX9_missing_73 : decode cX9_missing 73 = .ok (.aload_n 0, 1) := by decide +kernel
theorem dX9_missing_74 : decode cX9_missing 74 = .ok (.iload_n 2, 1) := by decide +kernel
theorem dX9_missing_75 : decode cX9_missing 75 = .ok (.iload 5, 2) := by decide +kernel
theorem dX9_missing_77 : decode cX9_missing 77 = .ok (.invokevirtual 88, 3) := by decide +kernel
theorem dX9_missing_80 : decode cX9_missing 80 = .ok (.istore 8, 2) := by decide +kernel
theorem dX9_missing_82 : decode cX9_missing 82 = .ok (.iload 6, 2) := by decide +kernel
theorem dX9_missing_84 : decode cX9_missing 84 = .ok (.ifCond .eq 13, 3) := by decide +kernel
theorem dX9_missing_87 : decode cX9_missing 87 = .ok (.iload 7, 2) := by decide +kernel
theorem dX9_missing_89 : decode cX9_missing 89 = .ok (.iload 8, 2) := by decide +kernel
theorem dX9_missing_91 : decode cX9_missing 91 = .ok (.invokestatic 141, 3) := by decide +kernel
theorem dX9_missing_94 : decode cX9_missing 94 = .ok (.goto 10, 3) := by decide +kernel
theorem dX9_missing_97 : decode cX9_missing 97 = .ok (.iload 8, 2) := by decide +kernel
theorem dX9_missing_99 : decode cX9_missing 99 = .ok (.iload 7, 2) := by decide +kernel
theorem dX9_missing_101 : decode cX9_missing 101 = .ok (.invokestatic 141, 3) := by decide +kernel
theorem dX9_missing_104 : decode cX9_missing 104 = .ok (.ireturn, 1) := by decide +kernel
theorem dX9_why_0 : decode cX9_why 0 = .ok (.aload_n 0, 1) := by decide +kernel
theorem dX9_why_1 : decode cX9_why 1 = .ok (.iload_n 1, 1) := by decide +kernel
theorem dX9_why_2 : decode cX9_why 2 = .ok (.aload_n 0, 1) := by decide +kernel
theorem dX9_why_3 : decode cX9_why 3 = .ok (.getfield 23, 3) := by decide +kernel
theorem dX9_why_6 : decode cX9_why 6 = .ok (.iload_n 3, 1) := by decide +kernel
theorem dX9_why_7 : decode cX9_why 7 = .ok (.iaload, 1) := by decide +kernel
theorem dX9_why_8 : decode cX9_why 8 = .ok (.bipush 8, 2) := by decide +kernel
theorem dX9_why_10 : decode cX9_why 10 = .ok (.idiv, 1) := by decide +kernel
theorem dX9_why_11 : decode cX9_why 11 = .ok (.invokevirtual 67, 3) := by decide +kernel
theorem dX9_why_14 : decode cX9_why 14 = .ok (.istore 4, 2) := by decide +kernel
theorem dX9_why_16 : decode cX9_why 16 = .ok (.aload_n 0, 1) := by decide +kernel
theorem dX9_why_17 : decode cX9_why 17 = .ok (.iload_n 2, 1) := by decide +kernel
theorem dX9_why_18 : decode cX9_why 18 = .ok (.aload_n 0, 1) := by decide +kernel
theorem dX9_why_19 : decode cX9_why 19 = .ok (.getfield 23, 3) := by decide +kernel
theorem dX9_why_22 : decode cX9_why 22 = .ok (.iload_n 3, 1) := by decide +kernel
theorem dX9_why_23 : decode cX9_why 23 = .ok (.iaload, 1) := by decide +kernel
theorem dX9_why_24 : decode cX9_why 24 = .ok (.bipush 8, 2) := by decide +kernel
theorem dX9_why_26 : decode cX9_why 26 = .ok (.irem, 1) := by decide +kernel
theorem dX9_why_27 : decode cX9_why 27 = .ok (.invokevirtual 67, 3) := by decide +kernel
theorem dX9_why_30 : decode cX9_why 30 = .ok (.istore 5, 2) := by decide +kernel
theorem dX9_why_32 : decode cX9_why 32 = .ok (.iload 4, 2) := by decide +kernel
theorem dX9_why_34 : decode cX9_why 34 = .ok (.ifCond .eq 8, 3) := by decide +kernel
theorem dX9_why_37 : decode cX9_why 37 = .ok (.iload 5, 2) := by decide +kernel
theorem dX9_why_39 : decode cX9_why 39 = .ok (.ifCond .ne 16, 3) := by decide +kernel
theorem dX9_why_42 : decode cX9_why 42 = .ok (.iload 4, 2) := by decide +kernel
theorem dX9_why_44 : decode cX9_why 44 = .ok (.iload 5, 2) := by decide +kernel
theorem dX9_why_46 : decode cX9_why 46 = .ok (.if_icmp .ne 7, 3) := by decide +kernel
theorem dX9_why_49 : decode cX9_why 49 = .ok (.iconst 0, 1) := by decide +kernel
theorem dX9_why_50 : decode cX9_why 50 = .ok (.goto 4, 3) := by decide +kernel
theorem dX9_why_53 : decode cX9_why 53 = .ok (.iconst 1, 1) := by decide +kernel
theorem dX9_why_54 : decode cX9_why 54 = .ok (.ireturn, 1) := by decide +kernel
theorem dX9_why_55 : decode cX9_why 55 = .ok (.iload 4, 2) := by decide +kernel
theorem dX9_why_57 : decode cX9_why 57 = .ok (.iload 5, 2) := by decide +kernel
theorem dX9_why_59 : decode cX9_why 59 = .ok (.if_icmp .ne 15, 3) := by decide +kernel
theorem dX9_why_62 : decode cX9_why 62 = .ok (.iload 4, 2) := by decide +kernel
theorem dX9_why_64 : decode cX9_why 64 = .ok (.iconst 2, 1) := by decide +kernel
theorem dX9_why_65 : decode cX9_why 65 = .ok (.if_icmp .ne 7, 3) := by decide +kernel
theorem dX9_why_68 : decode cX9_why 68 = .ok (.iconst 2, 1) := by decide +kernel
theorem dX9_why_69 : decode cX9_why 69 = .ok (.goto 4, 3) := by decide +kernel
theorem dX9_why_72 : decode cX9_why 72 = .ok (.iconst 3, 1) := by decide +kernel
theorem dX9_why_73 : decode cX9_why 73 = .ok (.ireturn, 1) := by decide +kernel
theorem dX9_why_74 : decode cX9_why 74 = .ok (.iload 4, 2) := by decide +kernel
theorem dX9_why_76 : decode cX9_why 76 = .ok (.iconst 1, 1) := by decide +kernel
theorem dX9_why_77 : decode cX9_why 77 = .ok (.if_icmp .ne 20, 3) := by decide +kernel
theorem dX9_why_80 : decode cX9_why 80 = .ok (.aload_n 0, 1) := by decide +kernel
theorem dX9_why_81 : decode cX9_why 81 = .ok (.iload_n 1, 1) := by decide +kernel
theorem dX9_why_82 : decode cX9_why 82 = .ok (.aload_n 0, 1) := by decide +kernel
theorem dX9_why_83 : decode cX9_why 83 = .ok (.getfield 23, 3) := by decide +kernel
theorem dX9_why_86 : decode cX9_why 86 = .ok (.iload_n 3, 1) := by decide +kernel
theorem dX9_why_87 : decode cX9_why 87 = .ok (.iaload, 1) := by decide +kernel
theorem dX9_why_88 : decode cX9_why 88 = .ok (.bipush 8, 2) := by decide +kernel
theorem dX9_why_90 : decode cX9_why 90 = .ok (.idiv, 1) := by decide +kernel
theorem dX9_why_91 : decode cX9_why 91 = .ok (.invokevirtual 88, 3) := by decide +kernel
theorem dX9_why_94 : decode cX9_why 94 = .ok (.goto 17, 3) := by decide +kernel
theorem dX9_why_97 : decode cX9_why 97 = .ok (.aload_n 0, 1) := by decide +kernel
theorem dX9_why_98 : decode cX9_why 98 = .ok (.iload_n 2, 1) := by decide +kernel
theorem dX9_why_99 : decode cX9_why 99 = .ok (.aload_n 0, 1) := by decide +kernel
theorem dX9_why_100 : decode cX9_why 100 = .ok (.getfield 23, 3) := by decide +kernel
theorem dX9_why_103 : decode cX9_why 103 = .ok (.iload_n 3, 1) := by decide +kernel
theorem dX9_why_104 : decode cX9_why 104 = .ok (.iaload, 1) := by decide +kernel
theorem dX9_why_105 : decode cX9_why 105 = .ok (.bipush 8, 2) := by decide +kernel
theorem dX9_why_107 : decode cX9_why 107 = .ok (.irem, 1) := by decide +kernel
theorem dX9_why_108 : decode cX9_why 108 = .ok (.invokevirtual 88, 3) := by decide +kernel
theorem dX9_why_111 : decode cX9_why 111 = .ok (.istore 6, 2) := by decide +kernel
theorem dX9_why_113 : decode cX9_why 113 = .ok (.iload 6, 2) := by decide +kernel
theorem dX9_why_115 : decode cX9_why 115 = .ok (.ifCond .ne 7, 3) := by decide +kernel
theorem dX9_why_118 : decode cX9_why 118 = .ok (.iconst 4, 1) := by decide +kernel
theorem dX9_why_119 : decode cX9_why 119 = .ok (.goto 18, 3) := by decide +kernel
theorem dX9_why_122 : decode cX9_why 122 = .ok (.aload_n 0, 1) := by decide +kernel
theorem dX9_why_123 : decode cX9_why 123 = .ok (.iload_n 1, 1) := by decide +kernel
theorem dX9_why_124 : decode cX9_why 124 = .ok (.iload_n 2, 1) := by decide +kernel
theorem dX9_why_125 : decode cX9_why 125 = .ok (.iload_n 3, 1) := by decide +kernel
theorem dX9_why_126 : decode cX9_why 126 = .ok (.invokevirtual 144, 3) := by decide +kernel
theorem dX9_why_129 : decode cX9_why 129 = .ok (.ifCond .lt 7, 3) := by decide +kernel
theorem dX9_why_132 : decode cX9_why 132 = .ok (.iconst 5, 1) := by decide +kernel
theorem dX9_why_133 : decode cX9_why 133 = .ok (.goto 4, 3) := by decide +kernel
theorem dX9_why_136 : decode cX9_why 136 = .ok (.iconst 0, 1) := by decide +kernel
theorem dX9_why_137 : decode cX9_why 137 = .ok (.ireturn, 1) := by decide +kernel
theorem dX9_isEnd_0 : decode cX9_isEnd 0 = .ok (.aload_n 0, 1) := by decide +kernel
theorem dX9_isEnd_1 : decode cX9_isEnd 1 = .ok (.iload_n 1, 1) := by decide +kernel
theorem dX9_isEnd_2 : decode cX9_isEnd 2 = .ok (.aload_n 0, 1) := by decide +kernel
theorem dX9_isEnd_3 : decode cX9_isEnd 3 = .ok (.getfield 23, 3) := by decide +kernel
theorem dX9_isEnd_6 : decode cX9_isEnd 6 = .ok (.iload_n 3, 1) := by decide +kernel
theorem dX9_isEnd_7 : decode cX9_isEnd 7 = .ok (.iaload, 1) := by decide +kernel
theorem dX9_isEnd_8 : decode cX9_isEnd 8 = .ok (.bipush 8, 2) := by decide +kernel
theorem dX9_isEnd_10 : decode cX9_isEnd 10 = .ok (.idiv, 1) := by decide +kernel
theorem dX9_isEnd_11 : decode cX9_isEnd 11 = .ok (.invokevirtual 67, 3) := by decide +kernel
theorem dX9_isEnd_14 : decode cX9_isEnd 14 = .ok (.ifCond .ne 24, 3) := by decide +kernel
theorem dX9_isEnd_17 : decode cX9_isEnd 17 = .ok (.aload_n 0, 1) := by decide +kernel
theorem dX9_isEnd_18 : decode cX9_isEnd 18 = .ok (.iload_n 2, 1) := by decide +kernel
theorem dX9_isEnd_19 : decode cX9_isEnd 19 = .ok (.aload_n 0, 1) := by decide +kernel
theorem dX9_isEnd_20 : decode cX9_isEnd 20 = .ok (.getfield 23, 3) := by decide +kernel
theorem dX9_isEnd_23 : decode cX9_isEnd 23 = .ok (.iload_n 3, 1) := by decide +kernel
theorem dX9_isEnd_24 : decode cX9_isEnd 24 = .ok (.iaload, 1) := by decide +kernel
theorem dX9_isEnd_25 : decode cX9_isEnd 25 = .ok (.bipush 8, 2) := by decide +kernel
theorem dX9_isEnd_27 : decode cX9_isEnd 27 = .ok (.irem, 1) := by decide +kernel
theorem dX9_isEnd_28 : decode cX9_isEnd 28 = .ok (.invokevirtual 67, 3) := by decide +kernel
theorem dX9_isEnd_31 : decode cX9_isEnd 31 = .ok (.ifCond .ne 7, 3) := by decide +kernel
theorem dX9_isEnd_34 : decode cX9_isEnd 34 = .ok (.iconst 1, 1) := by decide +kernel
theorem dX9_isEnd_35 : decode cX9_isEnd 35 = .ok (.goto 4, 3) := by decide +kernel
theorem dX9_isEnd_38 : decode cX9_isEnd 38 = .ok (.iconst 0, 1) := by decide +kernel
theorem dX9_isEnd_39 : decode cX9_isEnd 39 = .ok (.ireturn, 1) := by decide +kernel
theorem dX9_isRowAsked_0 : decode cX9_isRowAsked 0 = .ok (.iload_n 0, 1) := by decide +kernel
theorem dX9_isRowAsked_1 : decode cX9_isRowAsked 1 = .ok (.iconst 0, 1) := by decide +kernel
theorem dX9_isRowAsked_2 : decode cX9_isRowAsked 2 = .ok (.iload_n 1, 1) := by decide +kernel
theorem dX9_isRowAsked_3 : decode cX9_isRowAsked 3 = .ok (.invokestatic 59, 3) := by decide +kernel
theorem dX9_isRowAsked_6 : decode cX9_isRowAsked 6 = .ok (.ifCond .ne 14, 3) := by decide +kernel
theorem dX9_isRowAsked_9 : decode cX9_isRowAsked 9 = .ok (.iload_n 0, 1) := by decide +kernel
theorem dX9_isRowAsked_10 : decode cX9_isRowAsked 10 = .ok (.bipush 10, 2) := by decide +kernel
theorem dX9_isRowAsked_12 : decode cX9_isRowAsked 12 = .ok (.bipush 73, 2) := by decide +kernel
theorem dX9_isRowAsked_14 : decode cX9_isRowAsked 14 = .ok (.invokestatic 59, 3) := by decide +kernel
theorem dX9_isRowAsked_17 : decode cX9_isRowAsked 17 = .ok (.ifCond .eq 7, 3) := by decide +kernel
theorem dX9_isRowAsked_20 : decode cX9_isRowAsked 20 = .ok (.iconst 1, 1) := by decide +kernel
theorem dX9_isRowAsked_21 : decode cX9_isRowAsked 21 = .ok (.goto 4, 3) := by decide +kernel
theorem dX9_isRowAsked_24 : decode cX9_isRowAsked 24 = .ok (.iconst 0, 1) := by decide +kernel
theorem dX9_isRowAsked_25 : decode cX9_isRowAsked 25 = .ok (.ireturn, 1) := by decide +kernel
theorem dX9_firstStuck_0 : decode cX9_firstStuck 0 = .ok (.iconst 0, 1) := by decide +kernel
theorem dX9_firstStuck_1 : decode cX9_firstStuck 1 = .ok (.istore_n 3, 1) := by decide +kernel
theorem dX9_firstStuck_2 : decode cX9_firstStuck 2 = .ok (.iload_n 3, 1) := by decide +kernel
theorem dX9_firstStuck_3 : decode cX9_firstStuck 3 = .ok (.aload_n 0, 1) := by decide +kernel
theorem dX9_firstStuck_4 : decode cX9_firstStuck 4 = .ok (.getfield 122, 3) := by decide +kernel
theorem dX9_firstStuck_7 : decode cX9_firstStuck 7 = .ok (.if_icmp .ge 21, 3) := by decide +kernel
theorem dX9_firstStuck_10 : decode cX9_firstStuck 10 = .ok (.aload_n 0, 1) := by decide +kernel
theorem dX9_firstStuck_11 : decode cX9_firstStuck 11 = .ok (.iload_n 1, 1) := by decide +kernel
theorem dX9_firstStuck_12 : decode cX9_firstStuck 12 = .ok (.iload_n 2, 1) := by decide +kernel
theorem dX9_firstStuck_13 : decode cX9_firstStuck 13 = .ok (.iload_n 3, 1) := by decide +kernel
theorem dX9_firstStuck_14 : decode cX9_firstStuck 14 = .ok (.invokevirtual 147, 3) := by decide +kernel
theorem dX9_firstStuck_17 : decode cX9_firstStuck 17 = .ok (.ifCond .le 5, 3) := by decide +kernel
theorem dX9_firstStuck_20 : decode cX9_firstStuck 20 = .ok (.iload_n 3, 1) := by decide +kernel
theorem dX9_firstStuck_21 : decode cX9_firstStuck 21 = .ok (.ireturn, 1) := by decide +kernel
theorem dX9_firstStuck_22 : decode cX9_firstStuck 22 = .ok (.iinc 3 1, 3) := by decide +kernel
theorem dX9_firstStuck_25 : decode cX9_firstStuck 25 = .ok (.goto (-23), 3) := by decide +kernel
theorem dX9_firstStuck_28 : decode cX9_firstStuck 28 = .ok (.iconst (-1), 1) := by decide +kernel
theorem dX9_firstStuck_29 : decode cX9_firstStuck 29 = .ok (.ireturn, 1) := by decide +kernel
theorem dX9_pairOf_0 : decode cX9_pairOf 0 = .ok (.iload_n 1, 1) := by decide +kernel
theorem dX9_pairOf_1 : decode cX9_pairOf 1 = .ok (.invokestatic 74, 3) := by decide +kernel
theorem dX9_pairOf_4 : decode cX9_pairOf 4 = .ok (.ifCond .eq 24, 3) := by decide +kernel
theorem dX9_pairOf_7 : decode cX9_pairOf 7 = .ok (.iload_n 2, 1) := by decide +kernel
theorem dX9_pairOf_8 : decode cX9_pairOf 8 = .ok (.invokestatic 74, 3) := by decide +kernel
theorem dX9_pairOf_11 : decode cX9_pairOf 11 = .ok (.ifCond .eq 17, 3) := by decide +kernel
theorem dX9_pairOf_14 : decode cX9_pairOf 14 = .ok (.iload_n 3, 1) := by decide +kernel
theorem dX9_pairOf_15 : decode cX9_pairOf 15 = .ok (.iconst (-1), 1) := by decide +kernel
theorem dX9_pairOf_16 : decode cX9_pairOf 16 = .ok (.if_icmp .lt 12, 3) := by decide +kernel
theorem dX9_pairOf_19 : decode cX9_pairOf 19 = .ok (.iload 4, 2) := by decide +kernel
theorem dX9_pairOf_21 : decode cX9_pairOf 21 = .ok (.iconst 4, 1) := by decide +kernel
theorem dX9_pairOf_22 : decode cX9_pairOf 22 = .ok (.invokestatic 150, 3) := by decide +kernel
theorem dX9_pairOf_25 : decode cX9_pairOf 25 = .ok (.ifCond .ne 6, 3) := by decide +kernel
theorem dX9_pairOf_28 : decode cX9_pairOf 28 = .ok (.ldc 81, 2) := by decide +kernel
theorem dX9_pairOf_30 : decode cX9_pairOf 30 = .ok (.ireturn, 1) := by decide +kernel
theorem dX9_pairOf_31 : decode cX9_pairOf 31 = .ok (.aload_n 0, 1) := by decide +kernel
theorem dX9_pairOf_32 : decode cX9_pairOf 32 = .ok (.iload_n 1, 1) := by decide +kernel
theorem dX9_pairOf_33 : decode cX9_pairOf 33 = .ok (.iload_n 2, 1) := by decide +kernel
theorem dX9_pairOf_34 : decode cX9_pairOf 34 = .ok (.iconst 1, 1) := by decide +kernel
theorem dX9_pairOf_35 : decode cX9_pairOf 35 = .ok (.invokevirtual 154, 3) := by decide +kernel
theorem dX9_pairOf_38 : decode cX9_pairOf 38 = .ok (.iload_n 3, 1) := by decide +kernel
theorem dX9_pairOf_39 : decode cX9_pairOf 39 = .ok (.ifCond .ge 12, 3) := by decide +kernel
theorem dX9_pairOf_42 : decode cX9_pairOf 42 = .ok (.aload_n 0, 1) := by decide +kernel
theorem dX9_pairOf_43 : decode cX9_pairOf 43 = .ok (.iload_n 1, 1) := by decide +kernel
theorem dX9_pairOf_44 : decode cX9_pairOf 44 = .ok (.iload_n 2, 1) := by decide +kernel
theorem dX9_pairOf_45 : decode cX9_pairOf 45 = .ok (.invokevirtual 158, 3) := by decide +kernel
theorem dX9_pairOf_48 : decode cX9_pairOf 48 = .ok (.goto 4, 3) := by decide +kernel
theorem dX9_pairOf_51 : decode cX9_pairOf 51 = .ok (.iload_n 3, 1) := by decide +kernel
theorem dX9_pairOf_52 : decode cX9_pairOf 52 = .ok (.istore 5, 2) := by decide +kernel
theorem dX9_pairOf_54 : decode cX9_pairOf 54 = .ok (.iload 5, 2) := by decide +kernel
theorem dX9_pairOf_56 : decode cX9_pairOf 56 = .ok (.iconst 0, 1) := by decide +kernel
theorem dX9_pairOf_57 : decode cX9_pairOf 57 = .ok (.aload_n 0, 1) := by decide +kernel
theorem dX9_pairOf_58 : decode cX9_pairOf 58 = .ok (.getfield 122, 3) := by decide +kernel
theorem dX9_pairOf_61 : decode cX9_pairOf 61 = .ok (.iconst 1, 1) := by decide +kernel
theorem dX9_pairOf_62 : decode cX9_pairOf 62 = .ok (.isub, 1) := by decide +kernel
theorem dX9_pairOf_63 : decode cX9_pairOf 63 = .ok (.invokestatic 59, 3) := by decide +kernel
theorem dX9_pairOf_66 : decode cX9_pairOf 66 = .ok (.ifCond .ne 6, 3) := by decide +kernel
theorem dX9_pairOf_69 : decode cX9_pairOf 69 = .ok (.ldc 121, 2) := by decide +kernel
theorem dX9_pairOf_71 : decode cX9_pairOf 71 = .ok (.ireturn, 1) := by decide +kernel
theorem dX9_pairOf_72 : decode cX9_pairOf 72 = .ok (.iload 4, 2) := by decide +kernel
theorem dX9_pairOf_74 : decode cX9_pairOf 74 = .ok (.tableswitch 82 0 4 #[34, 45, 56, 64, 73], 34) := by decide +kernel
theorem dX9_pairOf_108 : decode cX9_pairOf 108 = .ok (.aload_n 0, 1) := by decide +kernel
theorem dX9_pairOf_109 : decode cX9_pairOf 109 = .ok (.getfield 23, 3) := by decide +kernel
theorem dX9_pairOf_112 : decode cX9_pairOf 112 = .ok (.iload 5, 2) := by decide +kernel
theorem dX9_pairOf_114 : decode cX9_pairOf 114 = .ok (.iaload, 1) := by decide +kernel
theorem dX9_pairOf_115 : decode cX9_pairOf 115 = .ok (.bipush 8, 2) := by decide +kernel
theorem dX9_pairOf_117 : decode cX9_pairOf 117 = .ok (.idiv, 1) := by decide +kernel
theorem dX9_pairOf_118 : decode cX9_pairOf 118 = .ok (.ireturn, 1) := by decide +kernel
theorem dX9_pairOf_119 : decode cX9_pairOf 119 = .ok (.aload_n 0, 1) := by decide +kernel
theorem dX9_pairOf_120 : decode cX9_pairOf 120 = .ok (.getfield 23, 3) := by decide +kernel
theorem dX9_pairOf_123 : decode cX9_pairOf 123 = .ok (.iload 5, 2) := by decide +kernel
theorem dX9_pairOf_125 : decode cX9_pairOf 125 = .ok (.iaload, 1) := by decide +kernel
theorem dX9_pairOf_126 : decode cX9_pairOf 126 = .ok (.bipush 8, 2) := by decide +kernel
theorem dX9_pairOf_128 : decode cX9_pairOf 128 = .ok (.irem, 1) := by decide +kernel
theorem dX9_pairOf_129 : decode cX9_pairOf 129 = .ok (.ireturn, 1) := by decide +kernel
theorem dX9_pairOf_130 : decode cX9_pairOf 130 = .ok (.aload_n 0, 1) := by decide +kernel
theorem dX9_pairOf_131 : decode cX9_pairOf 131 = .ok (.getfield 32, 3) := by decide +kernel
theorem dX9_pairOf_134 : decode cX9_pairOf 134 = .ok (.iload 5, 2) := by decide +kernel
theorem dX9_pairOf_136 : decode cX9_pairOf 136 = .ok (.iaload, 1) := by decide +kernel
theorem dX9_pairOf_137 : decode cX9_pairOf 137 = .ok (.ireturn, 1) := by decide +kernel
theorem dX9_pairOf_138 : decode cX9_pairOf 138 = .ok (.aload_n 0, 1) := by decide +kernel
theorem dX9_pairOf_139 : decode cX9_pairOf 139 = .ok (.iload_n 1, 1) := by decide +kernel
theorem dX9_pairOf_140 : decode cX9_pairOf 140 = .ok (.iload_n 2, 1) := by decide +kernel
theorem dX9_pairOf_141 : decode cX9_pairOf 141 = .ok (.iload 5, 2) := by decide +kernel
theorem dX9_pairOf_143 : decode cX9_pairOf 143 = .ok (.invokevirtual 147, 3) := by decide +kernel
theorem dX9_pairOf_146 : decode cX9_pairOf 146 = .ok (.ireturn, 1) := by decide +kernel
theorem dX9_pairOf_147 : decode cX9_pairOf 147 = .ok (.aload_n 0, 1) := by decide +kernel
theorem dX9_pairOf_148 : decode cX9_pairOf 148 = .ok (.iload_n 1, 1) := by decide +kernel
theorem dX9_pairOf_149 : decode cX9_pairOf 149 = .ok (.iload_n 2, 1) := by decide +kernel
theorem dX9_pairOf_150 : decode cX9_pairOf 150 = .ok (.iload 5, 2) := by decide +kernel
theorem dX9_pairOf_152 : decode cX9_pairOf 152 = .ok (.invokevirtual 144, 3) := by decide +kernel
theorem dX9_pairOf_155 : decode cX9_pairOf 155 = .ok (.ireturn, 1) := by decide +kernel
theorem dX9_pairOf_156 : decode cX9_pairOf 156 = .ok (.aload_n 0, 1) := by decide +kernel
theorem dX9_pairOf_157 : decode cX9_pairOf 157 = .ok (.iload 5, 2) := by decide +kernel
theorem dX9_pairOf_159 : decode cX9_pairOf 159 = .ok (.iload 4, 2) := by decide +kernel
theorem dX9_pairOf_161 : decode cX9_pairOf 161 = .ok (.bipush 10, 2) := by decide +kernel
theorem dX9_pairOf_163 : decode cX9_pairOf 163 = .ok (.isub, 1) := by decide +kernel
theorem dX9_pairOf_164 : decode cX9_pairOf 164 = .ok (.invokevirtual 161, 3) := by decide +kernel
theorem dX9_pairOf_167 : decode cX9_pairOf 167 = .ok (.ireturn, 1) := by decide +kernel
theorem dX9_counts_0 : decode cX9_counts 0 = .ok (.aload_n 0, 1) := by decide +kernel
theorem dX9_counts_1 : decode cX9_counts 1 = .ok (.iload_n 1, 1) := by decide +kernel
theorem dX9_counts_2 : decode cX9_counts 2 = .ok (.iload_n 2, 1) := by decide +kernel
theorem dX9_counts_3 : decode cX9_counts 3 = .ok (.iload_n 3, 1) := by decide +kernel
theorem dX9_counts_4 : decode cX9_counts 4 = .ok (.invokevirtual 164, 3) := by decide +kernel
theorem dX9_counts_7 : decode cX9_counts 7 = .ok (.ifCond .eq 7, 3) := by decide +kernel
theorem dX9_counts_10 : decode cX9_counts 10 = .ok (.lconst 1, 1) := by decide +kernel
theorem dX9_counts_11 : decode cX9_counts 11 = .ok (.goto 4, 3) := by decide +kernel
theorem dX9_counts_14 : decode cX9_counts 14 = .ok (.lconst 0, 1) := by decide +kernel
theorem dX9_counts_15 : decode cX9_counts 15 = .ok (.lstore 4, 2) := by decide +kernel
theorem dX9_counts_17 : decode cX9_counts 17 = .ok (.iconst 1, 1) := by decide +kernel
theorem dX9_counts_18 : decode cX9_counts 18 = .ok (.istore 6, 2) := by decide +kernel
theorem dX9_counts_20 : decode cX9_counts 20 = .ok (.iconst 0, 1) := by decide +kernel
theorem dX9_counts_21 : decode cX9_counts 21 = .ok (.istore 7, 2) := by decide +kernel
theorem dX9_counts_23 : decode cX9_counts 23 = .ok (.iload 7, 2) := by decide +kernel
theorem dX9_counts_25 : decode cX9_counts 25 = .ok (.bipush 6, 2) := by decide +kernel
theorem dX9_counts_27 : decode cX9_counts 27 = .ok (.if_icmp .ge 79, 3) := by decide +kernel
theorem dX9_counts_30 : decode cX9_counts 30 = .ok (.aload_n 0, 1) := by decide +kernel
theorem dX9_counts_31 : decode cX9_counts 31 = .ok (.iload_n 1, 1) := by decide +kernel
theorem dX9_counts_32 : decode cX9_counts 32 = .ok (.iload_n 2, 1) := by decide +kernel
theorem dX9_counts_33 : decode cX9_counts 33 = .ok (.iload_n 3, 1) := by decide +kernel
theorem dX9_counts_34 : decode cX9_counts 34 = .ok (.iload 7, 2) := by decide +kernel
theorem dX9_counts_36 : decode cX9_counts 36 = .ok (.iconst 1, 1) := by decide +kernel
theorem dX9_counts_37 : decode cX9_counts 37 = .ok (.invokevirtual 137, 3) := by decide +kernel
theorem dX9_counts_40 : decode cX9_counts 40 = .ok (.istore 8, 2) := by decide +kernel
theorem dX9_counts_42 : decode cX9_counts 42 = .ok (.iload 6, 2) := by decide +kernel
theorem dX9_counts_44 : decode cX9_counts 44 = .ok (.ifCond .eq 27, 3) := by decide +kernel
theorem dX9_counts_47 : decode cX9_counts 47 = .ok (.iload 8, 2) := by decide +kernel
theorem dX9_counts_49 : decode cX9_counts 49 = .ok (.ifCond .lt 18, 3) := by decide +kernel
theorem dX9_counts_52 : decode cX9_counts 52 = .ok (.aload_n 0, 1) := by decide +kernel
theorem dX9_counts_53 : decode cX9_counts 53 = .ok (.getfield 42, 3) := by decide +kernel
theorem dX9_counts_56 : decode cX9_counts 56 = .ok (.aload_n 0, 1) := by decide +kernel
theorem dX9_counts_57 : decode cX9_counts 57 = .ok (.getfield 35, 3) := by decide +kernel
theorem dX9_counts_60 : decode cX9_counts 60 = .ok (.iload 8, 2) := by decide +kernel
theorem dX9_counts_62 : decode cX9_counts 62 = .ok (.iaload, 1) := by decide +kernel
theorem dX9_counts_63 : decode cX9_counts 63 = .ok (.baload, 1) := by decide +kernel
theorem dX9_counts_64 : decode cX9_counts 64 = .ok (.ifCond .eq 7, 3) := by decide +kernel
theorem dX9_counts_67 : decode cX9_counts 67 = .ok (.iconst 1, 1) := by decide +kernel
theorem dX9_counts_68 : decode cX9_counts 68 = .ok (.goto 4, 3) := by decide +kernel
theorem dX9_counts_71 : decode cX9_counts 71 = .ok (.iconst 0, 1) := by decide +kernel
theorem dX9_counts_72 : decode cX9_counts 72 = .ok (.istore 6, 2) := by decide +kernel
theorem dX9_counts_74 : decode cX9_counts 74 = .ok (.lload 4, 2) := by decide +kernel
theorem dX9_counts_76 : decode cX9_counts 76 = .ok (.iload 8, 2) := by decide +kernel
theorem dX9_counts_78 : decode cX9_counts 78 = .ok (.ifCond .ge 7, 3) := by decide +kernel
theorem dX9_counts_81 : decode cX9_counts 81 = .ok (.lconst 0, 1) := by decide +kernel
theorem dX9_counts_82 : decode cX9_counts 82 = .ok (.goto 15, 3) := by decide +kernel
theorem dX9_counts_85 : decode cX9_counts 85 = .ok (.aload_n 0, 1) := by decide +kernel
theorem dX9_counts_86 : decode cX9_counts 86 = .ok (.getfield 38, 3) := by decide +kernel
theorem dX9_counts_89 : decode cX9_counts 89 = .ok (.aload_n 0, 1) := by decide +kernel
theorem dX9_counts_90 : decode cX9_counts 90 = .ok (.getfield 35, 3) := by decide +kernel
theorem dX9_counts_93 : decode cX9_counts 93 = .ok (.iload 8, 2) := by decide +kernel
theorem dX9_counts_95 : decode cX9_counts 95 = .ok (.iaload, 1) := by decide +kernel
theorem dX9_counts_96 : decode cX9_counts 96 = .ok (.laload, 1) := by decide +kernel
theorem dX9_counts_97 : decode cX9_counts 97 = .ok (.ladd, 1) := by decide +kernel
theorem dX9_counts_98 : decode cX9_counts 98 = .ok (.lstore 4, 2) := by decide +kernel
theorem dX9_counts_100 : decode cX9_counts 100 = .ok (.iinc 7 1, 3) := by decide +kernel
theorem dX9_counts_103 : decode cX9_counts 103 = .ok (.goto (-80), 3) := by decide +kernel
theorem dX9_counts_106 : decode cX9_counts 106 = .ok (.aload_n 0, 1) := by decide +kernel
theorem dX9_counts_107 : decode cX9_counts 107 = .ok (.getfield 38, 3) := by decide +kernel
theorem dX9_counts_110 : decode cX9_counts 110 = .ok (.iload_n 3, 1) := by decide +kernel
theorem dX9_counts_111 : decode cX9_counts 111 = .ok (.lload 4, 2) := by decide +kernel
theorem dX9_counts_113 : decode cX9_counts 113 = .ok (.ldc2_w 167, 3) := by decide +kernel
theorem dX9_counts_116 : decode cX9_counts 116 = .ok (.lcmp, 1) := by decide +kernel
theorem dX9_counts_117 : decode cX9_counts 117 = .ok (.ifCond .le 9, 3) := by decide +kernel
theorem dX9_counts_120 : decode cX9_counts 120 = .ok (.ldc2_w 169, 3) := by decide +kernel
theorem dX9_counts_123 : decode cX9_counts 123 = .ok (.goto 5, 3) := by decide +kernel
theorem dX9_counts_126 : decode cX9_counts 126 = .ok (.lload 4, 2) := by decide +kernel
theorem dX9_counts_128 : decode cX9_counts 128 = .ok (.lastore, 1) := by decide +kernel
theorem dX9_counts_129 : decode cX9_counts 129 = .ok (.iload 6, 2) := by decide +kernel
theorem dX9_counts_131 : decode cX9_counts 131 = .ok (.ireturn, 1) := by decide +kernel
theorem dX9_countsAll_0 : decode cX9_countsAll 0 = .ok (.aload_n 0, 1) := by decide +kernel
theorem dX9_countsAll_1 : decode cX9_countsAll 1 = .ok (.getfield 122, 3) := by decide +kernel
theorem dX9_countsAll_4 : decode cX9_countsAll 4 = .ok (.istore_n 3, 1) := by decide +kernel
theorem dX9_countsAll_5 : decode cX9_countsAll 5 = .ok (.iconst 0, 1) := by decide +kernel
theorem dX9_countsAll_6 : decode cX9_countsAll 6 = .ok (.istore 4, 2) := by decide +kernel
theorem dX9_countsAll_8 : decode cX9_countsAll 8 = .ok (.iload 4, 2) := by decide +kernel
theorem dX9_countsAll_10 : decode cX9_countsAll 10 = .ok (.aload_n 0, 1) := by decide +kernel
theorem dX9_countsAll_11 : decode cX9_countsAll 11 = .ok (.getfield 122, 3) := by decide +kernel
theorem dX9_countsAll_14 : decode cX9_countsAll 14 = .ok (.if_icmp .ge 25, 3) := by decide +kernel
theorem dX9_countsAll_17 : decode cX9_countsAll 17 = .ok (.aload_n 0, 1) := by decide +kernel
theorem dX9_countsAll_18 : decode cX9_countsAll 18 = .ok (.getfield 42, 3) := by decide +kernel
theorem dX9_countsAll_21 : decode cX9_countsAll 21 = .ok (.iload 4, 2) := by decide +kernel
theorem dX9_countsAll_23 : decode cX9_countsAll 23 = .ok (.iconst 0, 1) := by decide +kernel
theorem dX9_countsAll_24 : decode cX9_countsAll 24 = .ok (.bastore, 1) := by decide +kernel
theorem dX9_countsAll_25 : decode cX9_countsAll 25 = .ok (.aload_n 0, 1) := by decide +kernel
theorem dX9_countsAll_26 : decode cX9_countsAll 26 = .ok (.getfield 38, 3) := by decide +kernel
theorem dX9_countsAll_29 : decode cX9_countsAll 29 = .ok (.iload 4, 2) := by decide +kernel
theorem dX9_countsAll_31 : decode cX9_countsAll 31 = .ok (.lconst 0, 1) := by decide +kernel
theorem dX9_countsAll_32 : decode cX9_countsAll 32 = .ok (.lastore, 1) := by decide +kernel
theorem dX9_countsAll_33 : decode cX9_countsAll 33 = .ok (.iinc 4 1, 3) := by decide +kernel
theorem dX9_countsAll_36 : decode cX9_countsAll 36 = .ok (.goto (-28), 3) := by decide +kernel
theorem dX9_countsAll_39 : decode cX9_countsAll 39 = .ok (.iconst 1, 1) := by decide +kernel
theorem dX9_countsAll_40 : decode cX9_countsAll 40 = .ok (.istore 4, 2) := by decide +kernel
theorem dX9_countsAll_42 : decode cX9_countsAll 42 = .ok (.iload 4, 2) := by decide +kernel
theorem dX9_countsAll_44 : decode cX9_countsAll 44 = .ok (.ifCond .eq 63, 3) := by decide +kernel
theorem dX9_countsAll_47 : decode cX9_countsAll 47 = .ok (.iconst 0, 1) := by decide +kernel
theorem dX9_countsAll_48 : decode cX9_countsAll 48 = .ok (.istore 4, 2) := by decide +kernel
theorem dX9_countsAll_50 : decode cX9_countsAll 50 = .ok (.aload_n 0, 1) := by decide +kernel
theorem dX9_countsAll_51 : decode cX9_countsAll 51 = .ok (.getfield 122, 3) := by decide +kernel
theorem dX9_countsAll_54 : decode cX9_countsAll 54 = .ok (.iconst 1, 1) := by decide +kernel
theorem dX9_countsAll_55 : decode cX9_countsAll 55 = .ok (.isub, 1) := by decide +kernel
theorem dX9_countsAll_56 : decode cX9_countsAll 56 = .ok (.istore 5, 2) := by decide +kernel
theorem dX9_countsAll_58 : decode cX9_countsAll 58 = .ok (.iload 5, 2) := by decide +kernel
theorem dX9_countsAll_60 : decode cX9_countsAll 60 = .ok (.ifCond .lt 44, 3) := by decide +kernel
theorem dX9_countsAll_63 : decode cX9_countsAll 63 = .ok (.aload_n 0, 1) := by decide +kernel
theorem dX9_countsAll_64 : decode cX9_countsAll 64 = .ok (.getfield 42, 3) := by decide +kernel
theorem dX9_countsAll_67 : decode cX9_countsAll 67 = .ok (.iload 5, 2) := by decide +kernel
theorem dX9_countsAll_69 : decode cX9_countsAll 69 = .ok (.baload, 1) := by decide +kernel
theorem dX9_countsAll_70 : decode cX9_countsAll 70 = .ok (.ifCond .ne 28, 3) := by decide +kernel
theorem dX9_countsAll_73 : decode cX9_countsAll 73 = .ok (.aload_n 0, 1) := by decide +kernel
theorem dX9_countsAll_74 : decode cX9_countsAll 74 = .ok (.iload_n 1, 1) := by decide +kernel
theorem dX9_countsAll_75 : decode cX9_countsAll 75 = .ok (.iload_n 2, 1) := by decide +kernel
theorem dX9_countsAll_76 : decode cX9_countsAll 76 = .ok (.iload 5, 2) := by decide +kernel
theorem dX9_countsAll_78 : decode cX9_countsAll 78 = .ok (.invokevirtual 171, 3) := by decide +kernel
theorem dX9_countsAll_81 : decode cX9_countsAll 81 = .ok (.ifCond .eq 17, 3) := by decide +kernel
theorem dX9_countsAll_84 : decode cX9_countsAll 84 = .ok (.aload_n 0, 1) := by decide +kernel
theorem dX9_countsAll_85 : decode cX9_countsAll 85 = .ok (.getfield 42, 3) := by decide +kernel
theorem dX9_countsAll_88 : decode cX9_countsAll 88 = .ok (.iload 5, 2) := by decide +kernel
theorem dX9_countsAll_90 : decode cX9_countsAll 90 = .ok (.iconst 1, 1) := by decide +kernel
theorem dX9_countsAll_91 : decode cX9_countsAll 91 = .ok (.bastore, 1) := by decide +kernel
theorem dX9_countsAll_92 : decode cX9_countsAll 92 = .ok (.iconst 1, 1) := by decide +kernel
theorem dX9_countsAll_93 : decode cX9_countsAll 93 = .ok (.istore 4, 2) := by decide +kernel
theorem dX9_countsAll_95 : decode cX9_countsAll 95 = .ok (.iinc 3 (-1), 3) := by decide +kernel
theorem dX9_countsAll_98 : decode cX9_countsAll 98 = .ok (.iinc 5 (-1), 3) := by decide +kernel
theorem dX9_countsAll_101 : decode cX9_countsAll 101 = .ok (.goto (-43), 3) := by decide +kernel
theorem dX9_countsAll_104 : decode cX9_countsAll 104 = .ok (.goto (-62), 3) := by decide +kernel
theorem dX9_countsAll_107 : decode cX9_countsAll 107 = .ok (.iload_n 3, 1) := by decide +kernel
theorem dX9_countsAll_108 : decode cX9_countsAll 108 = .ok (.ifCond .ne 7, 3) := by decide +kernel
theorem dX9_countsAll_111 : decode cX9_countsAll 111 = .ok (.iconst 1, 1) := by decide +kernel
theorem dX9_countsAll_112 : decode cX9_countsAll 112 = .ok (.goto 4, 3) := by decide +kernel
theorem dX9_countsAll_115 : decode cX9_countsAll 115 = .ok (.iconst 0, 1) := by decide +kernel
theorem dX9_countsAll_116 : decode cX9_countsAll 116 = .ok (.ireturn, 1) := by decide +kernel
theorem dX9_stuckOnes_0 : decode cX9_stuckOnes 0 = .ok (.iconst 0, 1) := by decide +kernel
theorem dX9_stuckOnes_1 : decode cX9_stuckOnes 1 = .ok (.istore_n 3, 1) := by decide +kernel
theorem dX9_stuckOnes_2 : decode cX9_stuckOnes 2 = .ok (.iconst 0, 1) := by decide +kernel
theorem dX9_stuckOnes_3 : decode cX9_stuckOnes 3 = .ok (.istore 4, 2) := by decide +kernel
theorem dX9_stuckOnes_5 : decode cX9_stuckOnes 5 = .ok (.iload 4, 2) := by decide +kernel
theorem dX9_stuckOnes_7 : decode cX9_stuckOnes 7 = .ok (.aload_n 0, 1) := by decide +kernel
theorem dX9_stuckOnes_8 : decode cX9_stuckOnes 8 = .ok (.getfield 122, 3) := by decide +kernel
theorem dX9_stuckOnes_11 : decode cX9_stuckOnes 11 = .ok (.if_icmp .ge 28, 3) := by decide +kernel
theorem dX9_stuckOnes_14 : decode cX9_stuckOnes 14 = .ok (.iload_n 3, 1) := by decide +kernel
theorem dX9_stuckOnes_15 : decode cX9_stuckOnes 15 = .ok (.aload_n 0, 1) := by decide +kernel
theorem dX9_stuckOnes_16 : decode cX9_stuckOnes 16 = .ok (.iload_n 1, 1) := by decide +kernel
theorem dX9_stuckOnes_17 : decode cX9_stuckOnes 17 = .ok (.iload_n 2, 1) := by decide +kernel
theorem dX9_stuckOnes_18 : decode cX9_stuckOnes 18 = .ok (.iload 4, 2) := by decide +kernel
theorem dX9_stuckOnes_20 : decode cX9_stuckOnes 20 = .ok (.invokevirtual 147, 3) := by decide +kernel
theorem dX9_stuckOnes_23 : decode cX9_stuckOnes 23 = .ok (.ifCond .le 7, 3) := by decide +kernel
theorem dX9_stuckOnes_26 : decode cX9_stuckOnes 26 = .ok (.iconst 1, 1) := by decide +kernel
theorem dX9_stuckOnes_27 : decode cX9_stuckOnes 27 = .ok (.goto 4, 3) := by decide +kernel
theorem dX9_stuckOnes_30 : decode cX9_stuckOnes 30 = .ok (.iconst 0, 1) := by decide +kernel
theorem dX9_stuckOnes_31 : decode cX9_stuckOnes 31 = .ok (.iadd, 1) := by decide +kernel
theorem dX9_stuckOnes_32 : decode cX9_stuckOnes 32 = .ok (.istore_n 3, 1) := by decide +kernel
theorem dX9_stuckOnes_33 : decode cX9_stuckOnes 33 = .ok (.iinc 4 1, 3) := by decide +kernel
theorem dX9_stuckOnes_36 : decode cX9_stuckOnes 36 = .ok (.goto (-31), 3) := by decide +kernel
theorem dX9_stuckOnes_39 : decode cX9_stuckOnes 39 = .ok (.iload_n 3, 1) := by decide +kernel
theorem dX9_stuckOnes_40 : decode cX9_stuckOnes 40 = .ok (.ireturn, 1) := by decide +kernel
theorem dX9_ends_0 : decode cX9_ends 0 = .ok (.iconst 0, 1) := by decide +kernel
theorem dX9_ends_1 : decode cX9_ends 1 = .ok (.istore_n 3, 1) := by decide +kernel
theorem dX9_ends_2 : decode cX9_ends 2 = .ok (.iconst 0, 1) := by decide +kernel
theorem dX9_ends_3 : decode cX9_ends 3 = .ok (.istore 4, 2) := by decide +kernel
theorem dX9_ends_5 : decode cX9_ends 5 = .ok (.iload 4, 2) := by decide +kernel
theorem dX9_ends_7 : decode cX9_ends 7 = .ok (.aload_n 0, 1) := by decide +kernel
theorem dX9_ends_8 : decode cX9_ends 8 = .ok (.getfield 122, 3) := by decide +kernel
theorem dX9_ends_11 : decode cX9_ends 11 = .ok (.if_icmp .ge 28, 3) := by decide +kernel
theorem dX9_ends_14 : decode cX9_ends 14 = .ok (.iload_n 3, 1) := by decide +kernel
theorem dX9_ends_15 : decode cX9_ends 15 = .ok (.aload_n 0, 1) := by decide +kernel
theorem dX9_ends_16 : decode cX9_ends 16 = .ok (.iload_n 1, 1) := by decide +kernel
theorem dX9_ends_17 : decode cX9_ends 17 = .ok (.iload_n 2, 1) := by decide +kernel
theorem dX9_ends_18 : decode cX9_ends 18 = .ok (.iload 4, 2) := by decide +kernel
theorem dX9_ends_20 : decode cX9_ends 20 = .ok (.invokevirtual 164, 3) := by decide +kernel
theorem dX9_ends_23 : decode cX9_ends 23 = .ok (.ifCond .eq 7, 3) := by decide +kernel
theorem dX9_ends_26 : decode cX9_ends 26 = .ok (.iconst 1, 1) := by decide +kernel
theorem dX9_ends_27 : decode cX9_ends 27 = .ok (.goto 4, 3) := by decide +kernel
theorem dX9_ends_30 : decode cX9_ends 30 = .ok (.iconst 0, 1) := by decide +kernel
theorem dX9_ends_31 : decode cX9_ends 31 = .ok (.iadd, 1) := by decide +kernel
theorem dX9_ends_32 : decode cX9_ends 32 = .ok (.istore_n 3, 1) := by decide +kernel
theorem dX9_ends_33 : decode cX9_ends 33 = .ok (.iinc 4 1, 3) := by decide +kernel
theorem dX9_ends_36 : decode cX9_ends 36 = .ok (.goto (-31), 3) := by decide +kernel
theorem dX9_ends_39 : decode cX9_ends 39 = .ok (.iload_n 3, 1) := by decide +kernel
theorem dX9_ends_40 : decode cX9_ends 40 = .ok (.ireturn, 1) := by decide +kernel
theorem dX9_fewest_0 : decode cX9_fewest 0 = .ok (.iconst 0, 1) := by decide +kernel
theorem dX9_fewest_1 : decode cX9_fewest 1 = .ok (.istore_n 3, 1) := by decide +kernel
theorem dX9_fewest_2 : decode cX9_fewest 2 = .ok (.iload_n 3, 1) := by decide +kernel
theorem dX9_fewest_3 : decode cX9_fewest 3 = .ok (.aload_n 0, 1) := by decide +kernel
theorem dX9_fewest_4 : decode cX9_fewest 4 = .ok (.getfield 122, 3) := by decide +kernel
theorem dX9_fewest_7 : decode cX9_fewest 7 = .ok (.if_icmp .ge 26, 3) := by decide +kernel
theorem dX9_fewest_10 : decode cX9_fewest 10 = .ok (.aload_n 0, 1) := by decide +kernel
theorem dX9_fewest_11 : decode cX9_fewest 11 = .ok (.iload_n 1, 1) := by decide +kernel
theorem dX9_fewest_12 : decode cX9_fewest 12 = .ok (.iload_n 2, 1) := by decide +kernel
theorem dX9_fewest_13 : decode cX9_fewest 13 = .ok (.iload_n 3, 1) := by decide +kernel
theorem dX9_fewest_14 : decode cX9_fewest 14 = .ok (.invokevirtual 164, 3) := by decide +kernel
theorem dX9_fewest_17 : decode cX9_fewest 17 = .ok (.ifCond .eq 10, 3) := by decide +kernel
theorem dX9_fewest_20 : decode cX9_fewest 20 = .ok (.aload_n 0, 1) := by decide +kernel
theorem dX9_fewest_21 : decode cX9_fewest 21 = .ok (.getfield 32, 3) := by decide +kernel
theorem dX9_fewest_24 : decode cX9_fewest 24 = .ok (.iload_n 3, 1) := by decide +kernel
theorem dX9_fewest_25 : decode cX9_fewest 25 = .ok (.iaload, 1) := by decide +kernel
theorem dX9_fewest_26 : decode cX9_fewest 26 = .ok (.ireturn, 1) := by decide +kernel
theorem dX9_fewest_27 : decode cX9_fewest 27 = .ok (.iinc 3 1, 3) := by decide +kernel
theorem dX9_fewest_30 : decode cX9_fewest 30 = .ok (.goto (-28), 3) := by decide +kernel
theorem dX9_fewest_33 : decode cX9_fewest 33 = .ok (.ldc 121, 2) := by decide +kernel
theorem dX9_fewest_35 : decode cX9_fewest 35 = .ok (.ireturn, 1) := by decide +kernel
theorem dX9_comeTo_0 : decode cX9_comeTo 0 = .ok (.iconst 0, 1) := by decide +kernel
theorem dX9_comeTo_1 : decode cX9_comeTo 1 = .ok (.istore_n 2, 1) := by decide +kernel
theorem dX9_comeTo_2 : decode cX9_comeTo 2 = .ok (.iconst 0, 1) := by decide +kernel
theorem dX9_comeTo_3 : decode cX9_comeTo 3 = .ok (.istore_n 3, 1) := by decide +kernel
theorem dX9_comeTo_4 : decode cX9_comeTo 4 = .ok (.iload_n 3, 1) := by decide +kernel
theorem dX9_comeTo_5 : decode cX9_comeTo 5 = .ok (.aload_n 0, 1) := by decide +kernel
theorem dX9_comeTo_6 : decode cX9_comeTo 6 = .ok (.getfield 122, 3) := by decide +kernel
theorem dX9_comeTo_9 : decode cX9_comeTo 9 = .ok (.if_icmp .ge 39, 3) := by decide +kernel
theorem dX9_comeTo_12 : decode cX9_comeTo 12 = .ok (.iload_n 2, 1) := by decide +kernel
theorem dX9_comeTo_13 : decode cX9_comeTo 13 = .ok (.iconst 1, 1) := by decide +kernel
theorem dX9_comeTo_14 : decode cX9_comeTo 14 = .ok (.iload_n 1, 1) := by decide +kernel
theorem dX9_comeTo_15 : decode cX9_comeTo 15 = .ok (.ifCond .eq 15, 3) := by decide +kernel
theorem dX9_comeTo_18 : decode cX9_comeTo 18 = .ok (.aload_n 0, 1) := by decide +kernel
theorem dX9_comeTo_19 : decode cX9_comeTo 19 = .ok (.getfield 23, 3) := by decide +kernel
theorem dX9_comeTo_22 : decode cX9_comeTo 22 = .ok (.iload_n 3, 1) := by decide +kernel
theorem dX9_comeTo_23 : decode cX9_comeTo 23 = .ok (.iaload, 1) := by decide +kernel
theorem dX9_comeTo_24 : decode cX9_comeTo 24 = .ok (.bipush 8, 2) := by decide +kernel
theorem dX9_comeTo_26 : decode cX9_comeTo 26 = .ok (.idiv, 1) := by decide +kernel
theorem dX9_comeTo_27 : decode cX9_comeTo 27 = .ok (.goto 12, 3) := by decide +kernel
theorem dX9_comeTo_30 : decode cX9_comeTo 30 = .ok (.aload_n 0, 1) := by decide +kernel
theorem dX9_comeTo_31 : decode cX9_comeTo 31 = .ok (.getfield 23, 3) := by decide +kernel
theorem dX9_comeTo_34 : decode cX9_comeTo 34 = .ok (.iload_n 3, 1) := by decide +kernel
theorem dX9_comeTo_35 : decode cX9_comeTo 35 = .ok (.iaload, 1) := by decide +kernel
theorem dX9_comeTo_36 : decode cX9_comeTo 36 = .ok (.bipush 8, 2) := by decide +kernel
theorem dX9_comeTo_38 : decode cX9_comeTo 38 = .ok (.irem, 1) := by decide +kernel
theorem dX9_comeTo_39 : decode cX9_comeTo 39 = .ok (.ishl, 1) := by decide +kernel
theorem dX9_comeTo_40 : decode cX9_comeTo 40 = .ok (.ior, 1) := by decide +kernel
theorem dX9_comeTo_41 : decode cX9_comeTo 41 = .ok (.istore_n 2, 1) := by decide +kernel
theorem dX9_comeTo_42 : decode cX9_comeTo 42 = .ok (.iinc 3 1, 3) := by decide +kernel
theorem dX9_comeTo_45 : decode cX9_comeTo 45 = .ok (.goto (-41), 3) := by decide +kernel
theorem dX9_comeTo_48 : decode cX9_comeTo 48 = .ok (.iload_n 2, 1) := by decide +kernel
theorem dX9_comeTo_49 : decode cX9_comeTo 49 = .ok (.ireturn, 1) := by decide +kernel
theorem dX9_talk_0 : decode cX9_talk 0 = .ok (.iload_n 1, 1) := by decide +kernel
theorem dX9_talk_1 : decode cX9_talk 1 = .ok (.invokestatic 74, 3) := by decide +kernel
theorem dX9_talk_4 : decode cX9_talk 4 = .ok (.ifCond .eq 20, 3) := by decide +kernel
theorem dX9_talk_7 : decode cX9_talk 7 = .ok (.iload_n 2, 1) := by decide +kernel
theorem dX9_talk_8 : decode cX9_talk 8 = .ok (.invokestatic 74, 3) := by decide +kernel
theorem dX9_talk_11 : decode cX9_talk 11 = .ok (.ifCond .eq 13, 3) := by decide +kernel
theorem dX9_talk_14 : decode cX9_talk 14 = .ok (.iload_n 3, 1) := by decide +kernel
theorem dX9_talk_15 : decode cX9_talk 15 = .ok (.iconst 0, 1) := by decide +kernel
theorem dX9_talk_16 : decode cX9_talk 16 = .ok (.bipush 6, 2) := by decide +kernel
theorem dX9_talk_18 : decode cX9_talk 18 = .ok (.invokestatic 59, 3) := by decide +kernel
theorem dX9_talk_21 : decode cX9_talk 21 = .ok (.ifCond .ne 6, 3) := by decide +kernel
theorem dX9_talk_24 : decode cX9_talk 24 = .ok (.ldc 81, 2) := by decide +kernel
theorem dX9_talk_26 : decode cX9_talk 26 = .ok (.ireturn, 1) := by decide +kernel
theorem dX9_talk_27 : decode cX9_talk 27 = .ok (.aload_n 0, 1) := by decide +kernel
theorem dX9_talk_28 : decode cX9_talk 28 = .ok (.iload_n 1, 1) := by decide +kernel
theorem dX9_talk_29 : decode cX9_talk 29 = .ok (.iload_n 2, 1) := by decide +kernel
theorem dX9_talk_30 : decode cX9_talk 30 = .ok (.iconst 1, 1) := by decide +kernel
theorem dX9_talk_31 : decode cX9_talk 31 = .ok (.invokevirtual 154, 3) := by decide +kernel
theorem dX9_talk_34 : decode cX9_talk 34 = .ok (.iload_n 3, 1) := by decide +kernel
theorem dX9_talk_35 : decode cX9_talk 35 = .ok (.tableswitch 74 0 4 #[33, 38, 45, 52, 67], 33) := by decide +kernel
theorem dX9_talk_68 : decode cX9_talk 68 = .ok (.aload_n 0, 1) := by decide +kernel
theorem dX9_talk_69 : decode cX9_talk 69 = .ok (.getfield 122, 3) := by decide +kernel
theorem dX9_talk_72 : decode cX9_talk 72 = .ok (.ireturn, 1) := by decide +kernel
theorem dX9_talk_73 : decode cX9_talk 73 = .ok (.aload_n 0, 1) := by decide +kernel
theorem dX9_talk_74 : decode cX9_talk 74 = .ok (.iload_n 1, 1) := by decide +kernel
theorem dX9_talk_75 : decode cX9_talk 75 = .ok (.iload_n 2, 1) := by decide +kernel
theorem dX9_talk_76 : decode cX9_talk 76 = .ok (.invokevirtual 174, 3) := by decide +kernel
theorem dX9_talk_79 : decode cX9_talk 79 = .ok (.ireturn, 1) := by decide +kernel
theorem dX9_talk_80 : decode cX9_talk 80 = .ok (.aload_n 0, 1) := by decide +kernel
theorem dX9_talk_81 : decode cX9_talk 81 = .ok (.iload_n 1, 1) := by decide +kernel
theorem dX9_talk_82 : decode cX9_talk 82 = .ok (.iload_n 2, 1) := by decide +kernel
theorem dX9_talk_83 : decode cX9_talk 83 = .ok (.invokevirtual 177, 3) := by decide +kernel
theorem dX9_talk_86 : decode cX9_talk 86 = .ok (.ireturn, 1) := by decide +kernel
theorem dX9_talk_87 : decode cX9_talk 87 = .ok (.aload_n 0, 1) := by decide +kernel
theorem dX9_talk_88 : decode cX9_talk 88 = .ok (.iload_n 1, 1) := by decide +kernel
theorem dX9_talk_89 : decode cX9_talk 89 = .ok (.iload_n 2, 1) := by decide +kernel
theorem dX9_talk_90 : decode cX9_talk 90 = .ok (.invokevirtual 180, 3) := by decide +kernel
theorem dX9_talk_93 : decode cX9_talk 93 = .ok (.ifCond .eq 7, 3) := by decide +kernel
theorem dX9_talk_96 : decode cX9_talk 96 = .ok (.iconst 0, 1) := by decide +kernel
theorem dX9_talk_97 : decode cX9_talk 97 = .ok (.goto 4, 3) := by decide +kernel
theorem dX9_talk_100 : decode cX9_talk 100 = .ok (.iconst 1, 1) := by decide +kernel
theorem dX9_talk_101 : decode cX9_talk 101 = .ok (.ireturn, 1) := by decide +kernel
theorem dX9_talk_102 : decode cX9_talk 102 = .ok (.aload_n 0, 1) := by decide +kernel
theorem dX9_talk_103 : decode cX9_talk 103 = .ok (.iload_n 1, 1) := by decide +kernel
theorem dX9_talk_104 : decode cX9_talk 104 = .ok (.iload_n 2, 1) := by decide +kernel
theorem dX9_talk_105 : decode cX9_talk 105 = .ok (.invokevirtual 183, 3) := by decide +kernel
theorem dX9_talk_108 : decode cX9_talk 108 = .ok (.ireturn, 1) := by decide +kernel
theorem dX9_talk_109 : decode cX9_talk 109 = .ok (.aload_n 0, 1) := by decide +kernel
theorem dX9_talk_110 : decode cX9_talk 110 = .ok (.iload_n 3, 1) := by decide +kernel
theorem dX9_talk_111 : decode cX9_talk 111 = .ok (.iconst 5, 1) := by decide +kernel
theorem dX9_talk_112 : decode cX9_talk 112 = .ok (.if_icmp .ne 7, 3) := by decide +kernel
theorem dX9_talk_115 : decode cX9_talk 115 = .ok (.iconst 1, 1) := by decide +kernel
theorem dX9_talk_116 : decode cX9_talk 116 = .ok (.goto 4, 3) := by decide +kernel
theorem dX9_talk_119 : decode cX9_talk 119 = .ok (.iconst 0, 1) := by decide +kernel
theorem dX9_talk_120 : decode cX9_talk 120 = .ok (.invokevirtual 186, 3) := by decide +kernel
theorem dX9_talk_123 : decode cX9_talk 123 = .ok (.ireturn, 1) := by decide +kernel
theorem dX9_talks_0 : decode cX9_talks 0 = .ok (.iload_n 1, 1) := by decide +kernel
theorem dX9_talks_1 : decode cX9_talks 1 = .ok (.invokestatic 74, 3) := by decide +kernel
theorem dX9_talks_4 : decode cX9_talks 4 = .ok (.ifCond .eq 10, 3) := by decide +kernel
theorem dX9_talks_7 : decode cX9_talks 7 = .ok (.iload_n 2, 1) := by decide +kernel
theorem dX9_talks_8 : decode cX9_talks 8 = .ok (.invokestatic 74, 3) := by decide +kernel
theorem dX9_talks_11 : decode cX9_talks 11 = .ok (.ifCond .ne 7, 3) := by decide +kernel
theorem dX9_talks_14 : decode cX9_talks 14 = .ok (.ldc2_w 190, 3) := by decide +kernel
theorem dX9_talks_17 : decode cX9_talks 17 = .ok (.lreturn, 1) := by decide +kernel
theorem dX9_talks_18 : decode cX9_talks 18 = .ok (.aload_n 0, 1) := by decide +kernel
theorem dX9_talks_19 : decode cX9_talks 19 = .ok (.iload_n 1, 1) := by decide +kernel
theorem dX9_talks_20 : decode cX9_talks 20 = .ok (.iload_n 2, 1) := by decide +kernel
theorem dX9_talks_21 : decode cX9_talks 21 = .ok (.iconst 1, 1) := by decide +kernel
theorem dX9_talks_22 : decode cX9_talks 22 = .ok (.invokevirtual 154, 3) := by decide +kernel
theorem dX9_talks_25 : decode cX9_talks 25 = .ok (.aload_n 0, 1) := by decide +kernel
theorem dX9_talks_26 : decode cX9_talks 26 = .ok (.iload_n 1, 1) := by decide +kernel
theorem dX9_talks_27 : decode cX9_talks 27 = .ok (.iload_n 2, 1) := by decide +kernel
theorem dX9_talks_28 : decode cX9_talks 28 = .ok (.invokevirtual 180, 3) := by decide +kernel
theorem dX9_talks_31 : decode cX9_talks 31 = .ok (.ifCond .ne 7, 3) := by decide +kernel
theorem dX9_talks_34 : decode cX9_talks 34 = .ok (.ldc2_w 192, 3) := by decide +kernel
theorem dX9_talks_37 : decode cX9_talks 37 = .ok (.lreturn, 1) := by decide +kernel
theorem dX9_talks_38 : decode cX9_talks 38 = .ok (.aload_n 0, 1) := by decide +kernel
theorem dX9_talks_39 : decode cX9_talks 39 = .ok (.getfield 38, 3) := by decide +kernel
theorem dX9_talks_42 : decode cX9_talks 42 = .ok (.iconst 0, 1) := by decide +kernel
theorem dX9_talks_43 : decode cX9_talks 43 = .ok (.laload, 1) := by decide +kernel
theorem dX9_talks_44 : decode cX9_talks 44 = .ok (.ldc2_w 167, 3) := by decide +kernel
theorem dX9_talks_47 : decode cX9_talks 47 = .ok (.lcmp, 1) := by decide +kernel
theorem dX9_talks_48 : decode cX9_talks 48 = .ok (.ifCond .le 9, 3) := by decide +kernel
theorem dX9_talks_51 : decode cX9_talks 51 = .ok (.ldc2_w 194, 3) := by decide +kernel
theorem dX9_talks_54 : decode cX9_talks 54 = .ok (.goto 9, 3) := by decide +kernel
theorem dX9_talks_57 : decode cX9_talks 57 = .ok (.aload_n 0, 1) := by decide +kernel
theorem dX9_talks_58 : decode cX9_talks 58 = .ok (.getfield 38, 3) := by decide +kernel
theorem dX9_talks_61 : decode cX9_talks 61 = .ok (.iconst 0, 1) := by decide +kernel
theorem dX9_talks_62 : decode cX9_talks 62 = .ok (.laload, 1) := by decide +kernel
theorem dX9_talks_63 : decode cX9_talks 63 = .ok (.lreturn, 1) := by decide +kernel
theorem dX9_wanted_0 : decode cX9_wanted 0 = .ok (.aload_n 0, 1) := by decide +kernel
theorem dX9_wanted_1 : decode cX9_wanted 1 = .ok (.iload_n 1, 1) := by decide +kernel
theorem dX9_wanted_2 : decode cX9_wanted 2 = .ok (.aload_n 0, 1) := by decide +kernel
theorem dX9_wanted_3 : decode cX9_wanted 3 = .ok (.getfield 23, 3) := by decide +kernel
theorem dX9_wanted_6 : decode cX9_wanted 6 = .ok (.iload_n 3, 1) := by decide +kernel
theorem dX9_wanted_7 : decode cX9_wanted 7 = .ok (.iaload, 1) := by decide +kernel
theorem dX9_wanted_8 : decode cX9_wanted 8 = .ok (.bipush 8, 2) := by decide +kernel
theorem dX9_wanted_10 : decode cX9_wanted 10 = .ok (.idiv, 1) := by decide +kernel
theorem dX9_wanted_11 : decode cX9_wanted 11 = .ok (.invokevirtual 67, 3) := by decide +kernel
theorem dX9_wanted_14 : decode cX9_wanted 14 = .ok (.istore 4, 2) := by decide +kernel
theorem dX9_wanted_16 : decode cX9_wanted 16 = .ok (.iload 4, 2) := by decide +kernel
theorem dX9_wanted_18 : decode cX9_wanted 18 = .ok (.ifCond .eq 22, 3) := by decide +kernel
theorem dX9_wanted_21 : decode cX9_wanted 21 = .ok (.iload 4, 2) := by decide +kernel
theorem dX9_wanted_23 : decode cX9_wanted 23 = .ok (.aload_n 0, 1) := by decide +kernel
theorem dX9_wanted_24 : decode cX9_wanted 24 = .ok (.iload_n 2, 1) := by decide +kernel
theorem dX9_wanted_25 : decode cX9_wanted 25 = .ok (.aload_n 0, 1) := by decide +kernel
theorem dX9_wanted_26 : decode cX9_wanted 26 = .ok (.getfield 23, 3) := by decide +kernel
theorem dX9_wanted_29 : decode cX9_wanted 29 = .ok (.iload_n 3, 1) := by decide +kernel
theorem dX9_wanted_30 : decode cX9_wanted 30 = .ok (.iaload, 1) := by decide +kernel
theorem dX9_wanted_31 : decode cX9_wanted 31 = .ok (.bipush 8, 2) := by decide +kernel
theorem dX9_wanted_33 : decode cX9_wanted 33 = .ok (.irem, 1) := by decide +kernel
theorem dX9_wanted_34 : decode cX9_wanted 34 = .ok (.invokevirtual 67, 3) := by decide +kernel
theorem dX9_wanted_37 : decode cX9_wanted 37 = .ok (.if_icmp .eq 6, 3) := by decide +kernel
theorem dX9_wanted_40 : decode cX9_wanted 40 = .ok (.ldc 121, 2) := by decide +kernel
theorem dX9_wanted_42 : decode cX9_wanted 42 = .ok (.ireturn, 1) := by decide +kernel
theorem dX9_wanted_43 : decode cX9_wanted 43 = .ok (.aload_n 0, 1) := by decide +kernel
theorem dX9_wanted_44 : decode cX9_wanted 44 = .ok (.iload_n 1, 1) := by decide +kernel
theorem dX9_wanted_45 : decode cX9_wanted 45 = .ok (.aload_n 0, 1) := by decide +kernel
theorem dX9_wanted_46 : decode cX9_wanted 46 = .ok (.getfield 23, 3) := by decide +kernel
theorem dX9_wanted_49 : decode cX9_wanted 49 = .ok (.iload_n 3, 1) := by decide +kernel
theorem dX9_wanted_50 : decode cX9_wanted 50 = .ok (.iaload, 1) := by decide +kernel
theorem dX9_wanted_51 : decode cX9_wanted 51 = .ok (.bipush 8, 2) := by decide +kernel
theorem dX9_wanted_53 : decode cX9_wanted 53 = .ok (.idiv, 1) := by decide +kernel
theorem dX9_wanted_54 : decode cX9_wanted 54 = .ok (.invokevirtual 88, 3) := by decide +kernel
theorem dX9_wanted_57 : decode cX9_wanted 57 = .ok (.istore 5, 2) := by decide +kernel
theorem dX9_wanted_59 : decode cX9_wanted 59 = .ok (.aload_n 0, 1) := by decide +kernel
theorem dX9_wanted_60 : decode cX9_wanted 60 = .ok (.iload_n 2, 1) := by decide +kernel
theorem dX9_wanted_61 : decode cX9_wanted 61 = .ok (.aload_n 0, 1) := by decide +kernel
theorem dX9_wanted_62 : decode cX9_wanted 62 = .ok (.getfield 23, 3) := by decide +kernel
theorem dX9_wanted_65 : decode cX9_wanted 65 = .ok (.iload_n 3, 1) := by decide +kernel
theorem dX9_wanted_66 : decode cX9_wanted 66 = .ok (.iaload, 1) := by decide +kernel
theorem dX9_wanted_67 : decode cX9_wanted 67 = .ok (.bipush 8, 2) := by decide +kernel
theorem dX9_wanted_69 : decode cX9_wanted 69 = .ok (.irem, 1) := by decide +kernel
theorem dX9_wanted_70 : decode cX9_wanted 70 = .ok (.invokevirtual 88, 3) := by decide +kernel
theorem dX9_wanted_73 : decode cX9_wanted 73 = .ok (.istore 6, 2) := by decide +kernel
theorem dX9_wanted_75 : decode cX9_wanted 75 = .ok (.iload 4, 2) := by decide +kernel
theorem dX9_wanted_77 : decode cX9_wanted 77 = .ok (.iconst 1, 1) := by decide +kernel
theorem dX9_wanted_78 : decode cX9_wanted 78 = .ok (.if_icmp .ne 13, 3) := by decide +kernel
theorem dX9_wanted_81 : decode cX9_wanted 81 = .ok (.iload 5, 2) := by decide +kernel
theorem dX9_wanted_83 : decode cX9_wanted 83 = .ok (.iload 6, 2) := by decide +kernel
theorem dX9_wanted_85 : decode cX9_wanted 85 = .ok (.invokestatic 141, 3) := by decide +kernel
theorem dX9_wanted_88 : decode cX9_wanted 88 = .ok (.goto 10, 3) := by decide +kernel
theorem dX9_wanted_91 : decode cX9_wanted 91 = .ok (.iload 6, 2) := by decide +kernel
theorem dX9_wanted_93 : decode cX9_wanted 93 = .ok (.iload 5, 2) := by decide +kernel
theorem dX9_wanted_95 : decode cX9_wanted 95 = .ok (.invokestatic 141, 3) := by decide +kernel
theorem dX9_wanted_98 : decode cX9_wanted 98 = .ok (.ireturn, 1) := by decide +kernel
theorem dX9_whyNot_0 : decode cX9_whyNot 0 = .ok (.aload_n 0, 1) := by decide +kernel
theorem dX9_whyNot_1 : decode cX9_whyNot 1 = .ok (.iload_n 1, 1) := by decide +kernel
theorem dX9_whyNot_2 : decode cX9_whyNot 2 = .ok (.aload_n 0, 1) := by decide +kernel
theorem dX9_whyNot_3 : decode cX9_whyNot 3 = .ok (.getfield 23, 3) := by decide +kernel
theorem dX9_whyNot_6 : decode cX9_whyNot 6 = .ok (.iload_n 3, 1) := by decide +kernel
theorem dX9_whyNot_7 : decode cX9_whyNot 7 = .ok (.iaload, 1) := by decide +kernel
theorem dX9_whyNot_8 : decode cX9_whyNot 8 = .ok (.bipush 8, 2) := by decide +kernel
theorem dX9_whyNot_10 : decode cX9_whyNot 10 = .ok (.idiv, 1) := by decide +kernel
theorem dX9_whyNot_11 : decode cX9_whyNot 11 = .ok (.invokevirtual 67, 3) := by decide +kernel
theorem dX9_whyNot_14 : decode cX9_whyNot 14 = .ok (.istore 4, 2) := by decide +kernel
theorem dX9_whyNot_16 : decode cX9_whyNot 16 = .ok (.iload 4, 2) := by decide +kernel
theorem dX9_whyNot_18 : decode cX9_whyNot 18 = .ok (.aload_n 0, 1) := by decide +kernel
theorem dX9_whyNot_19 : decode cX9_whyNot 19 = .ok (.iload_n 2, 1) := by decide +kernel
theorem dX9_whyNot_20 : decode cX9_whyNot 20 = .ok (.aload_n 0, 1) := by decide +kernel
theorem dX9_whyNot_21 : decode cX9_whyNot 21 = .ok (.getfield 23, 3) := by decide +kernel
theorem dX9_whyNot_24 : decode cX9_whyNot 24 = .ok (.iload_n 3, 1) := by decide +kernel
theorem dX9_whyNot_25 : decode cX9_whyNot 25 = .ok (.iaload, 1) := by decide +kernel
theorem dX9_whyNot_26 : decode cX9_whyNot 26 = .ok (.bipush 8, 2) := by decide +kernel
theorem dX9_whyNot_28 : decode cX9_whyNot 28 = .ok (.irem, 1) := by decide +kernel
theorem dX9_whyNot_29 : decode cX9_whyNot 29 = .ok (.invokevirtual 67, 3) := by decide +kernel
theorem dX9_whyNot_32 : decode cX9_whyNot 32 = .ok (.if_icmp .eq 5, 3) := by decide +kernel
theorem dX9_whyNot_35 : decode cX9_whyNot 35 = .ok (.iconst 1, 1) := by decide +kernel
theorem dX9_whyNot_36 : decode cX9_whyNot 36 = .ok (.ireturn, 1) := by decide +kernel
theorem dX9_whyNot_37 : decode cX9_whyNot 37 = .ok (.iload 4, 2) := by decide +kernel
theorem dX9_whyNot_39 : decode cX9_whyNot 39 = .ok (.iconst 1, 1) := by decide +kernel
theorem dX9_whyNot_40 : decode cX9_whyNot 40 = .ok (.if_icmp .ne 22, 3) := by decide +kernel
theorem dX9_whyNot_43 : decode cX9_whyNot 43 = .ok (.aload_n 0, 1) := by decide +kernel
theorem dX9_whyNot_44 : decode cX9_whyNot 44 = .ok (.iload_n 1, 1) := by decide +kernel
theorem dX9_whyNot_45 : decode cX9_whyNot 45 = .ok (.aload_n 0, 1) := by decide +kernel
theorem dX9_whyNot_46 : decode cX9_whyNot 46 = .ok (.getfield 23, 3) := by decide +kernel
theorem dX9_whyNot_49 : decode cX9_whyNot 49 = .ok (.iload_n 3, 1) := by decide +kernel
theorem dX9_whyNot_50 : decode cX9_whyNot 50 = .ok (.iaload, 1) := by decide +kernel
theorem dX9_whyNot_51 : decode cX9_whyNot 51 = .ok (.bipush 8, 2) := by decide +kernel
theorem dX9_whyNot_53 : decode cX9_whyNot 53 = .ok (.idiv, 1) := by decide +kernel
theorem dX9_whyNot_54 : decode cX9_whyNot 54 = .ok (.invokevirtual 88, 3) := by decide +kernel
theorem dX9_whyNot_57 : decode cX9_whyNot 57 = .ok (.ifCond .ne 5, 3) := by decide +kernel
theorem dX9_whyNot_60 : decode cX9_whyNot 60 = .ok (.iconst 2, 1) := by decide +kernel
theorem dX9_whyNot_61 : decode cX9_whyNot 61 = .ok (.ireturn, 1) := by decide +kernel
theorem dX9_whyNot_62 : decode cX9_whyNot 62 = .ok (.aload_n 0, 1) := by decide +kernel
theorem dX9_whyNot_63 : decode cX9_whyNot 63 = .ok (.iload_n 1, 1) := by decide +kernel
theorem dX9_whyNot_64 : decode cX9_whyNot 64 = .ok (.iload_n 2, 1) := by decide +kernel
theorem dX9_whyNot_65 : decode cX9_whyNot 65 = .ok (.iload_n 3, 1) := by decide +kernel
theorem dX9_whyNot_66 : decode cX9_whyNot 66 = .ok (.invokevirtual 196, 3) := by decide +kernel
theorem dX9_whyNot_69 : decode cX9_whyNot 69 = .ok (.ifCond .lt 7, 3) := by decide +kernel
theorem dX9_whyNot_72 : decode cX9_whyNot 72 = .ok (.iconst 3, 1) := by decide +kernel
theorem dX9_whyNot_73 : decode cX9_whyNot 73 = .ok (.goto 4, 3) := by decide +kernel
theorem dX9_whyNot_76 : decode cX9_whyNot 76 = .ok (.iconst 0, 1) := by decide +kernel
theorem dX9_whyNot_77 : decode cX9_whyNot 77 = .ok (.ireturn, 1) := by decide +kernel
theorem dX9_firstAgainst_0 : decode cX9_firstAgainst 0 = .ok (.aload_n 0, 1) := by decide +kernel
theorem dX9_firstAgainst_1 : decode cX9_firstAgainst 1 = .ok (.iload_n 1, 1) := by decide +kernel
theorem dX9_firstAgainst_2 : decode cX9_firstAgainst 2 = .ok (.iload_n 2, 1) := by decide +kernel
theorem dX9_firstAgainst_3 : decode cX9_firstAgainst 3 = .ok (.iconst 0, 1) := by decide +kernel
theorem dX9_firstAgainst_4 : decode cX9_firstAgainst 4 = .ok (.invokevirtual 154, 3) := by decide +kernel
theorem dX9_firstAgainst_7 : decode cX9_firstAgainst 7 = .ok (.iconst 0, 1) := by decide +kernel
theorem dX9_firstAgainst_8 : decode cX9_firstAgainst 8 = .ok (.istore_n 3, 1) := by decide +kernel
theorem dX9_firstAgainst_9 : decode cX9_firstAgainst 9 = .ok (.iload_n 3, 1) := by decide +kernel
theorem dX9_firstAgainst_10 : decode cX9_firstAgainst 10 = .ok (.aload_n 0, 1) := by decide +kernel
theorem dX9_firstAgainst_11 : decode cX9_firstAgainst 11 = .ok (.getfield 122, 3) := by decide +kernel
theorem dX9_firstAgainst_14 : decode cX9_firstAgainst 14 = .ok (.if_icmp .ge 21, 3) := by decide +kernel
theorem dX9_firstAgainst_17 : decode cX9_firstAgainst 17 = .ok (.aload_n 0, 1) := by decide +kernel
theorem dX9_firstAgainst_18 : decode cX9_firstAgainst 18 = .ok (.iload_n 1, 1) := by decide +kernel
theorem dX9_firstAgainst_19 : decode cX9_firstAgainst 19 = .ok (.iload_n 2, 1) := by decide +kernel
theorem dX9_firstAgainst_20 : decode cX9_firstAgainst 20 = .ok (.iload_n 3, 1) := by decide +kernel
theorem dX9_firstAgainst_21 : decode cX9_firstAgainst 21 = .ok (.invokevirtual 199, 3) := by decide +kernel
theorem dX9_firstAgainst_24 : decode cX9_firstAgainst 24 = .ok (.ifCond .le 5, 3) := by decide +kernel
theorem dX9_firstAgainst_27 : decode cX9_firstAgainst 27 = .ok (.iload_n 3, 1) := by decide +kernel
theorem dX9_firstAgainst_28 : decode cX9_firstAgainst 28 = .ok (.ireturn, 1) := by decide +kernel
theorem dX9_firstAgainst_29 : decode cX9_firstAgainst 29 = .ok (.iinc 3 1, 3) := by decide +kernel
theorem dX9_firstAgainst_32 : decode cX9_firstAgainst 32 = .ok (.goto (-23), 3) := by decide +kernel
theorem dX9_firstAgainst_35 : decode cX9_firstAgainst 35 = .ok (.iconst (-1), 1) := by decide +kernel
theorem dX9_firstAgainst_36 : decode cX9_firstAgainst 36 = .ok (.ireturn, 1) := by decide +kernel
theorem dX9_canStand_0 : decode cX9_canStand 0 = .ok (.aload_n 0, 1) := by decide +kernel
theorem dX9_canStand_1 : decode cX9_canStand 1 = .ok (.iload_n 1, 1) := by decide +kernel
theorem dX9_canStand_2 : decode cX9_canStand 2 = .ok (.iload_n 2, 1) := by decide +kernel
theorem dX9_canStand_3 : decode cX9_canStand 3 = .ok (.invokevirtual 202, 3) := by decide +kernel
theorem dX9_canStand_6 : decode cX9_canStand 6 = .ok (.ifCond .ge 7, 3) := by decide +kernel
theorem dX9_canStand_9 : decode cX9_canStand 9 = .ok (.iconst 1, 1) := by decide +kernel
theorem dX9_canStand_10 : decode cX9_canStand 10 = .ok (.goto 4, 3) := by decide +kernel
theorem dX9_canStand_13 : decode cX9_canStand 13 = .ok (.iconst 0, 1) := by decide +kernel
theorem dX9_canStand_14 : decode cX9_canStand 14 = .ok (.ireturn, 1) := by decide +kernel
theorem dX9_standsIn_0 : decode cX9_standsIn 0 = .ok (.iload_n 1, 1) := by decide +kernel
theorem dX9_standsIn_1 : decode cX9_standsIn 1 = .ok (.invokestatic 74, 3) := by decide +kernel
theorem dX9_standsIn_4 : decode cX9_standsIn 4 = .ok (.ifCond .eq 19, 3) := by decide +kernel
theorem dX9_standsIn_7 : decode cX9_standsIn 7 = .ok (.iload_n 2, 1) := by decide +kernel
theorem dX9_standsIn_8 : decode cX9_standsIn 8 = .ok (.invokestatic 74, 3) := by decide +kernel
theorem dX9_standsIn_11 : decode cX9_standsIn 11 = .ok (.ifCond .eq 12, 3) := by decide +kernel
theorem dX9_standsIn_14 : decode cX9_standsIn 14 = .ok (.aload_n 0, 1) := by decide +kernel
theorem dX9_standsIn_15 : decode cX9_standsIn 15 = .ok (.iload_n 1, 1) := by decide +kernel
theorem dX9_standsIn_16 : decode cX9_standsIn 16 = .ok (.iload_n 2, 1) := by decide +kernel
theorem dX9_standsIn_17 : decode cX9_standsIn 17 = .ok (.invokevirtual 205, 3) := by decide +kernel
theorem dX9_standsIn_20 : decode cX9_standsIn 20 = .ok (.goto 5, 3) := by decide +kernel
theorem dX9_standsIn_23 : decode cX9_standsIn 23 = .ok (.ldc 81, 2) := by decide +kernel
theorem dX9_standsIn_25 : decode cX9_standsIn 25 = .ok (.ireturn, 1) := by decide +kernel
theorem dX9_wantedThen_0 : decode cX9_wantedThen 0 = .ok (.aload_n 0, 1) := by decide +kernel
theorem dX9_wantedThen_1 : decode cX9_wantedThen 1 = .ok (.iload_n 1, 1) := by decide +kernel
theorem dX9_wantedThen_2 : decode cX9_wantedThen 2 = .ok (.iload_n 2, 1) := by decide +kernel
theorem dX9_wantedThen_3 : decode cX9_wantedThen 3 = .ok (.iload_n 3, 1) := by decide +kernel
theorem dX9_wantedThen_4 : decode cX9_wantedThen 4 = .ok (.invokevirtual 199, 3) := by decide +kernel
theorem dX9_wantedThen_7 : decode cX9_wantedThen 7 = .ok (.iconst 3, 1) := by decide +kernel
theorem dX9_wantedThen_8 : decode cX9_wantedThen 8 = .ok (.if_icmp .ne 13, 3) := by decide +kernel
theorem dX9_wantedThen_11 : decode cX9_wantedThen 11 = .ok (.aload_n 0, 1) := by decide +kernel
theorem dX9_wantedThen_12 : decode cX9_wantedThen 12 = .ok (.iload_n 1, 1) := by decide +kernel
theorem dX9_wantedThen_13 : decode cX9_wantedThen 13 = .ok (.iload_n 2, 1) := by decide +kernel
theorem dX9_wantedThen_14 : decode cX9_wantedThen 14 = .ok (.iload_n 3, 1) := by decide +kernel
theorem dX9_wantedThen_15 : decode cX9_wantedThen 15 = .ok (.invokevirtual 196, 3) := by decide +kernel
theorem dX9_wantedThen_18 : decode cX9_wantedThen 18 = .ok (.goto 5, 3) := by decide +kernel
theorem dX9_wantedThen_21 : decode cX9_wantedThen 21 = .ok (.ldc 121, 2) := by decide +kernel
theorem dX9_wantedThen_23 : decode cX9_wantedThen 23 = .ok (.ireturn, 1) := by decide +kernel
theorem dX9_against_0 : decode cX9_against 0 = .ok (.iload_n 1, 1) := by decide +kernel
theorem dX9_against_1 : decode cX9_against 1 = .ok (.invokestatic 74, 3) := by decide +kernel
theorem dX9_against_4 : decode cX9_against 4 = .ok (.ifCond .eq 18, 3) := by decide +kernel
theorem dX9_against_7 : decode cX9_against 7 = .ok (.iload_n 2, 1) := by decide +kernel
theorem dX9_against_8 : decode cX9_against 8 = .ok (.invokestatic 74, 3) := by decide +kernel
theorem dX9_against_11 : decode cX9_against 11 = .ok (.ifCond .eq 11, 3) := by decide +kernel
theorem dX9_against_14 : decode cX9_against 14 = .ok (.iload_n 3, 1) := by decide +kernel
theorem dX9_against_15 : decode cX9_against 15 = .ok (.iconst 4, 1) := by decide +kernel
theorem dX9_against_16 : decode cX9_against 16 = .ok (.invokestatic 150, 3) := by decide +kernel
theorem dX9_against_19 : decode cX9_against 19 = .ok (.ifCond .ne 6, 3) := by decide +kernel
theorem dX9_against_22 : decode cX9_against 22 = .ok (.ldc 81, 2) := by decide +kernel
theorem dX9_against_24 : decode cX9_against 24 = .ok (.ireturn, 1) := by decide +kernel
theorem dX9_against_25 : decode cX9_against 25 = .ok (.aload_n 0, 1) := by decide +kernel
theorem dX9_against_26 : decode cX9_against 26 = .ok (.iload_n 1, 1) := by decide +kernel
theorem dX9_against_27 : decode cX9_against 27 = .ok (.iload_n 2, 1) := by decide +kernel
theorem dX9_against_28 : decode cX9_against 28 = .ok (.invokevirtual 202, 3) := by decide +kernel
theorem dX9_against_31 : decode cX9_against 31 = .ok (.istore 4, 2) := by decide +kernel
theorem dX9_against_33 : decode cX9_against 33 = .ok (.iload 4, 2) := by decide +kernel
theorem dX9_against_35 : decode cX9_against 35 = .ok (.ifCond .ge 6, 3) := by decide +kernel
theorem dX9_against_38 : decode cX9_against 38 = .ok (.ldc 121, 2) := by decide +kernel
theorem dX9_against_40 : decode cX9_against 40 = .ok (.ireturn, 1) := by decide +kernel
theorem dX9_against_41 : decode cX9_against 41 = .ok (.iload_n 3, 1) := by decide +kernel
theorem dX9_against_42 : decode cX9_against 42 = .ok (.tableswitch 82 0 4 #[34, 42, 53, 64, 73], 34) := by decide +kernel
theorem dX9_against_76 : decode cX9_against 76 = .ok (.aload_n 0, 1) := by decide +kernel
theorem dX9_against_77 : decode cX9_against 77 = .ok (.getfield 32, 3) := by decide +kernel
theorem dX9_against_80 : decode cX9_against 80 = .ok (.iload 4, 2) := by decide +kernel
theorem dX9_against_82 : decode cX9_against 82 = .ok (.iaload, 1) := by decide +kernel
theorem dX9_against_83 : decode cX9_against 83 = .ok (.ireturn, 1) := by decide +kernel
theorem dX9_against_84 : decode cX9_against 84 = .ok (.aload_n 0, 1) := by decide +kernel
theorem dX9_against_85 : decode cX9_against 85 = .ok (.getfield 23, 3) := by decide +kernel
theorem dX9_against_88 : decode cX9_against 88 = .ok (.iload 4, 2) := by decide +kernel
theorem dX9_against_90 : decode cX9_against 90 = .ok (.iaload, 1) := by decide +kernel
theorem dX9_against_91 : decode cX9_against 91 = .ok (.bipush 8, 2) := by decide +kernel
theorem dX9_against_93 : decode cX9_against 93 = .ok (.idiv, 1) := by decide +kernel
theorem dX9_against_94 : decode cX9_against 94 = .ok (.ireturn, 1) := by decide +kernel
theorem dX9_against_95 : decode cX9_against 95 = .ok (.aload_n 0, 1) := by decide +kernel
theorem dX9_against_96 : decode cX9_against 96 = .ok (.getfield 23, 3) := by decide +kernel
theorem dX9_against_99 : decode cX9_against 99 = .ok (.iload 4, 2) := by decide +kernel
theorem dX9_against_101 : decode cX9_against 101 = .ok (.iaload, 1) := by decide +kernel
theorem dX9_against_102 : decode cX9_against 102 = .ok (.bipush 8, 2) := by decide +kernel
theorem dX9_against_104 : decode cX9_against 104 = .ok (.irem, 1) := by decide +kernel
theorem dX9_against_105 : decode cX9_against 105 = .ok (.ireturn, 1) := by decide +kernel
theorem dX9_against_106 : decode cX9_against 106 = .ok (.aload_n 0, 1) := by decide +kernel
theorem dX9_against_107 : decode cX9_against 107 = .ok (.iload_n 1, 1) := by decide +kernel
theorem dX9_against_108 : decode cX9_against 108 = .ok (.iload_n 2, 1) := by decide +kernel
theorem dX9_against_109 : decode cX9_against 109 = .ok (.iload 4, 2) := by decide +kernel
theorem dX9_against_111 : decode cX9_against 111 = .ok (.invokevirtual 199, 3) := by decide +kernel
theorem dX9_against_114 : decode cX9_against 114 = .ok (.ireturn, 1) := by decide +kernel
theorem dX9_against_115 : decode cX9_against 115 = .ok (.aload_n 0, 1) := by decide +kernel
theorem dX9_against_116 : decode cX9_against 116 = .ok (.iload_n 1, 1) := by decide +kernel
theorem dX9_against_117 : decode cX9_against 117 = .ok (.iload_n 2, 1) := by decide +kernel
theorem dX9_against_118 : decode cX9_against 118 = .ok (.iload 4, 2) := by decide +kernel
theorem dX9_against_120 : decode cX9_against 120 = .ok (.invokevirtual 208, 3) := by decide +kernel
theorem dX9_against_123 : decode cX9_against 123 = .ok (.ireturn, 1) := by decide +kernel
theorem dX9_against_124 : decode cX9_against 124 = .ok (.aload_n 0, 1) := by decide +kernel
theorem dX9_against_125 : decode cX9_against 125 = .ok (.iload 4, 2) := by decide +kernel
theorem dX9_against_127 : decode cX9_against 127 = .ok (.iload_n 3, 1) := by decide +kernel
theorem dX9_against_128 : decode cX9_against 128 = .ok (.bipush 10, 2) := by decide +kernel
theorem dX9_against_130 : decode cX9_against 130 = .ok (.isub, 1) := by decide +kernel
theorem dX9_against_131 : decode cX9_against 131 = .ok (.invokevirtual 161, 3) := by decide +kernel
theorem dX9_against_134 : decode cX9_against 134 = .ok (.ireturn, 1) := by decide +kernel
theorem dX9_arrows_0 : decode cX9_arrows 0 = .ok (.iconst 0, 1) := by decide +kernel
theorem dX9_arrows_1 : decode cX9_arrows 1 = .ok (.istore_n 1, 1) := by decide +kernel
theorem dX9_arrows_2 : decode cX9_arrows 2 = .ok (.iconst 0, 1) := by decide +kernel
theorem dX9_arrows_3 : decode cX9_arrows 3 = .ok (.istore_n 2, 1) := by decide +kernel
theorem dX9_arrows_4 : decode cX9_arrows 4 = .ok (.iload_n 2, 1) := by decide +kernel
theorem dX9_arrows_5 : decode cX9_arrows 5 = .ok (.bipush 24, 2) := by decide +kernel
theorem dX9_arrows_7 : decode cX9_arrows 7 = .ok (.if_icmp .ge 27, 3) := by decide +kernel
theorem dX9_arrows_10 : decode cX9_arrows 10 = .ok (.iload_n 1, 1) := by decide +kernel
theorem dX9_arrows_11 : decode cX9_arrows 11 = .ok (.aload_n 0, 1) := by decide +kernel
theorem dX9_arrows_12 : decode cX9_arrows 12 = .ok (.iload_n 2, 1) := by decide +kernel
theorem dX9_arrows_13 : decode cX9_arrows 13 = .ok (.bipush 8, 2) := by decide +kernel
theorem dX9_arrows_15 : decode cX9_arrows 15 = .ok (.idiv, 1) := by decide +kernel
theorem dX9_arrows_16 : decode cX9_arrows 16 = .ok (.iload_n 2, 1) := by decide +kernel
theorem dX9_arrows_17 : decode cX9_arrows 17 = .ok (.bipush 8, 2) := by decide +kernel
theorem dX9_arrows_19 : decode cX9_arrows 19 = .ok (.irem, 1) := by decide +kernel
theorem dX9_arrows_20 : decode cX9_arrows 20 = .ok (.invokevirtual 88, 3) := by decide +kernel
theorem dX9_arrows_23 : decode cX9_arrows 23 = .ok (.invokestatic 91, 3) := by decide +kernel
theorem dX9_arrows_26 : decode cX9_arrows 26 = .ok (.iadd, 1) := by decide +kernel
theorem dX9_arrows_27 : decode cX9_arrows 27 = .ok (.istore_n 1, 1) := by decide +kernel
theorem dX9_arrows_28 : decode cX9_arrows 28 = .ok (.iinc 2 1, 3) := by decide +kernel
theorem dX9_arrows_31 : decode cX9_arrows 31 = .ok (.goto (-27), 3) := by decide +kernel
theorem dX9_arrows_34 : decode cX9_arrows 34 = .ok (.iload_n 1, 1) := by decide +kernel
theorem dX9_arrows_35 : decode cX9_arrows 35 = .ok (.ireturn, 1) := by decide +kernel
theorem dX9_count_0 : decode cX9_count 0 = .ok (.iload_n 1, 1) := by decide +kernel
theorem dX9_count_1 : decode cX9_count 1 = .ok (.tableswitch 64 0 3 #[31, 49, 54, 59], 31) := by decide +kernel
theorem dX9_count_32 : decode cX9_count 32 = .ok (.aload_n 0, 1) := by decide +kernel
theorem dX9_count_33 : decode cX9_count 33 = .ok (.iconst 0, 1) := by decide +kernel
theorem dX9_count_34 : decode cX9_count 34 = .ok (.invokevirtual 96, 3) := by decide +kernel
theorem dX9_count_37 : decode cX9_count 37 = .ok (.aload_n 0, 1) := by decide +kernel
theorem dX9_count_38 : decode cX9_count 38 = .ok (.iconst 1, 1) := by decide +kernel
theorem dX9_count_39 : decode cX9_count 39 = .ok (.invokevirtual 96, 3) := by decide +kernel
theorem dX9_count_42 : decode cX9_count 42 = .ok (.iadd, 1) := by decide +kernel
theorem dX9_count_43 : decode cX9_count 43 = .ok (.aload_n 0, 1) := by decide +kernel
theorem dX9_count_44 : decode cX9_count 44 = .ok (.iconst 2, 1) := by decide +kernel
theorem dX9_count_45 : decode cX9_count 45 = .ok (.invokevirtual 96, 3) := by decide +kernel
theorem dX9_count_48 : decode cX9_count 48 = .ok (.iadd, 1) := by decide +kernel
theorem dX9_count_49 : decode cX9_count 49 = .ok (.ireturn, 1) := by decide +kernel
theorem dX9_count_50 : decode cX9_count 50 = .ok (.aload_n 0, 1) := by decide +kernel
theorem dX9_count_51 : decode cX9_count 51 = .ok (.invokevirtual 211, 3) := by decide +kernel
theorem dX9_count_54 : decode cX9_count 54 = .ok (.ireturn, 1) := by decide +kernel
theorem dX9_count_55 : decode cX9_count 55 = .ok (.aload_n 0, 1) := by decide +kernel
theorem dX9_count_56 : decode cX9_count 56 = .ok (.getfield 55, 3) := by decide +kernel
theorem dX9_count_59 : decode cX9_count 59 = .ok (.ireturn, 1) := by decide +kernel
theorem dX9_count_60 : decode cX9_count 60 = .ok (.aload_n 0, 1) := by decide +kernel
theorem dX9_count_61 : decode cX9_count 61 = .ok (.getfield 215, 3) := by decide +kernel
theorem dX9_count_64 : decode cX9_count 64 = .ok (.ireturn, 1) := by decide +kernel
theorem dX9_count_65 : decode cX9_count 65 = .ok (.iload_n 1, 1) := by decide +kernel
theorem dX9_count_66 : decode cX9_count 66 = .ok (.bipush 10, 2) := by decide +kernel
theorem dX9_count_68 : decode cX9_count 68 = .ok (.bipush 18, 2) := by decide +kernel
theorem dX9_count_70 : decode cX9_count 70 = .ok (.invokestatic 59, 3) := by decide +kernel
theorem dX9_count_73 : decode cX9_count 73 = .ok (.ifCond .eq 22, 3) := by decide +kernel
theorem dX9_count_76 : decode cX9_count 76 = .ok (.aload_n 0, 1) := by decide +kernel
theorem dX9_count_77 : decode cX9_count 77 = .ok (.iload_n 1, 1) := by decide +kernel
theorem dX9_count_78 : decode cX9_count 78 = .ok (.bipush 10, 2) := by decide +kernel
theorem dX9_count_80 : decode cX9_count 80 = .ok (.isub, 1) := by decide +kernel
theorem dX9_count_81 : decode cX9_count 81 = .ok (.iconst 3, 1) := by decide +kernel
theorem dX9_count_82 : decode cX9_count 82 = .ok (.idiv, 1) := by decide +kernel
theorem dX9_count_83 : decode cX9_count 83 = .ok (.iload_n 1, 1) := by decide +kernel
theorem dX9_count_84 : decode cX9_count 84 = .ok (.bipush 10, 2) := by decide +kernel
theorem dX9_count_86 : decode cX9_count 86 = .ok (.isub, 1) := by decide +kernel
theorem dX9_count_87 : decode cX9_count 87 = .ok (.iconst 3, 1) := by decide +kernel
theorem dX9_count_88 : decode cX9_count 88 = .ok (.irem, 1) := by decide +kernel
theorem dX9_count_89 : decode cX9_count 89 = .ok (.invokevirtual 205, 3) := by decide +kernel
theorem dX9_count_92 : decode cX9_count 92 = .ok (.goto 5, 3) := by decide +kernel
theorem dX9_count_95 : decode cX9_count 95 = .ok (.ldc 81, 2) := by decide +kernel
theorem dX9_count_97 : decode cX9_count 97 = .ok (.ireturn, 1) := by decide +kernel
theorem dX9_undo_0 : decode cX9_undo 0 = .ok (.aload_n 0, 1) := by decide +kernel
theorem dX9_undo_1 : decode cX9_undo 1 = .ok (.getfield 55, 3) := by decide +kernel
theorem dX9_undo_4 : decode cX9_undo 4 = .ok (.ifCond .ne 6, 3) := by decide +kernel
theorem dX9_undo_7 : decode cX9_undo 7 = .ok (.ldc 95, 2) := by decide +kernel
theorem dX9_undo_9 : decode cX9_undo 9 = .ok (.ireturn, 1) := by decide +kernel
theorem dX9_undo_10 : decode cX9_undo 10 = .ok (.aload_n 0, 1) := by decide +kernel
theorem dX9_undo_11 : decode cX9_undo 11 = .ok (.dup, 1) := by decide +kernel
theorem dX9_undo_12 : decode cX9_undo 12 = .ok (.getfield 55, 3) := by decide +kernel
theorem dX9_undo_15 : decode cX9_undo 15 = .ok (.iconst 1, 1) := by decide +kernel
theorem dX9_undo_16 : decode cX9_undo 16 = .ok (.isub, 1) := by decide +kernel
theorem dX9_undo_17 : decode cX9_undo 17 = .ok (.putfield 55, 3) := by decide +kernel
theorem dX9_undo_20 : decode cX9_undo 20 = .ok (.iconst 0, 1) := by decide +kernel
theorem dX9_undo_21 : decode cX9_undo 21 = .ok (.istore_n 1, 1) := by decide +kernel
theorem dX9_undo_22 : decode cX9_undo 22 = .ok (.iload_n 1, 1) := by decide +kernel
theorem dX9_undo_23 : decode cX9_undo 23 = .ok (.sipush 168, 3) := by decide +kernel
theorem dX9_undo_26 : decode cX9_undo 26 = .ok (.if_icmp .ge 30, 3) := by decide +kernel
theorem dX9_undo_29 : decode cX9_undo 29 = .ok (.aload_n 0, 1) := by decide +kernel
theorem dX9_undo_30 : decode cX9_undo 30 = .ok (.getfield 7, 3) := by decide +kernel
theorem dX9_undo_33 : decode cX9_undo 33 = .ok (.iload_n 1, 1) := by decide +kernel
theorem dX9_undo_34 : decode cX9_undo 34 = .ok (.aload_n 0, 1) := by decide +kernel
theorem dX9_undo_35 : decode cX9_undo 35 = .ok (.getfield 13, 3) := by decide +kernel
theorem dX9_undo_38 : decode cX9_undo 38 = .ok (.sipush 168, 3) := by decide +kernel
theorem dX9_undo_41 : decode cX9_undo 41 = .ok (.aload_n 0, 1) := by decide +kernel
theorem dX9_undo_42 : decode cX9_undo 42 = .ok (.getfield 55, 3) := by decide +kernel
theorem dX9_undo_45 : decode cX9_undo 45 = .ok (.imul, 1) := by decide +kernel
theorem dX9_undo_46 : decode cX9_undo 46 = .ok (.iload_n 1, 1) := by decide +kernel
theorem dX9_undo_47 : decode cX9_undo 47 = .ok (.iadd, 1) := by decide +kernel
theorem dX9_undo_48 : decode cX9_undo 48 = .ok (.iaload, 1) := by decide +kernel
theorem dX9_undo_49 : decode cX9_undo 49 = .ok (.iastore, 1) := by decide +kernel
theorem dX9_undo_50 : decode cX9_undo 50 = .ok (.iinc 1 1, 3) := by decide +kernel
theorem dX9_undo_53 : decode cX9_undo 53 = .ok (.goto (-31), 3) := by decide +kernel
theorem dX9_undo_56 : decode cX9_undo 56 = .ok (.aload_n 0, 1) := by decide +kernel
theorem dX9_undo_57 : decode cX9_undo 57 = .ok (.getfield 55, 3) := by decide +kernel
theorem dX9_undo_60 : decode cX9_undo 60 = .ok (.ireturn, 1) := by decide +kernel
theorem dX9_type_0 : decode cX9_type 0 = .ok (.iload_n 1, 1) := by decide +kernel
theorem dX9_type_1 : decode cX9_type 1 = .ok (.bipush 32, 2) := by decide +kernel
theorem dX9_type_3 : decode cX9_type 3 = .ok (.bipush 126, 2) := by decide +kernel
theorem dX9_type_5 : decode cX9_type 5 = .ok (.invokestatic 59, 3) := by decide +kernel
theorem dX9_type_8 : decode cX9_type 8 = .ok (.ifCond .ne 6, 3) := by decide +kernel
theorem dX9_type_11 : decode cX9_type 11 = .ok (.ldc 81, 2) := by decide +kernel
theorem dX9_type_13 : decode cX9_type 13 = .ok (.ireturn, 1) := by decide +kernel
theorem dX9_type_14 : decode cX9_type 14 = .ok (.aload_n 0, 1) := by decide +kernel
theorem dX9_type_15 : decode cX9_type 15 = .ok (.getfield 215, 3) := by decide +kernel
theorem dX9_type_18 : decode cX9_type 18 = .ok (.bipush 80, 2) := by decide +kernel
theorem dX9_type_20 : decode cX9_type 20 = .ok (.if_icmp .ne 6, 3) := by decide +kernel
theorem dX9_type_23 : decode cX9_type 23 = .ok (.ldc 218, 2) := by decide +kernel
theorem dX9_type_25 : decode cX9_type 25 = .ok (.ireturn, 1) := by decide +kernel
theorem dX9_type_26 : decode cX9_type 26 = .ok (.aload_n 0, 1) := by decide +kernel
theorem dX9_type_27 : decode cX9_type 27 = .ok (.getfield 16, 3) := by decide +kernel
theorem dX9_type_30 : decode cX9_type 30 = .ok (.aload_n 0, 1) := by decide +kernel
theorem dX9_type_31 : decode cX9_type 31 = .ok (.getfield 215, 3) := by decide +kernel
theorem dX9_type_34 : decode cX9_type 34 = .ok (.iload_n 1, 1) := by decide +kernel
theorem dX9_type_35 : decode cX9_type 35 = .ok (.i2c, 1) := by decide +kernel
theorem dX9_type_36 : decode cX9_type 36 = .ok (.castore, 1) := by decide +kernel
theorem dX9_type_37 : decode cX9_type 37 = .ok (.aload_n 0, 1) := by decide +kernel
theorem dX9_type_38 : decode cX9_type 38 = .ok (.dup, 1) := by decide +kernel
theorem dX9_type_39 : decode cX9_type 39 = .ok (.getfield 215, 3) := by decide +kernel
theorem dX9_type_42 : decode cX9_type 42 = .ok (.iconst 1, 1) := by decide +kernel
theorem dX9_type_43 : decode cX9_type 43 = .ok (.iadd, 1) := by decide +kernel
theorem dX9_type_44 : decode cX9_type 44 = .ok (.putfield 215, 3) := by decide +kernel
theorem dX9_type_47 : decode cX9_type 47 = .ok (.aload_n 0, 1) := by decide +kernel
theorem dX9_type_48 : decode cX9_type 48 = .ok (.getfield 215, 3) := by decide +kernel
theorem dX9_type_51 : decode cX9_type 51 = .ok (.ireturn, 1) := by decide +kernel
theorem dX9_clearText_0 : decode cX9_clearText 0 = .ok (.aload_n 0, 1) := by decide +kernel
theorem dX9_clearText_1 : decode cX9_clearText 1 = .ok (.getfield 215, 3) := by decide +kernel
theorem dX9_clearText_4 : decode cX9_clearText 4 = .ok (.istore_n 1, 1) := by decide +kernel
theorem dX9_clearText_5 : decode cX9_clearText 5 = .ok (.aload_n 0, 1) := by decide +kernel
theorem dX9_clearText_6 : decode cX9_clearText 6 = .ok (.iconst 0, 1) := by decide +kernel
theorem dX9_clearText_7 : decode cX9_clearText 7 = .ok (.putfield 215, 3) := by decide +kernel
theorem dX9_clearText_10 : decode cX9_clearText 10 = .ok (.iload_n 1, 1) := by decide +kernel
theorem dX9_clearText_11 : decode cX9_clearText 11 = .ok (.ireturn, 1) := by decide +kernel
theorem dX9_takes_0 : decode cX9_takes 0 = .ok (.aload_n 0, 1) := by decide +kernel
theorem dX9_takes_1 : decode cX9_takes 1 = .ok (.getfield 219, 3) := by decide +kernel
theorem dX9_takes_4 : decode cX9_takes 4 = .ok (.aload_n 0, 1) := by decide +kernel
theorem dX9_takes_5 : decode cX9_takes 5 = .ok (.getfield 215, 3) := by decide +kernel
theorem dX9_takes_8 : decode cX9_takes 8 = .ok (.if_icmp .ge 24, 3) := by decide +kernel
theorem dX9_takes_11 : decode cX9_takes 11 = .ok (.aload_n 0, 1) := by decide +kernel
theorem dX9_takes_12 : decode cX9_takes 12 = .ok (.getfield 16, 3) := by decide +kernel
theorem dX9_takes_15 : decode cX9_takes 15 = .ok (.aload_n 0, 1) := by decide +kernel
theorem dX9_takes_16 : decode cX9_takes 16 = .ok (.getfield 219, 3) := by decide +kernel
theorem dX9_takes_19 : decode cX9_takes 19 = .ok (.caload, 1) := by decide +kernel
theorem dX9_takes_20 : decode cX9_takes 20 = .ok (.iload_n 1, 1) := by decide +kernel
theorem dX9_takes_21 : decode cX9_takes 21 = .ok (.iload_n 2, 1) := by decide +kernel
theorem dX9_takes_22 : decode cX9_takes 22 = .ok (.invokestatic 59, 3) := by decide +kernel
theorem dX9_takes_25 : decode cX9_takes 25 = .ok (.ifCond .eq 7, 3) := by decide +kernel
theorem dX9_takes_28 : decode cX9_takes 28 = .ok (.iconst 1, 1) := by decide +kernel
theorem dX9_takes_29 : decode cX9_takes 29 = .ok (.goto 4, 3) := by decide +kernel
theorem dX9_takes_32 : decode cX9_takes 32 = .ok (.iconst 0, 1) := by decide +kernel
theorem dX9_takes_33 : decode cX9_takes 33 = .ok (.istore_n 3, 1) := by decide +kernel
theorem dX9_takes_34 : decode cX9_takes 34 = .ok (.aload_n 0, 1) := by decide +kernel
theorem dX9_takes_35 : decode cX9_takes 35 = .ok (.iload_n 3, 1) := by decide +kernel
theorem dX9_takes_36 : decode cX9_takes 36 = .ok (.ifCond .eq 17, 3) := by decide +kernel
theorem dX9_takes_39 : decode cX9_takes 39 = .ok (.aload_n 0, 1) := by decide +kernel
theorem dX9_takes_40 : decode cX9_takes 40 = .ok (.getfield 16, 3) := by decide +kernel
theorem dX9_takes_43 : decode cX9_takes 43 = .ok (.aload_n 0, 1) := by decide +kernel
theorem dX9_takes_44 : decode cX9_takes 44 = .ok (.getfield 219, 3) := by decide +kernel
theorem dX9_takes_47 : decode cX9_takes 47 = .ok (.caload, 1) := by decide +kernel
theorem dX9_takes_48 : decode cX9_takes 48 = .ok (.iload_n 1, 1) := by decide +kernel
theorem dX9_takes_49 : decode cX9_takes 49 = .ok (.isub, 1) := by decide +kernel
theorem dX9_takes_50 : decode cX9_takes 50 = .ok (.goto 4, 3) := by decide +kernel
theorem dX9_takes_53 : decode cX9_takes 53 = .ok (.iconst (-1), 1) := by decide +kernel
theorem dX9_takes_54 : decode cX9_takes 54 = .ok (.putfield 222, 3) := by decide +kernel
theorem dX9_takes_57 : decode cX9_takes 57 = .ok (.aload_n 0, 1) := by decide +kernel
theorem dX9_takes_58 : decode cX9_takes 58 = .ok (.dup, 1) := by decide +kernel
theorem dX9_takes_59 : decode cX9_takes 59 = .ok (.getfield 219, 3) := by decide +kernel
theorem dX9_takes_62 : decode cX9_takes 62 = .ok (.iload_n 3, 1) := by decide +kernel
theorem dX9_takes_63 : decode cX9_takes 63 = .ok (.ifCond .eq 7, 3) := by decide +kernel
theorem dX9_takes_66 : decode cX9_takes 66 = .ok (.iconst 1, 1) := by decide +kernel
theorem dX9_takes_67 : decode cX9_takes 67 = .ok (.goto 4, 3) := by decide +kernel
theorem dX9_takes_70 : decode cX9_takes 70 = .ok (.iconst 0, 1) := by decide +kernel
theorem dX9_takes_71 : decode cX9_takes 71 = .ok (.iadd, 1) := by decide +kernel
theorem dX9_takes_72 : decode cX9_takes 72 = .ok (.putfield 219, 3) := by decide +kernel
theorem dX9_takes_75 : decode cX9_takes 75 = .ok (.iload_n 3, 1) := by decide +kernel
theorem dX9_takes_76 : decode cX9_takes 76 = .ok (.ireturn, 1) := by decide +kernel
theorem dX9_kindTaken_0 : decode cX9_kindTaken 0 = .ok (.aload_n 0, 1) := by decide +kernel
theorem dX9_kindTaken_1 : decode cX9_kindTaken 1 = .ok (.bipush 46, 2) := by decide +kernel
theorem dX9_kindTaken_3 : decode cX9_kindTaken 3 = .ok (.bipush 46, 2) := by decide +kernel
theorem dX9_kindTaken_5 : decode cX9_kindTaken 5 = .ok (.invokevirtual 225, 3) := by decide +kernel
theorem dX9_kindTaken_8 : decode cX9_kindTaken 8 = .ok (.ifCond .eq 7, 3) := by decide +kernel
theorem dX9_kindTaken_11 : decode cX9_kindTaken 11 = .ok (.iconst 0, 1) := by decide +kernel
theorem dX9_kindTaken_12 : decode cX9_kindTaken 12 = .ok (.goto 34, 3) := by decide +kernel
theorem dX9_kindTaken_15 : decode cX9_kindTaken 15 = .ok (.aload_n 0, 1) := by decide +kernel
theorem dX9_kindTaken_16 : decode cX9_kindTaken 16 = .ok (.bipush 33, 2) := by decide +kernel
theorem dX9_kindTaken_18 : decode cX9_kindTaken 18 = .ok (.bipush 33, 2) := by decide +kernel
theorem dX9_kindTaken_20 : decode cX9_kindTaken 20 = .ok (.invokevirtual 225, 3) := by decide +kernel
theorem dX9_kindTaken_23 : decode cX9_kindTaken 23 = .ok (.ifCond .eq 7, 3) := by decide +kernel
theorem dX9_kindTaken_26 : decode cX9_kindTaken 26 = .ok (.iconst 1, 1) := by decide +kernel
theorem dX9_kindTaken_27 : decode cX9_kindTaken 27 = .ok (.goto 19, 3) := by decide +kernel
theorem dX9_kindTaken_30 : decode cX9_kindTaken 30 = .ok (.aload_n 0, 1) := by decide +kernel
theorem dX9_kindTaken_31 : decode cX9_kindTaken 31 = .ok (.bipush 63, 2) := by decide +kernel
theorem dX9_kindTaken_33 : decode cX9_kindTaken 33 = .ok (.bipush 63, 2) := by decide +kernel
theorem dX9_kindTaken_35 : decode cX9_kindTaken 35 = .ok (.invokevirtual 225, 3) := by decide +kernel
theorem dX9_kindTaken_38 : decode cX9_kindTaken 38 = .ok (.ifCond .eq 7, 3) := by decide +kernel
theorem dX9_kindTaken_41 : decode cX9_kindTaken 41 = .ok (.iconst 2, 1) := by decide +kernel
theorem dX9_kindTaken_42 : decode cX9_kindTaken 42 = .ok (.goto 4, 3) := by decide +kernel
theorem dX9_kindTaken_45 : decode cX9_kindTaken 45 = .ok (.iconst (-1), 1) := by decide +kernel
theorem dX9_kindTaken_46 : decode cX9_kindTaken 46 = .ok (.ireturn, 1) := by decide +kernel
theorem dX9_takesArrows_0 : decode cX9_takesArrows 0 = .ok (.aload_n 0, 1) := by decide +kernel
theorem dX9_takesArrows_1 : decode cX9_takesArrows 1 = .ok (.bipush 97, 2) := by decide +kernel
theorem dX9_takesArrows_3 : decode cX9_takesArrows 3 = .ok (.bipush 102, 2) := by decide +kernel
theorem dX9_takesArrows_5 : decode cX9_takesArrows 5 = .ok (.invokevirtual 225, 3) := by decide +kernel
theorem dX9_takesArrows_8 : decode cX9_takesArrows 8 = .ok (.ifCond .eq 55, 3) := by decide +kernel
theorem dX9_takesArrows_11 : decode cX9_takesArrows 11 = .ok (.aload_n 0, 1) := by decide +kernel
theorem dX9_takesArrows_12 : decode cX9_takesArrows 12 = .ok (.getfield 49, 3) := by decide +kernel
theorem dX9_takesArrows_15 : decode cX9_takesArrows 15 = .ok (.aload_n 0, 1) := by decide +kernel
theorem dX9_takesArrows_16 : decode cX9_takesArrows 16 = .ok (.getfield 228, 3) := by decide +kernel
theorem dX9_takesArrows_19 : decode cX9_takesArrows 19 = .ok (.aload_n 0, 1) := by decide +kernel
theorem dX9_takesArrows_20 : decode cX9_takesArrows 20 = .ok (.getfield 222, 3) := by decide +kernel
theorem dX9_takesArrows_23 : decode cX9_takesArrows 23 = .ok (.iastore, 1) := by decide +kernel
theorem dX9_takesArrows_24 : decode cX9_takesArrows 24 = .ok (.aload_n 0, 1) := by decide +kernel
theorem dX9_takesArrows_25 : decode cX9_takesArrows 25 = .ok (.bipush 48, 2) := by decide +kernel
theorem dX9_takesArrows_27 : decode cX9_takesArrows 27 = .ok (.bipush 55, 2) := by decide +kernel
theorem dX9_takesArrows_29 : decode cX9_takesArrows 29 = .ok (.invokevirtual 225, 3) := by decide +kernel
theorem dX9_takesArrows_32 : decode cX9_takesArrows 32 = .ok (.ifCond .ne 5, 3) := by decide +kernel
theorem dX9_takesArrows_35 : decode cX9_takesArrows 35 = .ok (.iconst 0, 1) := by decide +kernel
theorem dX9_takesArrows_36 : decode cX9_takesArrows 36 = .ok (.ireturn, 1) := by decide +kernel
theorem dX9_takesArrows_37 : decode cX9_takesArrows 37 = .ok (.aload_n 0, 1) := by decide +kernel
theorem dX9_takesArrows_38 : decode cX9_takesArrows 38 = .ok (.getfield 52, 3) := by decide +kernel
theorem dX9_takesArrows_41 : decode cX9_takesArrows 41 = .ok (.aload_n 0, 1) := by decide +kernel
theorem dX9_takesArrows_42 : decode cX9_takesArrows 42 = .ok (.getfield 228, 3) := by decide +kernel
theorem dX9_takesArrows_45 : decode cX9_takesArrows 45 = .ok (.aload_n 0, 1) := by decide +kernel
theorem dX9_takesArrows_46 : decode cX9_takesArrows 46 = .ok (.getfield 222, 3) := by decide +kernel
theorem dX9_takesArrows_49 : decode cX9_takesArrows 49 = .ok (.iastore, 1) := by decide +kernel
theorem dX9_takesArrows_50 : decode cX9_takesArrows 50 = .ok (.aload_n 0, 1) := by decide +kernel
theorem dX9_takesArrows_51 : decode cX9_takesArrows 51 = .ok (.dup, 1) := by decide +kernel
theorem dX9_takesArrows_52 : decode cX9_takesArrows 52 = .ok (.getfield 228, 3) := by decide +kernel
theorem dX9_takesArrows_55 : decode cX9_takesArrows 55 = .ok (.iconst 1, 1) := by decide +kernel
theorem dX9_takesArrows_56 : decode cX9_takesArrows 56 = .ok (.iadd, 1) := by decide +kernel
theorem dX9_takesArrows_57 : decode cX9_takesArrows 57 = .ok (.putfield 228, 3) := by decide +kernel
theorem dX9_takesArrows_60 : decode cX9_takesArrows 60 = .ok (.goto (-60), 3) := by decide +kernel
theorem dX9_takesArrows_63 : decode cX9_takesArrows 63 = .ok (.iconst 1, 1) := by decide +kernel
theorem dX9_takesArrows_64 : decode cX9_takesArrows 64 = .ok (.ireturn, 1) := by decide +kernel
theorem dX9_twice_0 : decode cX9_twice 0 = .ok (.iconst 0, 1) := by decide +kernel
theorem dX9_twice_1 : decode cX9_twice 1 = .ok (.istore_n 1, 1) := by decide +kernel
theorem dX9_twice_2 : decode cX9_twice 2 = .ok (.iconst 0, 1) := by decide +kernel
theorem dX9_twice_3 : decode cX9_twice 3 = .ok (.istore_n 2, 1) := by decide +kernel
theorem dX9_twice_4 : decode cX9_twice 4 = .ok (.iload_n 2, 1) := by decide +kernel
theorem dX9_twice_5 : decode cX9_twice 5 = .ok (.aload_n 0, 1) := by decide +kernel
theorem dX9_twice_6 : decode cX9_twice 6 = .ok (.getfield 228, 3) := by decide +kernel
theorem dX9_twice_9 : decode cX9_twice 9 = .ok (.if_icmp .ge 41, 3) := by decide +kernel
theorem dX9_twice_12 : decode cX9_twice 12 = .ok (.iload_n 1, 1) := by decide +kernel
theorem dX9_twice_13 : decode cX9_twice 13 = .ok (.aload_n 0, 1) := by decide +kernel
theorem dX9_twice_14 : decode cX9_twice 14 = .ok (.getfield 49, 3) := by decide +kernel
theorem dX9_twice_17 : decode cX9_twice 17 = .ok (.iload_n 2, 1) := by decide +kernel
theorem dX9_twice_18 : decode cX9_twice 18 = .ok (.iaload, 1) := by decide +kernel
theorem dX9_twice_19 : decode cX9_twice 19 = .ok (.ishr, 1) := by decide +kernel
theorem dX9_twice_20 : decode cX9_twice 20 = .ok (.iconst 1, 1) := by decide +kernel
theorem dX9_twice_21 : decode cX9_twice 21 = .ok (.iand, 1) := by decide +kernel
theorem dX9_twice_22 : decode cX9_twice 22 = .ok (.iconst 1, 1) := by decide +kernel
theorem dX9_twice_23 : decode cX9_twice 23 = .ok (.if_icmp .ne 10, 3) := by decide +kernel
theorem dX9_twice_26 : decode cX9_twice 26 = .ok (.aload_n 0, 1) := by decide +kernel
theorem dX9_twice_27 : decode cX9_twice 27 = .ok (.getfield 49, 3) := by decide +kernel
theorem dX9_twice_30 : decode cX9_twice 30 = .ok (.iload_n 2, 1) := by decide +kernel
theorem dX9_twice_31 : decode cX9_twice 31 = .ok (.iaload, 1) := by decide +kernel
theorem dX9_twice_32 : decode cX9_twice 32 = .ok (.ireturn, 1) := by decide +kernel
theorem dX9_twice_33 : decode cX9_twice 33 = .ok (.iload_n 1, 1) := by decide +kernel
theorem dX9_twice_34 : decode cX9_twice 34 = .ok (.iconst 1, 1) := by decide +kernel
theorem dX9_twice_35 : decode cX9_twice 35 = .ok (.aload_n 0, 1) := by decide +kernel
theorem dX9_twice_36 : decode cX9_twice 36 = .ok (.getfield 49, 3) := by decide +kernel
theorem dX9_twice_39 : decode cX9_twice 39 = .ok (.iload_n 2, 1) := by decide +kernel
theorem dX9_twice_40 : decode cX9_twice 40 = .ok (.iaload, 1) := by decide +kernel
theorem dX9_twice_41 : decode cX9_twice 41 = .ok (.ishl, 1) := by decide +kernel
theorem dX9_twice_42 : decode cX9_twice 42 = .ok (.ior, 1) := by decide +kernel
theorem dX9_twice_43 : decode cX9_twice 43 = .ok (.istore_n 1, 1) := by decide +kernel
theorem dX9_twice_44 : decode cX9_twice 44 = .ok (.iinc 2 1, 3) := by decide +kernel
theorem dX9_twice_47 : decode cX9_twice 47 = .ok (.goto (-43), 3) := by decide +kernel
theorem dX9_twice_50 : decode cX9_twice 50 = .ok (.iconst (-1), 1) := by decide +kernel
theorem dX9_twice_51 : decode cX9_twice 51 = .ok (.ireturn, 1) := by decide +kernel
theorem dX9_breaksOff_0 : decode cX9_breaksOff 0 = .ok (.aload_n 0, 1) := by decide +kernel
theorem dX9_breaksOff_1 : decode cX9_breaksOff 1 = .ok (.aload_n 0, 1) := by decide +kernel
theorem dX9_breaksOff_2 : decode cX9_breaksOff 2 = .ok (.getfield 219, 3) := by decide +kernel
theorem dX9_breaksOff_5 : decode cX9_breaksOff 5 = .ok (.aload_n 0, 1) := by decide +kernel
theorem dX9_breaksOff_6 : decode cX9_breaksOff 6 = .ok (.getfield 231, 3) := by decide +kernel
theorem dX9_breaksOff_9 : decode cX9_breaksOff 9 = .ok (.isub, 1) := by decide +kernel
theorem dX9_breaksOff_10 : decode cX9_breaksOff 10 = .ok (.putfield 234, 3) := by decide +kernel
theorem dX9_breaksOff_13 : decode cX9_breaksOff 13 = .ok (.iconst 1, 1) := by decide +kernel
theorem dX9_breaksOff_14 : decode cX9_breaksOff 14 = .ok (.ireturn, 1) := by decide +kernel
theorem dX9_readState_0 : decode cX9_readState 0 = .ok (.aload_n 0, 1) := by decide +kernel
theorem dX9_readState_1 : decode cX9_readState 1 = .ok (.aload_n 0, 1) := by decide +kernel
theorem dX9_readState_2 : decode cX9_readState 2 = .ok (.getfield 219, 3) := by decide +kernel
theorem dX9_readState_5 : decode cX9_readState 5 = .ok (.putfield 231, 3) := by decide +kernel
theorem dX9_readState_8 : decode cX9_readState 8 = .ok (.aload_n 0, 1) := by decide +kernel
theorem dX9_readState_9 : decode cX9_readState 9 = .ok (.iconst 0, 1) := by decide +kernel
theorem dX9_readState_10 : decode cX9_readState 10 = .ok (.putfield 228, 3) := by decide +kernel
theorem dX9_readState_13 : decode cX9_readState 13 = .ok (.aload_n 0, 1) := by decide +kernel
theorem dX9_readState_14 : decode cX9_readState 14 = .ok (.bipush 48, 2) := by decide +kernel
theorem dX9_readState_16 : decode cX9_readState 16 = .ok (.bipush 55, 2) := by decide +kernel
theorem dX9_readState_18 : decode cX9_readState 18 = .ok (.invokevirtual 225, 3) := by decide +kernel
theorem dX9_readState_21 : decode cX9_readState 21 = .ok (.ifCond .ne 8, 3) := by decide +kernel
theorem dX9_readState_24 : decode cX9_readState 24 = .ok (.aload_n 0, 1) := by decide +kernel
theorem dX9_readState_25 : decode cX9_readState 25 = .ok (.invokevirtual 237, 3) := by decide +kernel
theorem dX9_readState_28 : decode cX9_readState 28 = .ok (.ireturn, 1) := by decide +kernel
theorem dX9_readState_29 : decode cX9_readState 29 = .ok (.aload_n 0, 1) := by decide +kernel
theorem dX9_readState_30 : decode cX9_readState 30 = .ok (.getfield 222, 3) := by decide +kernel
theorem dX9_readState_33 : decode cX9_readState 33 = .ok (.istore_n 1, 1) := by decide +kernel
theorem dX9_readState_34 : decode cX9_readState 34 = .ok (.aload_n 0, 1) := by decide +kernel
theorem dX9_readState_35 : decode cX9_readState 35 = .ok (.invokevirtual 240, 3) := by decide +kernel
theorem dX9_readState_38 : decode cX9_readState 38 = .ok (.istore_n 2, 1) := by decide +kernel
theorem dX9_readState_39 : decode cX9_readState 39 = .ok (.iload_n 2, 1) := by decide +kernel
theorem dX9_readState_40 : decode cX9_readState 40 = .ok (.ifCond .lt 25, 3) := by decide +kernel
theorem dX9_readState_43 : decode cX9_readState 43 = .ok (.iload_n 2, 1) := by decide +kernel
theorem dX9_readState_44 : decode cX9_readState 44 = .ok (.ifCond .eq 10, 3) := by decide +kernel
theorem dX9_readState_47 : decode cX9_readState 47 = .ok (.aload_n 0, 1) := by decide +kernel
theorem dX9_readState_48 : decode cX9_readState 48 = .ok (.invokevirtual 243, 3) := by decide +kernel
theorem dX9_readState_51 : decode cX9_readState 51 = .ok (.ifCond .eq 14, 3) := by decide +kernel
theorem dX9_readState_54 : decode cX9_readState 54 = .ok (.aload_n 0, 1) := by decide +kernel
theorem dX9_readState_55 : decode cX9_readState 55 = .ok (.bipush 59, 2) := by decide +kernel
theorem dX9_readState_57 : decode cX9_readState 57 = .ok (.bipush 59, 2) := by decide +kernel
theorem dX9_readState_59 : decode cX9_readState 59 = .ok (.invokevirtual 225, 3) := by decide +kernel
theorem dX9_readState_62 : decode cX9_readState 62 = .ok (.ifCond .ne 8, 3) := by decide +kernel
theorem dX9_readState_65 : decode cX9_readState 65 = .ok (.aload_n 0, 1) := by decide +kernel
theorem dX9_readState_66 : decode cX9_readState 66 = .ok (.invokevirtual 237, 3) := by decide +kernel
theorem dX9_readState_69 : decode cX9_readState 69 = .ok (.ireturn, 1) := by decide +kernel
theorem dX9_readState_70 : decode cX9_readState 70 = .ok (.aload_n 0, 1) := by decide +kernel
theorem dX9_readState_71 : decode cX9_readState 71 = .ok (.ldc 121, 2) := by decide +kernel
theorem dX9_readState_73 : decode cX9_readState 73 = .ok (.putfield 234, 3) := by decide +kernel
theorem dX9_readState_76 : decode cX9_readState 76 = .ok (.aload_n 0, 1) := by decide +kernel
theorem dX9_readState_77 : decode cX9_readState 77 = .ok (.getfield 247, 3) := by decide +kernel
theorem dX9_readState_80 : decode cX9_readState 80 = .ok (.iload_n 1, 1) := by decide +kernel
theorem dX9_readState_81 : decode cX9_readState 81 = .ok (.ishr, 1) := by decide +kernel
theorem dX9_readState_82 : decode cX9_readState 82 = .ok (.iconst 1, 1) := by decide +kernel
theorem dX9_readState_83 : decode cX9_readState 83 = .ok (.iand, 1) := by decide +kernel
theorem dX9_readState_84 : decode cX9_readState 84 = .ok (.iconst 1, 1) := by decide +kernel
theorem dX9_readState_85 : decode cX9_readState 85 = .ok (.if_icmp .ne 5, 3) := by decide +kernel
theorem dX9_readState_88 : decode cX9_readState 88 = .ok (.iconst 2, 1) := by decide +kernel
theorem dX9_readState_89 : decode cX9_readState 89 = .ok (.ireturn, 1) := by decide +kernel
theorem dX9_readState_90 : decode cX9_readState 90 = .ok (.aload_n 0, 1) := by decide +kernel
theorem dX9_readState_91 : decode cX9_readState 91 = .ok (.invokevirtual 250, 3) := by decide +kernel
theorem dX9_readState_94 : decode cX9_readState 94 = .ok (.ifCond .lt 13, 3) := by decide +kernel
theorem dX9_readState_97 : decode cX9_readState 97 = .ok (.aload_n 0, 1) := by decide +kernel
theorem dX9_readState_98 : decode cX9_readState 98 = .ok (.aload_n 0, 1) := by decide +kernel
theorem dX9_readState_99 : decode cX9_readState 99 = .ok (.invokevirtual 250, 3) := by decide +kernel
theorem dX9_readState_102 : decode cX9_readState 102 = .ok (.putfield 234, 3) := by decide +kernel
theorem dX9_readState_105 : decode cX9_readState 105 = .ok (.iconst 3, 1) := by decide +kernel
theorem dX9_readState_106 : decode cX9_readState 106 = .ok (.ireturn, 1) := by decide +kernel
theorem dX9_readState_107 : decode cX9_readState 107 = .ok (.aload_n 0, 1) := by decide +kernel
theorem dX9_readState_108 : decode cX9_readState 108 = .ok (.dup, 1) := by decide +kernel
theorem dX9_readState_109 : decode cX9_readState 109 = .ok (.getfield 247, 3) := by decide +kernel
theorem dX9_readState_112 : decode cX9_readState 112 = .ok (.iconst 1, 1) := by decide +kernel
theorem dX9_readState_113 : decode cX9_readState 113 = .ok (.iload_n 1, 1) := by decide +kernel
theorem dX9_readState_114 : decode cX9_readState 114 = .ok (.ishl, 1) := by decide +kernel
theorem dX9_readState_115 : decode cX9_readState 115 = .ok (.ior, 1) := by decide +kernel
theorem dX9_readState_116 : decode cX9_readState 116 = .ok (.putfield 247, 3) := by decide +kernel
theorem dX9_readState_119 : decode cX9_readState 119 = .ok (.aload_n 0, 1) := by decide +kernel
theorem dX9_readState_120 : decode cX9_readState 120 = .ok (.dup, 1) := by decide +kernel
theorem dX9_readState_121 : decode cX9_readState 121 = .ok (.getfield 253, 3) := by decide +kernel
theorem dX9_readState_124 : decode cX9_readState 124 = .ok (.iconst 1, 1) := by decide +kernel
theorem dX9_readState_125 : decode cX9_readState 125 = .ok (.iadd, 1) := by decide +kernel
theorem dX9_readState_126 : decode cX9_readState 126 = .ok (.putfield 253, 3) := by decide +kernel
theorem dX9_readState_129 : decode cX9_readState 129 = .ok (.aload_n 0, 1) := by decide +kernel
theorem dX9_readState_130 : decode cX9_readState 130 = .ok (.getfield 46, 3) := by decide +kernel
theorem dX9_readState_133 : decode cX9_readState 133 = .ok (.bipush 7, 2) := by decide +kernel
theorem dX9_readState_135 : decode cX9_readState 135 = .ok (.iload_n 1, 1) := by decide +kernel
theorem dX9_readState_136 : decode cX9_readState 136 = .ok (.imul, 1) := by decide +kernel
theorem dX9_readState_137 : decode cX9_readState 137 = .ok (.iload_n 2, 1) := by decide +kernel
theorem dX9_readState_138 : decode cX9_readState 138 = .ok (.iastore, 1) := by decide +kernel
theorem dX9_readState_139 : decode cX9_readState 139 = .ok (.iconst 0, 1) := by decide +kernel
theorem dX9_readState_140 : decode cX9_readState 140 = .ok (.istore_n 3, 1) := by decide +kernel
theorem dX9_readState_141 : decode cX9_readState 141 = .ok (.iload_n 3, 1) := by decide +kernel
theorem dX9_readState_142 : decode cX9_readState 142 = .ok (.aload_n 0, 1) := by decide +kernel
theorem dX9_readState_143 : decode cX9_readState 143 = .ok (.getfield 228, 3) := by decide +kernel
theorem dX9_readState_146 : decode cX9_readState 146 = .ok (.if_icmp .ge 35, 3) := by decide +kernel
theorem dX9_readState_149 : decode cX9_readState 149 = .ok (.aload_n 0, 1) := by decide +kernel
theorem dX9_readState_150 : decode cX9_readState 150 = .ok (.getfield 46, 3) := by decide +kernel
theorem dX9_readState_153 : decode cX9_readState 153 = .ok (.bipush 7, 2) := by decide +kernel
theorem dX9_readState_155 : decode cX9_readState 155 = .ok (.iload_n 1, 1) := by decide +kernel
theorem dX9_readState_156 : decode cX9_readState 156 = .ok (.imul, 1) := by decide +kernel
theorem dX9_readState_157 : decode cX9_readState 157 = .ok (.iconst 1, 1) := by decide +kernel
theorem dX9_readState_158 : decode cX9_readState 158 = .ok (.iadd, 1) := by decide +kernel
theorem dX9_readState_159 : decode cX9_readState 159 = .ok (.aload_n 0, 1) := by decide +kernel
theorem dX9_readState_160 : decode cX9_readState 160 = .ok (.getfield 49, 3) := by decide +kernel
theorem dX9_readState_163 : decode cX9_readState 163 = .ok (.iload_n 3, 1) := by decide +kernel
theorem dX9_readState_164 : decode cX9_readState 164 = .ok (.iaload, 1) := by decide +kernel
theorem dX9_readState_165 : decode cX9_readState 165 = .ok (.iadd, 1) := by decide +kernel
theorem dX9_readState_166 : decode cX9_readState 166 = .ok (.aload_n 0, 1) := by decide +kernel
theorem dX9_readState_167 : decode cX9_readState 167 = .ok (.getfield 52, 3) := by decide +kernel
theorem dX9_readState_170 : decode cX9_readState 170 = .ok (.iload_n 3, 1) := by decide +kernel
theorem dX9_readState_171 : decode cX9_readState 171 = .ok (.iaload, 1) := by decide +kernel
theorem dX9_readState_172 : decode cX9_readState 172 = .ok (.iconst 1, 1) := by decide +kernel
theorem dX9_readState_173 : decode cX9_readState 173 = .ok (.iadd, 1) := by decide +kernel
theorem dX9_readState_174 : decode cX9_readState 174 = .ok (.iastore, 1) := by decide +kernel
theorem dX9_readState_175 : decode cX9_readState 175 = .ok (.iinc 3 1, 3) := by decide +kernel
theorem dX9_readState_178 : decode cX9_readState 178 = .ok (.goto (-37), 3) := by decide +kernel
theorem dX9_readState_181 : decode cX9_readState 181 = .ok (.iconst 0, 1) := by decide +kernel
theorem dX9_readState_182 : decode cX9_readState 182 = .ok (.ireturn, 1) := by decide +kernel
theorem dX9_faulty_0 : decode cX9_faulty 0 = .ok (.aload_n 0, 1) := by decide +kernel
theorem dX9_faulty_1 : decode cX9_faulty 1 = .ok (.iconst 0, 1) := by decide +kernel
theorem dX9_faulty_2 : decode cX9_faulty 2 = .ok (.putfield 219, 3) := by decide +kernel
theorem dX9_faulty_5 : decode cX9_faulty 5 = .ok (.aload_n 0, 1) := by decide +kernel
theorem dX9_faulty_6 : decode cX9_faulty 6 = .ok (.iconst 0, 1) := by decide +kernel
theorem dX9_faulty_7 : decode cX9_faulty 7 = .ok (.putfield 247, 3) := by decide +kernel
theorem dX9_faulty_10 : decode cX9_faulty 10 = .ok (.aload_n 0, 1) := by decide +kernel
theorem dX9_faulty_11 : decode cX9_faulty 11 = .ok (.iconst 0, 1) := by decide +kernel
theorem dX9_faulty_12 : decode cX9_faulty 12 = .ok (.putfield 253, 3) := by decide +kernel
theorem dX9_faulty_15 : decode cX9_faulty 15 = .ok (.aload_n 0, 1) := by decide +kernel
theorem dX9_faulty_16 : decode cX9_faulty 16 = .ok (.iconst 0, 1) := by decide +kernel
theorem dX9_faulty_17 : decode cX9_faulty 17 = .ok (.putfield 256, 3) := by decide +kernel
theorem dX9_faulty_20 : decode cX9_faulty 20 = .ok (.iconst 0, 1) := by decide +kernel
theorem dX9_faulty_21 : decode cX9_faulty 21 = .ok (.istore_n 1, 1) := by decide +kernel
theorem dX9_faulty_22 : decode cX9_faulty 22 = .ok (.iload_n 1, 1) := by decide +kernel
theorem dX9_faulty_23 : decode cX9_faulty 23 = .ok (.bipush 56, 2) := by decide +kernel
theorem dX9_faulty_25 : decode cX9_faulty 25 = .ok (.if_icmp .ge 16, 3) := by decide +kernel
theorem dX9_faulty_28 : decode cX9_faulty 28 = .ok (.aload_n 0, 1) := by decide +kernel
theorem dX9_faulty_29 : decode cX9_faulty 29 = .ok (.getfield 46, 3) := by decide +kernel
theorem dX9_faulty_32 : decode cX9_faulty 32 = .ok (.iload_n 1, 1) := by decide +kernel
theorem dX9_faulty_33 : decode cX9_faulty 33 = .ok (.iconst 0, 1) := by decide +kernel
theorem dX9_faulty_34 : decode cX9_faulty 34 = .ok (.iastore, 1) := by decide +kernel
theorem dX9_faulty_35 : decode cX9_faulty 35 = .ok (.iinc 1 1, 3) := by decide +kernel
theorem dX9_faulty_38 : decode cX9_faulty 38 = .ok (.goto (-16), 3) := by decide +kernel
theorem dX9_faulty_41 : decode cX9_faulty 41 = .ok (.aload_n 0, 1) := by decide +kernel
theorem dX9_faulty_42 : decode cX9_faulty 42 = .ok (.getfield 219, 3) := by decide +kernel
theorem dX9_faulty_45 : decode cX9_faulty 45 = .ok (.aload_n 0, 1) := by decide +kernel
theorem dX9_faulty_46 : decode cX9_faulty 46 = .ok (.getfield 215, 3) := by decide +kernel
theorem dX9_faulty_49 : decode cX9_faulty 49 = .ok (.if_icmp .ge 21, 3) := by decide +kernel
theorem dX9_faulty_52 : decode cX9_faulty 52 = .ok (.aload_n 0, 1) := by decide +kernel
theorem dX9_faulty_53 : decode cX9_faulty 53 = .ok (.getfield 256, 3) := by decide +kernel
theorem dX9_faulty_56 : decode cX9_faulty 56 = .ok (.ifCond .ne 14, 3) := by decide +kernel
theorem dX9_faulty_59 : decode cX9_faulty 59 = .ok (.aload_n 0, 1) := by decide +kernel
theorem dX9_faulty_60 : decode cX9_faulty 60 = .ok (.aload_n 0, 1) := by decide +kernel
theorem dX9_faulty_61 : decode cX9_faulty 61 = .ok (.invokevirtual 259, 3) := by decide +kernel
theorem dX9_faulty_64 : decode cX9_faulty 64 = .ok (.putfield 256, 3) := by decide +kernel
theorem dX9_faulty_67 : decode cX9_faulty 67 = .ok (.goto (-26), 3) := by decide +kernel
theorem dX9_faulty_70 : decode cX9_faulty 70 = .ok (.aload_n 0, 1) := by decide +kernel
theorem dX9_faulty_71 : decode cX9_faulty 71 = .ok (.getfield 256, 3) := by decide +kernel
theorem dX9_faulty_74 : decode cX9_faulty 74 = .ok (.ifCond .ne 8, 3) := by decide +kernel
theorem dX9_faulty_77 : decode cX9_faulty 77 = .ok (.ldc 121, 2) := by decide +kernel
theorem dX9_faulty_79 : decode cX9_faulty 79 = .ok (.goto 7, 3) := by decide +kernel
theorem dX9_faulty_82 : decode cX9_faulty 82 = .ok (.aload_n 0, 1) := by decide +kernel
theorem dX9_faulty_83 : decode cX9_faulty 83 = .ok (.getfield 231, 3) := by decide +kernel
theorem dX9_faulty_86 : decode cX9_faulty 86 = .ok (.ireturn, 1) := by decide +kernel
theorem dX9_fault_0 : decode cX9_fault 0 = .ok (.iload_n 1, 1) := by decide +kernel
theorem dX9_fault_1 : decode cX9_fault 1 = .ok (.iconst 0, 1) := by decide +kernel
theorem dX9_fault_2 : decode cX9_fault 2 = .ok (.iconst 2, 1) := by decide +kernel
theorem dX9_fault_3 : decode cX9_fault 3 = .ok (.invokestatic 59, 3) := by decide +kernel
theorem dX9_fault_6 : decode cX9_fault 6 = .ok (.ifCond .ne 6, 3) := by decide +kernel
theorem dX9_fault_9 : decode cX9_fault 9 = .ok (.ldc 81, 2) := by decide +kernel
theorem dX9_fault_11 : decode cX9_fault 11 = .ok (.ireturn, 1) := by decide +kernel
theorem dX9_fault_12 : decode cX9_fault 12 = .ok (.aload_n 0, 1) := by decide +kernel
theorem dX9_fault_13 : decode cX9_fault 13 = .ok (.invokevirtual 262, 3) := by decide +kernel
theorem dX9_fault_16 : decode cX9_fault 16 = .ok (.istore_n 2, 1) := by decide +kernel
theorem dX9_fault_17 : decode cX9_fault 17 = .ok (.iload_n 2, 1) := by decide +kernel
theorem dX9_fault_18 : decode cX9_fault 18 = .ok (.ldc 121, 2) := by decide +kernel
theorem dX9_fault_20 : decode cX9_fault 20 = .ok (.if_icmp .eq 7, 3) := by decide +kernel
theorem dX9_fault_23 : decode cX9_fault 23 = .ok (.iload_n 1, 1) := by decide +kernel
theorem dX9_fault_24 : decode cX9_fault 24 = .ok (.ifCond .ne 7, 3) := by decide +kernel
theorem dX9_fault_27 : decode cX9_fault 27 = .ok (.iload_n 2, 1) := by decide +kernel
theorem dX9_fault_28 : decode cX9_fault 28 = .ok (.goto 19, 3) := by decide +kernel
theorem dX9_fault_31 : decode cX9_fault 31 = .ok (.iload_n 1, 1) := by decide +kernel
theorem dX9_fault_32 : decode cX9_fault 32 = .ok (.iconst 1, 1) := by decide +kernel
theorem dX9_fault_33 : decode cX9_fault 33 = .ok (.if_icmp .ne 10, 3) := by decide +kernel
theorem dX9_fault_36 : decode cX9_fault 36 = .ok (.aload_n 0, 1) := by decide +kernel
theorem dX9_fault_37 : decode cX9_fault 37 = .ok (.getfield 256, 3) := by decide +kernel
theorem dX9_fault_40 : decode cX9_fault 40 = .ok (.goto 7, 3) := by decide +kernel
theorem dX9_fault_43 : decode cX9_fault 43 = .ok (.aload_n 0, 1) := by decide +kernel
theorem dX9_fault_44 : decode cX9_fault 44 = .ok (.getfield 234, 3) := by decide +kernel
theorem dX9_fault_47 : decode cX9_fault 47 = .ok (.ireturn, 1) := by decide +kernel
theorem dX9_read_0 : decode cX9_read 0 = .ok (.iload_n 1, 1) := by decide +kernel
theorem dX9_read_1 : decode cX9_read 1 = .ok (.invokestatic 74, 3) := by decide +kernel
theorem dX9_read_4 : decode cX9_read 4 = .ok (.ifCond .ne 6, 3) := by decide +kernel
theorem dX9_read_7 : decode cX9_read 7 = .ok (.ldc 81, 2) := by decide +kernel
theorem dX9_read_9 : decode cX9_read 9 = .ok (.ireturn, 1) := by decide +kernel
theorem dX9_read_10 : decode cX9_read 10 = .ok (.aload_n 0, 1) := by decide +kernel
theorem dX9_read_11 : decode cX9_read 11 = .ok (.invokevirtual 262, 3) := by decide +kernel
theorem dX9_read_14 : decode cX9_read 14 = .ok (.ldc 121, 2) := by decide +kernel
theorem dX9_read_16 : decode cX9_read 16 = .ok (.if_icmp .eq 6, 3) := by decide +kernel
theorem dX9_read_19 : decode cX9_read 19 = .ok (.ldc 95, 2) := by decide +kernel
theorem dX9_read_21 : decode cX9_read 21 = .ok (.ireturn, 1) := by decide +kernel
theorem dX9_read_22 : decode cX9_read 22 = .ok (.aload_n 0, 1) := by decide +kernel
theorem dX9_read_23 : decode cX9_read 23 = .ok (.invokevirtual 82, 3) := by decide +kernel
theorem dX9_read_26 : decode cX9_read 26 = .ok (.iconst 0, 1) := by decide +kernel
theorem dX9_read_27 : decode cX9_read 27 = .ok (.istore_n 2, 1) := by decide +kernel
theorem dX9_read_28 : decode cX9_read 28 = .ok (.iload_n 2, 1) := by decide +kernel
theorem dX9_read_29 : decode cX9_read 29 = .ok (.bipush 56, 2) := by decide +kernel
theorem dX9_read_31 : decode cX9_read 31 = .ok (.if_icmp .ge 26, 3) := by decide +kernel
theorem dX9_read_34 : decode cX9_read 34 = .ok (.aload_n 0, 1) := by decide +kernel
theorem dX9_read_35 : decode cX9_read 35 = .ok (.getfield 7, 3) := by decide +kernel
theorem dX9_read_38 : decode cX9_read 38 = .ok (.bipush 56, 2) := by decide +kernel
theorem dX9_read_40 : decode cX9_read 40 = .ok (.iload_n 1, 1) := by decide +kernel
theorem dX9_read_41 : decode cX9_read 41 = .ok (.imul, 1) := by decide +kernel
theorem dX9_read_42 : decode cX9_read 42 = .ok (.iload_n 2, 1) := by decide +kernel
theorem dX9_read_43 : decode cX9_read 43 = .ok (.iadd, 1) := by decide +kernel
theorem dX9_read_44 : decode cX9_read 44 = .ok (.aload_n 0, 1) := by decide +kernel
theorem dX9_read_45 : decode cX9_read 45 = .ok (.getfield 46, 3) := by decide +kernel
theorem dX9_read_48 : decode cX9_read 48 = .ok (.iload_n 2, 1) := by decide +kernel
theorem dX9_read_49 : decode cX9_read 49 = .ok (.iaload, 1) := by decide +kernel
theorem dX9_read_50 : decode cX9_read 50 = .ok (.iastore, 1) := by decide +kernel
theorem dX9_read_51 : decode cX9_read 51 = .ok (.iinc 2 1, 3) := by decide +kernel
theorem dX9_read_54 : decode cX9_read 54 = .ok (.goto (-26), 3) := by decide +kernel
theorem dX9_read_57 : decode cX9_read 57 = .ok (.aload_n 0, 1) := by decide +kernel
theorem dX9_read_58 : decode cX9_read 58 = .ok (.getfield 253, 3) := by decide +kernel
theorem dX9_read_61 : decode cX9_read 61 = .ok (.ireturn, 1) := by decide +kernel
theorem dJ6_bitCount_0f7a4_0 : decode cJ6_bitCount_0f7a4 0 = .ok (.iload_n 0, 1) := by decide +kernel
theorem dJ6_bitCount_0f7a4_1 : decode cJ6_bitCount_0f7a4 1 = .ok (.iload_n 0, 1) := by decide +kernel
theorem dJ6_bitCount_0f7a4_2 : decode cJ6_bitCount_0f7a4 2 = .ok (.iconst 1, 1) := by decide +kernel
theorem dJ6_bitCount_0f7a4_3 : decode cJ6_bitCount_0f7a4 3 = .ok (.iushr, 1) := by decide +kernel
theorem dJ6_bitCount_0f7a4_4 : decode cJ6_bitCount_0f7a4 4 = .ok (.ldc_w 265, 3) := by decide +kernel
theorem dJ6_bitCount_0f7a4_7 : decode cJ6_bitCount_0f7a4 7 = .ok (.iand, 1) := by decide +kernel
theorem dJ6_bitCount_0f7a4_8 : decode cJ6_bitCount_0f7a4 8 = .ok (.isub, 1) := by decide +kernel
theorem dJ6_bitCount_0f7a4_9 : decode cJ6_bitCount_0f7a4 9 = .ok (.istore_n 0, 1) := by decide +kernel
theorem dJ6_bitCount_0f7a4_10 : decode cJ6_bitCount_0f7a4 10 = .ok (.iload_n 0, 1) := by decide +kernel
theorem dJ6_bitCount_0f7a4_11 : decode cJ6_bitCount_0f7a4 11 = .ok (.ldc_w 266, 3) := by decide +kernel
theorem dJ6_bitCount_0f7a4_14 : decode cJ6_bitCount_0f7a4 14 = .ok (.iand, 1) := by decide +kernel
theorem dJ6_bitCount_0f7a4_15 : decode cJ6_bitCount_0f7a4 15 = .ok (.iload_n 0, 1) := by decide +kernel
theorem dJ6_bitCount_0f7a4_16 : decode cJ6_bitCount_0f7a4 16 = .ok (.iconst 2, 1) := by decide +kernel
theorem dJ6_bitCount_0f7a4_17 : decode cJ6_bitCount_0f7a4 17 = .ok (.iushr, 1) := by decide +kernel
theorem dJ6_bitCount_0f7a4_18 : decode cJ6_bitCount_0f7a4 18 = .ok (.ldc_w 266, 3) := by decide +kernel
theorem dJ6_bitCount_0f7a4_21 : decode cJ6_bitCount_0f7a4 21 = .ok (.iand, 1) := by decide +kernel
theorem dJ6_bitCount_0f7a4_22 : decode cJ6_bitCount_0f7a4 22 = .ok (.iadd, 1) := by decide +kernel
theorem dJ6_bitCount_0f7a4_23 : decode cJ6_bitCount_0f7a4 23 = .ok (.istore_n 0, 1) := by decide +kernel
theorem dJ6_bitCount_0f7a4_24 : decode cJ6_bitCount_0f7a4 24 = .ok (.iload_n 0, 1) := by decide +kernel
theorem dJ6_bitCount_0f7a4_25 : decode cJ6_bitCount_0f7a4 25 = .ok (.iload_n 0, 1) := by decide +kernel
theorem dJ6_bitCount_0f7a4_26 : decode cJ6_bitCount_0f7a4 26 = .ok (.iconst 4, 1) := by decide +kernel
theorem dJ6_bitCount_0f7a4_27 : decode cJ6_bitCount_0f7a4 27 = .ok (.iushr, 1) := by decide +kernel
theorem dJ6_bitCount_0f7a4_28 : decode cJ6_bitCount_0f7a4 28 = .ok (.iadd, 1) := by decide +kernel
theorem dJ6_bitCount_0f7a4_29 : decode cJ6_bitCount_0f7a4 29 = .ok (.ldc_w 267, 3) := by decide +kernel
theorem dJ6_bitCount_0f7a4_32 : decode cJ6_bitCount_0f7a4 32 = .ok (.iand, 1) := by decide +kernel
theorem dJ6_bitCount_0f7a4_33 : decode cJ6_bitCount_0f7a4 33 = .ok (.istore_n 0, 1) := by decide +kernel
theorem dJ6_bitCount_0f7a4_34 : decode cJ6_bitCount_0f7a4 34 = .ok (.iload_n 0, 1) := by decide +kernel
theorem dJ6_bitCount_0f7a4_35 : decode cJ6_bitCount_0f7a4 35 = .ok (.iload_n 0, 1) := by decide +kernel
theorem dJ6_bitCount_0f7a4_36 : decode cJ6_bitCount_0f7a4 36 = .ok (.bipush 8, 2) := by decide +kernel
theorem dJ6_bitCount_0f7a4_38 : decode cJ6_bitCount_0f7a4 38 = .ok (.iushr, 1) := by decide +kernel
theorem dJ6_bitCount_0f7a4_39 : decode cJ6_bitCount_0f7a4 39 = .ok (.iadd, 1) := by decide +kernel
theorem dJ6_bitCount_0f7a4_40 : decode cJ6_bitCount_0f7a4 40 = .ok (.istore_n 0, 1) := by decide +kernel
theorem dJ6_bitCount_0f7a4_41 : decode cJ6_bitCount_0f7a4 41 = .ok (.iload_n 0, 1) := by decide +kernel
theorem dJ6_bitCount_0f7a4_42 : decode cJ6_bitCount_0f7a4 42 = .ok (.iload_n 0, 1) := by decide +kernel
theorem dJ6_bitCount_0f7a4_43 : decode cJ6_bitCount_0f7a4 43 = .ok (.bipush 16, 2) := by decide +kernel
theorem dJ6_bitCount_0f7a4_45 : decode cJ6_bitCount_0f7a4 45 = .ok (.iushr, 1) := by decide +kernel
theorem dJ6_bitCount_0f7a4_46 : decode cJ6_bitCount_0f7a4 46 = .ok (.iadd, 1) := by decide +kernel
theorem dJ6_bitCount_0f7a4_47 : decode cJ6_bitCount_0f7a4 47 = .ok (.istore_n 0, 1) := by decide +kernel
theorem dJ6_bitCount_0f7a4_48 : decode cJ6_bitCount_0f7a4 48 = .ok (.iload_n 0, 1) := by decide +kernel
theorem dJ6_bitCount_0f7a4_49 : decode cJ6_bitCount_0f7a4 49 = .ok (.bipush 63, 2) := by decide +kernel
theorem dJ6_bitCount_0f7a4_51 : decode cJ6_bitCount_0f7a4 51 = .ok (.iand, 1) := by decide +kernel
theorem dJ6_bitCount_0f7a4_52 : decode cJ6_bitCount_0f7a4 52 = .ok (.ireturn, 1) := by decide +kernel
theorem dJ9_min_f86c9_0 : decode cJ9_min_f86c9 0 = .ok (.lload_n 0, 1) := by decide +kernel
theorem dJ9_min_f86c9_1 : decode cJ9_min_f86c9 1 = .ok (.lload_n 2, 1) := by decide +kernel
theorem dJ9_min_f86c9_2 : decode cJ9_min_f86c9 2 = .ok (.lcmp, 1) := by decide +kernel
theorem dJ9_min_f86c9_3 : decode cJ9_min_f86c9 3 = .ok (.ifCond .gt 7, 3) := by decide +kernel
theorem dJ9_min_f86c9_6 : decode cJ9_min_f86c9 6 = .ok (.lload_n 0, 1) := by decide +kernel
theorem dJ9_min_f86c9_7 : decode cJ9_min_f86c9 7 = .ok (.goto 4, 3) := by decide +kernel
theorem dJ9_min_f86c9_10 : decode cJ9_min_f86c9 10 = .ok (.lload_n 2, 1) := by decide +kernel
theorem dJ9_min_f86c9_11 : decode cJ9_min_f86c9 11 = .ok (.lreturn, 1) := by decide +kernel
theorem dJ7_fill_d0a16_0 : decode cJ7_fill_d0a16 0 = .ok (.iconst 0, 1) := by decide +kernel
theorem dJ7_fill_d0a16_1 : decode cJ7_fill_d0a16 1 = .ok (.istore_n 3, 1) := by decide +kernel
theorem dJ7_fill_d0a16_2 : decode cJ7_fill_d0a16 2 = .ok (.aload_n 0, 1) := by decide +kernel
theorem dJ7_fill_d0a16_3 : decode cJ7_fill_d0a16 3 = .ok (.arraylength, 1) := by decide +kernel
theorem dJ7_fill_d0a16_4 : decode cJ7_fill_d0a16 4 = .ok (.istore 4, 2) := by decide +kernel
theorem dJ7_fill_d0a16_6 : decode cJ7_fill_d0a16 6 = .ok (.iload_n 3, 1) := by decide +kernel
theorem dJ7_fill_d0a16_7 : decode cJ7_fill_d0a16 7 = .ok (.iload 4, 2) := by decide +kernel
theorem dJ7_fill_d0a16_9 : decode cJ7_fill_d0a16 9 = .ok (.if_icmp .ge 13, 3) := by decide +kernel
theorem dJ7_fill_d0a16_12 : decode cJ7_fill_d0a16 12 = .ok (.aload_n 0, 1) := by decide +kernel
theorem dJ7_fill_d0a16_13 : decode cJ7_fill_d0a16 13 = .ok (.iload_n 3, 1) := by decide +kernel
theorem dJ7_fill_d0a16_14 : decode cJ7_fill_d0a16 14 = .ok (.lload_n 1, 1) := by decide +kernel
theorem dJ7_fill_d0a16_15 : decode cJ7_fill_d0a16 15 = .ok (.lastore, 1) := by decide +kernel
theorem dJ7_fill_d0a16_16 : decode cJ7_fill_d0a16 16 = .ok (.iinc 3 1, 3) := by decide +kernel
theorem dJ7_fill_d0a16_19 : decode cJ7_fill_d0a16 19 = .ok (.goto (-13), 3) := by decide +kernel
theorem dJ7_fill_d0a16_22 : decode cJ7_fill_d0a16 22 = .ok (.return_, 1) := by decide +kernel
theorem dJ7_fill_53178_0 : decode cJ7_fill_53178 0 = .ok (.iconst 0, 1) := by decide +kernel
theorem dJ7_fill_53178_1 : decode cJ7_fill_53178 1 = .ok (.istore_n 2, 1) := by decide +kernel
theorem dJ7_fill_53178_2 : decode cJ7_fill_53178 2 = .ok (.aload_n 0, 1) := by decide +kernel
theorem dJ7_fill_53178_3 : decode cJ7_fill_53178 3 = .ok (.arraylength, 1) := by decide +kernel
theorem dJ7_fill_53178_4 : decode cJ7_fill_53178 4 = .ok (.istore_n 3, 1) := by decide +kernel
theorem dJ7_fill_53178_5 : decode cJ7_fill_53178 5 = .ok (.iload_n 2, 1) := by decide +kernel
theorem dJ7_fill_53178_6 : decode cJ7_fill_53178 6 = .ok (.iload_n 3, 1) := by decide +kernel
theorem dJ7_fill_53178_7 : decode cJ7_fill_53178 7 = .ok (.if_icmp .ge 13, 3) := by decide +kernel
theorem dJ7_fill_53178_10 : decode cJ7_fill_53178 10 = .ok (.aload_n 0, 1) := by decide +kernel
theorem dJ7_fill_53178_11 : decode cJ7_fill_53178 11 = .ok (.iload_n 2, 1) := by decide +kernel
theorem dJ7_fill_53178_12 : decode cJ7_fill_53178 12 = .ok (.iload_n 1, 1) := by decide +kernel
theorem dJ7_fill_53178_13 : decode cJ7_fill_53178 13 = .ok (.iastore, 1) := by decide +kernel
theorem dJ7_fill_53178_14 : decode cJ7_fill_53178 14 = .ok (.iinc 2 1, 3) := by decide +kernel
theorem dJ7_fill_53178_17 : decode cJ7_fill_53178 17 = .ok (.goto (-12), 3) := by decide +kernel
theorem dJ7_fill_53178_20 : decode cJ7_fill_53178 20 = .ok (.return_, 1) := by decide +kernel
theorem dL_law_0 : decode cL_law 0 = .ok (.new 7, 3) := by decide +kernel
theorem dL_law_3 : decode cL_law 3 = .ok (.dup, 1) := by decide +kernel
theorem dL_law_4 : decode cL_law 4 = .ok (.invokespecial 9, 3) := by decide +kernel
theorem dL_law_7 : decode cL_law 7 = .ok (.astore_n 1, 1) := by decide +kernel
theorem dL_law_8 : decode cL_law 8 = .ok (.new 10, 3) := by decide +kernel
theorem dL_law_11 : decode cL_law 11 = .ok (.dup, 1) := by decide +kernel
theorem dL_law_12 : decode cL_law 12 = .ok (.invokespecial 12, 3) := by decide +kernel
theorem dL_law_15 : decode cL_law 15 = .ok (.astore_n 2, 1) := by decide +kernel
theorem dL_law_16 : decode cL_law 16 = .ok (.iconst 0, 1) := by decide +kernel
theorem dL_law_17 : decode cL_law 17 = .ok (.istore_n 3, 1) := by decide +kernel
theorem dL_law_18 : decode cL_law 18 = .ok (.iload_n 3, 1) := by decide +kernel
theorem dL_law_19 : decode cL_law 19 = .ok (.aload_n 0, 1) := by decide +kernel
theorem dL_law_20 : decode cL_law 20 = .ok (.arraylength, 1) := by decide +kernel
theorem dL_law_21 : decode cL_law 21 = .ok (.iconst 5, 1) := by decide +kernel
theorem dL_law_22 : decode cL_law 22 = .ok (.isub, 1) := by decide +kernel
theorem dL_law_23 : decode cL_law 23 = .ok (.if_icmp .gt 688, 3) := by decide +kernel
theorem dL_law_26 : decode cL_law 26 = .ok (.aload_n 0, 1) := by decide +kernel
theorem dL_law_27 : decode cL_law 27 = .ok (.iload_n 3, 1) := by decide +kernel
theorem dL_law_28 : decode cL_law 28 = .ok (.iaload, 1) := by decide +kernel
theorem dL_law_29 : decode cL_law 29 = .ok (.bipush 31, 2) := by decide +kernel
theorem dL_law_31 : decode cL_law 31 = .ok (.iand, 1) := by decide +kernel
theorem dL_law_32 : decode cL_law 32 = .ok (.tableswitch 673 0 17 #[88, 131, 184, 227, 260, 283, 326, 349, 402, 445, 479, 512, 555, 578, 591, 614, 627, 650], 88) := by decide +kernel
theorem dL_law_120 : decode cL_law 120 = .ok (.aload_n 1, 1) := by decide +kernel
theorem dL_law_121 : decode cL_law 121 = .ok (.aload_n 0, 1) := by decide +kernel
theorem dL_law_122 : decode cL_law 122 = .ok (.iload_n 3, 1) := by decide +kernel
theorem dL_law_123 : decode cL_law 123 = .ok (.iconst 1, 1) := by decide +kernel
theorem dL_law_124 : decode cL_law 124 = .ok (.iadd, 1) := by decide +kernel
theorem dL_law_125 : decode cL_law 125 = .ok (.iaload, 1) := by decide +kernel
theorem dL_law_126 : decode cL_law 126 = .ok (.aload_n 0, 1) := by decide +kernel
theorem dL_law_127 : decode cL_law 127 = .ok (.iload_n 3, 1) := by decide +kernel
theorem dL_law_128 : decode cL_law 128 = .ok (.iconst 2, 1) := by decide +kernel
theorem dL_law_129 : decode cL_law 129 = .ok (.iadd, 1) := by decide +kernel
theorem dL_law_130 : decode cL_law 130 = .ok (.iaload, 1) := by decide +kernel
theorem dL_law_131 : decode cL_law 131 = .ok (.aload_n 0, 1) := by decide +kernel
theorem dL_law_132 : decode cL_law 132 = .ok (.iload_n 3, 1) := by decide +kernel
theorem dL_law_133 : decode cL_law 133 = .ok (.iconst 3, 1) := by decide +kernel
theorem dL_law_134 : decode cL_law 134 = .ok (.iadd, 1) := by decide +kernel
theorem dL_law_135 : decode cL_law 135 = .ok (.iaload, 1) := by decide +kernel
theorem dL_law_136 : decode cL_law 136 = .ok (.invokevirtual 13, 3) := by decide +kernel
theorem dL_law_139 : decode cL_law 139 = .ok (.aload_n 2, 1) := by decide +kernel
theorem dL_law_140 : decode cL_law 140 = .ok (.aload_n 0, 1) := by decide +kernel
theorem dL_law_141 : decode cL_law 141 = .ok (.iload_n 3, 1) := by decide +kernel
theorem dL_law_142 : decode cL_law 142 = .ok (.iconst 1, 1) := by decide +kernel
theorem dL_law_143 : decode cL_law 143 = .ok (.iadd, 1) := by decide +kernel
theorem dL_law_144 : decode cL_law 144 = .ok (.iaload, 1) := by decide +kernel
theorem dL_law_145 : decode cL_law 145 = .ok (.aload_n 0, 1) := by decide +kernel
theorem dL_law_146 : decode cL_law 146 = .ok (.iload_n 3, 1) := by decide +kernel
theorem dL_law_147 : decode cL_law 147 = .ok (.iconst 2, 1) := by decide +kernel
theorem dL_law_148 : decode cL_law 148 = .ok (.iadd, 1) := by decide +kernel
theorem dL_law_149 : decode cL_law 149 = .ok (.iaload, 1) := by decide +kernel
theorem dL_law_150 : decode cL_law 150 = .ok (.aload_n 0, 1) := by decide +kernel
theorem dL_law_151 : decode cL_law 151 = .ok (.iload_n 3, 1) := by decide +kernel
theorem dL_law_152 : decode cL_law 152 = .ok (.iconst 3, 1) := by decide +kernel
theorem dL_law_153 : decode cL_law 153 = .ok (.iadd, 1) := by decide +kernel
theorem dL_law_154 : decode cL_law 154 = .ok (.iaload, 1) := by decide +kernel
theorem dL_law_155 : decode cL_law 155 = .ok (.invokevirtual 17, 3) := by decide +kernel
theorem dL_law_158 : decode cL_law 158 = .ok (.if_icmp .eq 547, 3) := by decide +kernel
theorem dL_law_161 : decode cL_law 161 = .ok (.iconst 0, 1) := by decide +kernel
theorem dL_law_162 : decode cL_law 162 = .ok (.ireturn, 1) := by decide +kernel
theorem dL_law_163 : decode cL_law 163 = .ok (.aload_n 1, 1) := by decide +kernel
theorem dL_law_164 : decode cL_law 164 = .ok (.aload_n 0, 1) := by decide +kernel
theorem dL_law_165 : decode cL_law 165 = .ok (.iload_n 3, 1) := by decide +kernel
theorem dL_law_166 : decode cL_law 166 = .ok (.iconst 1, 1) := by decide +kernel
theorem dL_law_167 : decode cL_law 167 = .ok (.iadd, 1) := by decide +kernel
theorem dL_law_168 : decode cL_law 168 = .ok (.iaload, 1) := by decide +kernel
theorem dL_law_169 : decode cL_law 169 = .ok (.aload_n 0, 1) := by decide +kernel
theorem dL_law_170 : decode cL_law 170 = .ok (.iload_n 3, 1) := by decide +kernel
theorem dL_law_171 : decode cL_law 171 = .ok (.iconst 2, 1) := by decide +kernel
theorem dL_law_172 : decode cL_law 172 = .ok (.iadd, 1) := by decide +kernel
theorem dL_law_173 : decode cL_law 173 = .ok (.iaload, 1) := by decide +kernel
theorem dL_law_174 : decode cL_law 174 = .ok (.aload_n 0, 1) := by decide +kernel
theorem dL_law_175 : decode cL_law 175 = .ok (.iload_n 3, 1) := by decide +kernel
theorem dL_law_176 : decode cL_law 176 = .ok (.iconst 3, 1) := by decide +kernel
theorem dL_law_177 : decode cL_law 177 = .ok (.iadd, 1) := by decide +kernel
theorem dL_law_178 : decode cL_law 178 = .ok (.iaload, 1) := by decide +kernel
theorem dL_law_179 : decode cL_law 179 = .ok (.aload_n 0, 1) := by decide +kernel
theorem dL_law_180 : decode cL_law 180 = .ok (.iload_n 3, 1) := by decide +kernel
theorem dL_law_181 : decode cL_law 181 = .ok (.iconst 4, 1) := by decide +kernel
theorem dL_law_182 : decode cL_law 182 = .ok (.iadd, 1) := by decide +kernel
theorem dL_law_183 : decode cL_law 183 = .ok (.iaload, 1) := by decide +kernel
theorem dL_law_184 : decode cL_law 184 = .ok (.invokevirtual 18, 3) := by decide +kernel
theorem dL_law_187 : decode cL_law 187 = .ok (.aload_n 2, 1) := by decide +kernel
theorem dL_law_188 : decode cL_law 188 = .ok (.aload_n 0, 1) := by decide +kernel
theorem dL_law_189 : decode cL_law 189 = .ok (.iload_n 3, 1) := by decide +kernel
theorem dL_law_190 : decode cL_law 190 = .ok (.iconst 1, 1) := by decide +kernel
theorem dL_law_191 : decode cL_law 191 = .ok (.iadd, 1) := by decide +kernel
theorem dL_law_192 : decode cL_law 192 = .ok (.iaload, 1) := by decide +kernel
theorem dL_law_193 : decode cL_law 193 = .ok (.aload_n 0, 1) := by decide +kernel
theorem dL_law_194 : decode cL_law 194 = .ok (.iload_n 3, 1) := by decide +kernel
theorem dL_law_195 : decode cL_law 195 = .ok (.iconst 2, 1) := by decide +kernel
theorem dL_law_196 : decode cL_law 196 = .ok (.iadd, 1) := by decide +kernel
theorem dL_law_197 : decode cL_law 197 = .ok (.iaload, 1) := by decide +kernel
theorem dL_law_198 : decode cL_law 198 = .ok (.aload_n 0, 1) := by decide +kernel
theorem dL_law_199 : decode cL_law 199 = .ok (.iload_n 3, 1) := by decide +kernel
theorem dL_law_200 : decode cL_law 200 = .ok (.iconst 3, 1) := by decide +kernel
theorem dL_law_201 : decode cL_law 201 = .ok (.iadd, 1) := by decide +kernel
theorem dL_law_202 : decode cL_law 202 = .ok (.iaload, 1) := by decide +kernel
theorem dL_law_203 : decode cL_law 203 = .ok (.aload_n 0, 1) := by decide +kernel
theorem dL_law_204 : decode cL_law 204 = .ok (.iload_n 3, 1) := by decide +kernel
theorem dL_law_205 : decode cL_law 205 = .ok (.iconst 4, 1) := by decide +kernel
theorem dL_law_206 : decode cL_law 206 = .ok (.iadd, 1) := by decide +kernel
theorem dL_law_207 : decode cL_law 207 = .ok (.iaload, 1) := by decide +kernel
theorem dL_law_208 : decode cL_law 208 = .ok (.invokevirtual 22, 3) := by decide +kernel
theorem dL_law_211 : decode cL_law 211 = .ok (.if_icmp .eq 494, 3) := by decide +kernel
theorem dL_law_214 : decode cL_law 214 = .ok (.iconst 0, 1) := by decide +kernel
theorem dL_law_215 : decode cL_law 215 = .ok (.ireturn, 1) := by decide +kernel
theorem dL_law_216 : decode cL_law 216 = .ok (.aload_n 1, 1) := by decide +kernel
theorem dL_law_217 : decode cL_law 217 = .ok (.aload_n 0, 1) := by decide +kernel
theorem dL_law_218 : decode cL_law 218 = .ok (.iload_n 3, 1) := by decide +kernel
theorem dL_law_219 : decode cL_law 219 = .ok (.iconst 1, 1) := by decide +kernel
theorem dL_law_220 : decode cL_law 220 = .ok (.iadd, 1) := by decide +kernel
theorem dL_law_221 : decode cL_law 221 = .ok (.iaload, 1) := by decide +kernel
theorem dL_law_222 : decode cL_law 222 = .ok (.aload_n 0, 1) := by decide +kernel
theorem dL_law_223 : decode cL_law 223 = .ok (.iload_n 3, 1) := by decide +kernel
theorem dL_law_224 : decode cL_law 224 = .ok (.iconst 2, 1) := by decide +kernel
theorem dL_law_225 : decode cL_law 225 = .ok (.iadd, 1) := by decide +kernel
theorem dL_law_226 : decode cL_law 226 = .ok (.iaload, 1) := by decide +kernel
theorem dL_law_227 : decode cL_law 227 = .ok (.aload_n 0, 1) := by decide +kernel
theorem dL_law_228 : decode cL_law 228 = .ok (.iload_n 3, 1) := by decide +kernel
theorem dL_law_229 : decode cL_law 229 = .ok (.iconst 3, 1) := by decide +kernel
theorem dL_law_230 : decode cL_law 230 = .ok (.iadd, 1) := by decide +kernel
theorem dL_law_231 : decode cL_law 231 = .ok (.iaload, 1) := by decide +kernel
theorem dL_law_232 : decode cL_law 232 = .ok (.invokevirtual 23, 3) := by decide +kernel
theorem dL_law_235 : decode cL_law 235 = .ok (.aload_n 2, 1) := by decide +kernel
theorem dL_law_236 : decode cL_law 236 = .ok (.aload_n 0, 1) := by decide +kernel
theorem dL_law_237 : decode cL_law 237 = .ok (.iload_n 3, 1) := by decide +kernel
theorem dL_law_238 : decode cL_law 238 = .ok (.iconst 1, 1) := by decide +kernel
theorem dL_law_239 : decode cL_law 239 = .ok (.iadd, 1) := by decide +kernel
theorem dL_law_240 : decode cL_law 240 = .ok (.iaload, 1) := by decide +kernel
theorem dL_law_241 : decode cL_law 241 = .ok (.aload_n 0, 1) := by decide +kernel
theorem dL_law_242 : decode cL_law 242 = .ok (.iload_n 3, 1) := by decide +kernel
theorem dL_law_243 : decode cL_law 243 = .ok (.iconst 2, 1) := by decide +kernel
theorem dL_law_244 : decode cL_law 244 = .ok (.iadd, 1) := by decide +kernel
theorem dL_law_245 : decode cL_law 245 = .ok (.iaload, 1) := by decide +kernel
theorem dL_law_246 : decode cL_law 246 = .ok (.aload_n 0, 1) := by decide +kernel
theorem dL_law_247 : decode cL_law 247 = .ok (.iload_n 3, 1) := by decide +kernel
theorem dL_law_248 : decode cL_law 248 = .ok (.iconst 3, 1) := by decide +kernel
theorem dL_law_249 : decode cL_law 249 = .ok (.iadd, 1) := by decide +kernel
theorem dL_law_250 : decode cL_law 250 = .ok (.iaload, 1) := by decide +kernel
theorem dL_law_251 : decode cL_law 251 = .ok (.invokevirtual 26, 3) := by decide +kernel
theorem dL_law_254 : decode cL_law 254 = .ok (.if_icmp .eq 451, 3) := by decide +kernel
theorem dL_law_257 : decode cL_law 257 = .ok (.iconst 0, 1) := by decide +kernel
theorem dL_law_258 : decode cL_law 258 = .ok (.ireturn, 1) := by decide +kernel
theorem dL_law_259 : decode cL_law 259 = .ok (.aload_n 1, 1) := by decide +kernel
theorem dL_law_260 : decode cL_law 260 = .ok (.aload_n 0, 1) := by decide +kernel
theorem dL_law_261 : decode cL_law 261 = .ok (.iload_n 3, 1) := by decide +kernel
theorem dL_law_262 : decode cL_law 262 = .ok (.iconst 1, 1) := by decide +kernel
theorem dL_law_263 : decode cL_law 263 = .ok (.iadd, 1) := by decide +kernel
theorem dL_law_264 : decode cL_law 264 = .ok (.iaload, 1) := by decide +kernel
theorem dL_law_265 : decode cL_law 265 = .ok (.aload_n 0, 1) := by decide +kernel
theorem dL_law_266 : decode cL_law 266 = .ok (.iload_n 3, 1) := by decide +kernel
theorem dL_law_267 : decode cL_law 267 = .ok (.iconst 2, 1) := by decide +kernel
theorem dL_law_268 : decode cL_law 268 = .ok (.iadd, 1) := by decide +kernel
theorem dL_law_269 : decode cL_law 269 = .ok (.iaload, 1) := by decide +kernel
theorem dL_law_270 : decode cL_law 270 = .ok (.invokevirtual 27, 3) := by decide +kernel
theorem dL_law_273 : decode cL_law 273 = .ok (.aload_n 2, 1) := by decide +kernel
theorem dL_law_274 : decode cL_law 274 = .ok (.aload_n 0, 1) := by decide +kernel
theorem dL_law_275 : decode cL_law 275 = .ok (.iload_n 3, 1) := by decide +kernel
theorem dL_law_276 : decode cL_law 276 = .ok (.iconst 1, 1) := by decide +kernel
theorem dL_law_277 : decode cL_law 277 = .ok (.iadd, 1) := by decide +kernel
theorem dL_law_278 : decode cL_law 278 = .ok (.iaload, 1) := by decide +kernel
theorem dL_law_279 : decode cL_law 279 = .ok (.aload_n 0, 1) := by decide +kernel
theorem dL_law_280 : decode cL_law 280 = .ok (.iload_n 3, 1) := by decide +kernel
theorem dL_law_281 : decode cL_law 281 = .ok (.iconst 2, 1) := by decide +kernel
theorem dL_law_282 : decode cL_law 282 = .ok (.iadd, 1) := by decide +kernel
theorem dL_law_283 : decode cL_law 283 = .ok (.iaload, 1) := by decide +kernel
theorem dL_law_284 : decode cL_law 284 = .ok (.invokevirtual 31, 3) := by decide +kernel
theorem dL_law_287 : decode cL_law 287 = .ok (.if_icmp .eq 418, 3) := by decide +kernel
theorem dL_law_290 : decode cL_law 290 = .ok (.iconst 0, 1) := by decide +kernel
theorem dL_law_291 : decode cL_law 291 = .ok (.ireturn, 1) := by decide +kernel
theorem dL_law_292 : decode cL_law 292 = .ok (.aload_n 1, 1) := by decide +kernel
theorem dL_law_293 : decode cL_law 293 = .ok (.aload_n 0, 1) := by decide +kernel
theorem dL_law_294 : decode cL_law 294 = .ok (.iload_n 3, 1) := by decide +kernel
theorem dL_law_295 : decode cL_law 295 = .ok (.iconst 1, 1) := by decide +kernel
theorem dL_law_296 : decode cL_law 296 = .ok (.iadd, 1) := by decide +kernel
theorem dL_law_297 : decode cL_law 297 = .ok (.iaload, 1) := by decide +kernel
theorem dL_law_298 : decode cL_law 298 = .ok (.invokevirtual 32, 3) := by decide +kernel
theorem dL_law_301 : decode cL_law 301 = .ok (.aload_n 2, 1) := by decide +kernel
theorem dL_law_302 : decode cL_law 302 = .ok (.aload_n 0, 1) := by decide +kernel
theorem dL_law_303 : decode cL_law 303 = .ok (.iload_n 3, 1) := by decide +kernel
theorem dL_law_304 : decode cL_law 304 = .ok (.iconst 1, 1) := by decide +kernel
theorem dL_law_305 : decode cL_law 305 = .ok (.iadd, 1) := by decide +kernel
theorem dL_law_306 : decode cL_law 306 = .ok (.iaload, 1) := by decide +kernel
theorem dL_law_307 : decode cL_law 307 = .ok (.invokevirtual 36, 3) := by decide +kernel
theorem dL_law_310 : decode cL_law 310 = .ok (.if_icmp .eq 395, 3) := by decide +kernel
theorem dL_law_313 : decode cL_law 313 = .ok (.iconst 0, 1) := by decide +kernel
theorem dL_law_314 : decode cL_law 314 = .ok (.ireturn, 1) := by decide +kernel
theorem dL_law_315 : decode cL_law 315 = .ok (.aload_n 1, 1) := by decide +kernel
theorem dL_law_316 : decode cL_law 316 = .ok (.aload_n 0, 1) := by decide +kernel
theorem dL_law_317 : decode cL_law 317 = .ok (.iload_n 3, 1) := by decide +kernel
theorem dL_law_318 : decode cL_law 318 = .ok (.iconst 1, 1) := by decide +kernel
theorem dL_law_319 : decode cL_law 319 = .ok (.iadd, 1) := by decide +kernel
theorem dL_law_320 : decode cL_law 320 = .ok (.iaload, 1) := by decide +kernel
theorem dL_law_321 : decode cL_law 321 = .ok (.aload_n 0, 1) := by decide +kernel
theorem dL_law_322 : decode cL_law 322 = .ok (.iload_n 3, 1) := by decide +kernel
theorem dL_law_323 : decode cL_law 323 = .ok (.iconst 2, 1) := by decide +kernel
theorem dL_law_324 : decode cL_law 324 = .ok (.iadd, 1) := by decide +kernel
theorem dL_law_325 : decode cL_law 325 = .ok (.iaload, 1) := by decide +kernel
theorem dL_law_326 : decode cL_law 326 = .ok (.aload_n 0, 1) := by decide +kernel
theorem dL_law_327 : decode cL_law 327 = .ok (.iload_n 3, 1) := by decide +kernel
theorem dL_law_328 : decode cL_law 328 = .ok (.iconst 3, 1) := by decide +kernel
theorem dL_law_329 : decode cL_law 329 = .ok (.iadd, 1) := by decide +kernel
theorem dL_law_330 : decode cL_law 330 = .ok (.iaload, 1) := by decide +kernel
theorem dL_law_331 : decode cL_law 331 = .ok (.invokevirtual 37, 3) := by decide +kernel
theorem dL_law_334 : decode cL_law 334 = .ok (.aload_n 2, 1) := by decide +kernel
theorem dL_law_335 : decode cL_law 335 = .ok (.aload_n 0, 1) := by decide +kernel
theorem dL_law_336 : decode cL_law 336 = .ok (.iload_n 3, 1) := by decide +kernel
theorem dL_law_337 : decode cL_law 337 = .ok (.iconst 1, 1) := by decide +kernel
theorem dL_law_338 : decode cL_law 338 = .ok (.iadd, 1) := by decide +kernel
theorem dL_law_339 : decode cL_law 339 = .ok (.iaload, 1) := by decide +kernel
theorem dL_law_340 : decode cL_law 340 = .ok (.aload_n 0, 1) := by decide +kernel
theorem dL_law_341 : decode cL_law 341 = .ok (.iload_n 3, 1) := by decide +kernel
theorem dL_law_342 : decode cL_law 342 = .ok (.iconst 2, 1) := by decide +kernel
theorem dL_law_343 : decode cL_law 343 = .ok (.iadd, 1) := by decide +kernel
theorem dL_law_344 : decode cL_law 344 = .ok (.iaload, 1) := by decide +kernel
theorem dL_law_345 : decode cL_law 345 = .ok (.aload_n 0, 1) := by decide +kernel
theorem dL_law_346 : decode cL_law 346 = .ok (.iload_n 3, 1) := by decide +kernel
theorem dL_law_347 : decode cL_law 347 = .ok (.iconst 3, 1) := by decide +kernel
theorem dL_law_348 : decode cL_law 348 = .ok (.iadd, 1) := by decide +kernel
theorem dL_law_349 : decode cL_law 349 = .ok (.iaload, 1) := by decide +kernel
theorem dL_law_350 : decode cL_law 350 = .ok (.invokevirtual 40, 3) := by decide +kernel
theorem dL_law_353 : decode cL_law 353 = .ok (.if_icmp .eq 352, 3) := by decide +kernel
theorem dL_law_356 : decode cL_law 356 = .ok (.iconst 0, 1) := by decide +kernel
theorem dL_law_357 : decode cL_law 357 = .ok (.ireturn, 1) := by decide +kernel
theorem dL_law_358 : decode cL_law 358 = .ok (.aload_n 1, 1) := by decide +kernel
theorem dL_law_359 : decode cL_law 359 = .ok (.aload_n 0, 1) := by decide +kernel
theorem dL_law_360 : decode cL_law 360 = .ok (.iload_n 3, 1) := by decide +kernel
theorem dL_law_361 : decode cL_law 361 = .ok (.iconst 1, 1) := by decide +kernel
theorem dL_law_362 : decode cL_law 362 = .ok (.iadd, 1) := by decide +kernel
theorem dL_law_363 : decode cL_law 363 = .ok (.iaload, 1) := by decide +kernel
theorem dL_law_364 : decode cL_law 364 = .ok (.invokevirtual 41, 3) := by decide +kernel
theorem dL_law_367 : decode cL_law 367 = .ok (.aload_n 2, 1) := by decide +kernel
theorem dL_law_368 : decode cL_law 368 = .ok (.aload_n 0, 1) := by decide +kernel
theorem dL_law_369 : decode cL_law 369 = .ok (.iload_n 3, 1) := by decide +kernel
theorem dL_law_370 : decode cL_law 370 = .ok (.iconst 1, 1) := by decide +kernel
theorem dL_law_371 : decode cL_law 371 = .ok (.iadd, 1) := by decide +kernel
theorem dL_law_372 : decode cL_law 372 = .ok (.iaload, 1) := by decide +kernel
theorem dL_law_373 : decode cL_law 373 = .ok (.invokevirtual 44, 3) := by decide +kernel
theorem dL_law_376 : decode cL_law 376 = .ok (.if_icmp .eq 329, 3) := by decide +kernel
theorem dL_law_379 : decode cL_law 379 = .ok (.iconst 0, 1) := by decide +kernel
theorem dL_law_380 : decode cL_law 380 = .ok (.ireturn, 1) := by decide +kernel
theorem dL_law_381 : decode cL_law 381 = .ok (.aload_n 1, 1) := by decide +kernel
theorem dL_law_382 : decode cL_law 382 = .ok (.aload_n 0, 1) := by decide +kernel
theorem dL_law_383 : decode cL_law 383 = .ok (.iload_n 3, 1) := by decide +kernel
theorem dL_law_384 : decode cL_law 384 = .ok (.iconst 1, 1) := by decide +kernel
theorem dL_law_385 : decode cL_law 385 = .ok (.iadd, 1) := by decide +kernel
theorem dL_law_386 : decode cL_law 386 = .ok (.iaload, 1) := by decide +kernel
theorem dL_law_387 : decode cL_law 387 = .ok (.aload_n 0, 1) := by decide +kernel
theorem dL_law_388 : decode cL_law 388 = .ok (.iload_n 3, 1) := by decide +kernel
theorem dL_law_389 : decode cL_law 389 = .ok (.iconst 2, 1) := by decide +kernel
theorem dL_law_390 : decode cL_law 390 = .ok (.iadd, 1) := by decide +kernel
theorem dL_law_391 : decode cL_law 391 = .ok (.iaload, 1) := by decide +kernel
theorem dL_law_392 : decode cL_law 392 = .ok (.aload_n 0, 1) := by decide +kernel
theorem dL_law_393 : decode cL_law 393 = .ok (.iload_n 3, 1) := by decide +kernel
theorem dL_law_394 : decode cL_law 394 = .ok (.iconst 3, 1) := by decide +kernel
theorem dL_law_395 : decode cL_law 395 = .ok (.iadd, 1) := by decide +kernel
theorem dL_law_396 : decode cL_law 396 = .ok (.iaload, 1) := by decide +kernel
theorem dL_law_397 : decode cL_law 397 = .ok (.aload_n 0, 1) := by decide +kernel
theorem dL_law_398 : decode cL_law 398 = .ok (.iload_n 3, 1) := by decide +kernel
theorem dL_law_399 : decode cL_law 399 = .ok (.iconst 4, 1) := by decide +kernel
theorem dL_law_400 : decode cL_law 400 = .ok (.iadd, 1) := by decide +kernel
theorem dL_law_401 : decode cL_law 401 = .ok (.iaload, 1) := by decide +kernel
theorem dL_law_402 : decode cL_law 402 = .ok (.invokevirtual 45, 3) := by decide +kernel
theorem dL_law_405 : decode cL_law 405 = .ok (.aload_n 2, 1) := by decide +kernel
theorem dL_law_406 : decode cL_law 406 = .ok (.aload_n 0, 1) := by decide +kernel
theorem dL_law_407 : decode cL_law 407 = .ok (.iload_n 3, 1) := by decide +kernel
theorem dL_law_408 : decode cL_law 408 = .ok (.iconst 1, 1) := by decide +kernel
theorem dL_law_409 : decode cL_law 409 = .ok (.iadd, 1) := by decide +kernel
theorem dL_law_410 : decode cL_law 410 = .ok (.iaload, 1) := by decide +kernel
theorem dL_law_411 : decode cL_law 411 = .ok (.aload_n 0, 1) := by decide +kernel
theorem dL_law_412 : decode cL_law 412 = .ok (.iload_n 3, 1) := by decide +kernel
theorem dL_law_413 : decode cL_law 413 = .ok (.iconst 2, 1) := by decide +kernel
theorem dL_law_414 : decode cL_law 414 = .ok (.iadd, 1) := by decide +kernel
theorem dL_law_415 : decode cL_law 415 = .ok (.iaload, 1) := by decide +kernel
theorem dL_law_416 : decode cL_law 416 = .ok (.aload_n 0, 1) := by decide +kernel
theorem dL_law_417 : decode cL_law 417 = .ok (.iload_n 3, 1) := by decide +kernel
theorem dL_law_418 : decode cL_law 418 = .ok (.iconst 3, 1) := by decide +kernel
theorem dL_law_419 : decode cL_law 419 = .ok (.iadd, 1) := by decide +kernel
theorem dL_law_420 : decode cL_law 420 = .ok (.iaload, 1) := by decide +kernel
theorem dL_law_421 : decode cL_law 421 = .ok (.aload_n 0, 1) := by decide +kernel
theorem dL_law_422 : decode cL_law 422 = .ok (.iload_n 3, 1) := by decide +kernel
theorem dL_law_423 : decode cL_law 423 = .ok (.iconst 4, 1) := by decide +kernel
theorem dL_law_424 : decode cL_law 424 = .ok (.iadd, 1) := by decide +kernel
theorem dL_law_425 : decode cL_law 425 = .ok (.iaload, 1) := by decide +kernel
theorem dL_law_426 : decode cL_law 426 = .ok (.invokevirtual 48, 3) := by decide +kernel
theorem dL_law_429 : decode cL_law 429 = .ok (.if_icmp .eq 276, 3) := by decide +kernel
theorem dL_law_432 : decode cL_law 432 = .ok (.iconst 0, 1) := by decide +kernel
theorem dL_law_433 : decode cL_law 433 = .ok (.ireturn, 1) := by decide +kernel
theorem dL_law_434 : decode cL_law 434 = .ok (.aload_n 1, 1) := by decide +kernel
theorem dL_law_435 : decode cL_law 435 = .ok (.aload_n 0, 1) := by decide +kernel
theorem dL_law_436 : decode cL_law 436 = .ok (.iload_n 3, 1) := by decide +kernel
theorem dL_law_437 : decode cL_law 437 = .ok (.iconst 1, 1) := by decide +kernel
theorem dL_law_438 : decode cL_law 438 = .ok (.iadd, 1) := by decide +kernel
theorem dL_law_439 : decode cL_law 439 = .ok (.iaload, 1) := by decide +kernel
theorem dL_law_440 : decode cL_law 440 = .ok (.aload_n 0, 1) := by decide +kernel
theorem dL_law_441 : decode cL_law 441 = .ok (.iload_n 3, 1) := by decide +kernel
theorem dL_law_442 : decode cL_law 442 = .ok (.iconst 2, 1) := by decide +kernel
theorem dL_law_443 : decode cL_law 443 = .ok (.iadd, 1) := by decide +kernel
theorem dL_law_444 : decode cL_law 444 = .ok (.iaload, 1) := by decide +kernel
theorem dL_law_445 : decode cL_law 445 = .ok (.aload_n 0, 1) := by decide +kernel
theorem dL_law_446 : decode cL_law 446 = .ok (.iload_n 3, 1) := by decide +kernel
theorem dL_law_447 : decode cL_law 447 = .ok (.iconst 3, 1) := by decide +kernel
theorem dL_law_448 : decode cL_law 448 = .ok (.iadd, 1) := by decide +kernel
theorem dL_law_449 : decode cL_law 449 = .ok (.iaload, 1) := by decide +kernel
theorem dL_law_450 : decode cL_law 450 = .ok (.invokevirtual 49, 3) := by decide +kernel
theorem dL_law_453 : decode cL_law 453 = .ok (.aload_n 2, 1) := by decide +kernel
theorem dL_law_454 : decode cL_law 454 = .ok (.aload_n 0, 1) := by decide +kernel
theorem dL_law_455 : decode cL_law 455 = .ok (.iload_n 3, 1) := by decide +kernel
theorem dL_law_456 : decode cL_law 456 = .ok (.iconst 1, 1) := by decide +kernel
theorem dL_law_457 : decode cL_law 457 = .ok (.iadd, 1) := by decide +kernel
theorem dL_law_458 : decode cL_law 458 = .ok (.iaload, 1) := by decide +kernel
theorem dL_law_459 : decode cL_law 459 = .ok (.aload_n 0, 1) := by decide +kernel
theorem dL_law_460 : decode cL_law 460 = .ok (.iload_n 3, 1) := by decide +kernel
theorem dL_law_461 : decode cL_law 461 = .ok (.iconst 2, 1) := by decide +kernel
theorem dL_law_462 : decode cL_law 462 = .ok (.iadd, 1) := by decide +kernel
theorem dL_law_463 : decode cL_law 463 = .ok (.iaload, 1) := by decide +kernel
theorem dL_law_464 : decode cL_law 464 = .ok (.aload_n 0, 1) := by decide +kernel
theorem dL_law_465 : decode cL_law 465 = .ok (.iload_n 3, 1) := by decide +kernel
theorem dL_law_466 : decode cL_law 466 = .ok (.iconst 3, 1) := by decide +kernel
theorem dL_law_467 : decode cL_law 467 = .ok (.iadd, 1) := by decide +kernel
theorem dL_law_468 : decode cL_law 468 = .ok (.iaload, 1) := by decide +kernel
theorem dL_law_469 : decode cL_law 469 = .ok (.invokevirtual 52, 3) := by decide +kernel
theorem dL_law_472 : decode cL_law 472 = .ok (.if_icmp .eq 233, 3) := by decide +kernel
theorem dL_law_475 : decode cL_law 475 = .ok (.iconst 0, 1) := by decide +kernel
theorem dL_law_476 : decode cL_law 476 = .ok (.ireturn, 1) := by decide +kernel
theorem dL_law_477 : decode cL_law 477 = .ok (.aload_n 1, 1) := by decide +kernel
theorem dL_law_478 : decode cL_law 478 = .ok (.aload_n 0, 1) := by decide +kernel
theorem dL_law_479 : decode cL_law 479 = .ok (.iload_n 3, 1) := by decide +kernel
theorem dL_law_480 : decode cL_law 480 = .ok (.iconst 1, 1) := by decide +kernel
theorem dL_law_481 : decode cL_law 481 = .ok (.iadd, 1) := by decide +kernel
theorem dL_law_482 : decode cL_law 482 = .ok (.iaload, 1) := by decide +kernel
theorem dL_law_483 : decode cL_law 483 = .ok (.aload_n 0, 1) := by decide +kernel
theorem dL_law_484 : decode cL_law 484 = .ok (.iload_n 3, 1) := by decide +kernel
theorem dL_law_485 : decode cL_law 485 = .ok (.iconst 2, 1) := by decide +kernel
theorem dL_law_486 : decode cL_law 486 = .ok (.iadd, 1) := by decide +kernel
theorem dL_law_487 : decode cL_law 487 = .ok (.iaload, 1) := by decide +kernel
theorem dL_law_488 : decode cL_law 488 = .ok (.invokevirtual 53, 3) := by decide +kernel
theorem dL_law_491 : decode cL_law 491 = .ok (.aload_n 2, 1) := by decide +kernel
theorem dL_law_492 : decode cL_law 492 = .ok (.aload_n 0, 1) := by decide +kernel
theorem dL_law_493 : decode cL_law 493 = .ok (.iload_n 3, 1) := by decide +kernel
theorem dL_law_494 : decode cL_law 494 = .ok (.iconst 1, 1) := by decide +kernel
theorem dL_law_495 : decode cL_law 495 = .ok (.iadd, 1) := by decide +kernel
theorem dL_law_496 : decode cL_law 496 = .ok (.iaload, 1) := by decide +kernel
theorem dL_law_497 : decode cL_law 497 = .ok (.aload_n 0, 1) := by decide +kernel
theorem dL_law_498 : decode cL_law 498 = .ok (.iload_n 3, 1) := by decide +kernel
theorem dL_law_499 : decode cL_law 499 = .ok (.iconst 2, 1) := by decide +kernel
theorem dL_law_500 : decode cL_law 500 = .ok (.iadd, 1) := by decide +kernel
theorem dL_law_501 : decode cL_law 501 = .ok (.iaload, 1) := by decide +kernel
theorem dL_law_502 : decode cL_law 502 = .ok (.invokevirtual 57, 3) := by decide +kernel
theorem dL_law_505 : decode cL_law 505 = .ok (.lcmp, 1) := by decide +kernel
theorem dL_law_506 : decode cL_law 506 = .ok (.ifCond .eq 199, 3) := by decide +kernel
theorem dL_law_509 : decode cL_law 509 = .ok (.iconst 0, 1) := by decide +kernel
theorem dL_law_510 : decode cL_law 510 = .ok (.ireturn, 1) := by decide +kernel
theorem dL_law_511 : decode cL_law 511 = .ok (.aload_n 1, 1) := by decide +kernel
theorem dL_law_512 : decode cL_law 512 = .ok (.aload_n 0, 1) := by decide +kernel
theorem dL_law_513 : decode cL_law 513 = .ok (.iload_n 3, 1) := by decide +kernel
theorem dL_law_514 : decode cL_law 514 = .ok (.iconst 1, 1) := by decide +kernel
theorem dL_law_515 : decode cL_law 515 = .ok (.iadd, 1) := by decide +kernel
theorem dL_law_516 : decode cL_law 516 = .ok (.iaload, 1) := by decide +kernel
theorem dL_law_517 : decode cL_law 517 = .ok (.aload_n 0, 1) := by decide +kernel
theorem dL_law_518 : decode cL_law 518 = .ok (.iload_n 3, 1) := by decide +kernel
theorem dL_law_519 : decode cL_law 519 = .ok (.iconst 2, 1) := by decide +kernel
theorem dL_law_520 : decode cL_law 520 = .ok (.iadd, 1) := by decide +kernel
theorem dL_law_521 : decode cL_law 521 = .ok (.iaload, 1) := by decide +kernel
theorem dL_law_522 : decode cL_law 522 = .ok (.invokevirtual 58, 3) := by decide +kernel
theorem dL_law_525 : decode cL_law 525 = .ok (.aload_n 2, 1) := by decide +kernel
theorem dL_law_526 : decode cL_law 526 = .ok (.aload_n 0, 1) := by decide +kernel
theorem dL_law_527 : decode cL_law 527 = .ok (.iload_n 3, 1) := by decide +kernel
theorem dL_law_528 : decode cL_law 528 = .ok (.iconst 1, 1) := by decide +kernel
theorem dL_law_529 : decode cL_law 529 = .ok (.iadd, 1) := by decide +kernel
theorem dL_law_530 : decode cL_law 530 = .ok (.iaload, 1) := by decide +kernel
theorem dL_law_531 : decode cL_law 531 = .ok (.aload_n 0, 1) := by decide +kernel
theorem dL_law_532 : decode cL_law 532 = .ok (.iload_n 3, 1) := by decide +kernel
theorem dL_law_533 : decode cL_law 533 = .ok (.iconst 2, 1) := by decide +kernel
theorem dL_law_534 : decode cL_law 534 = .ok (.iadd, 1) := by decide +kernel
theorem dL_law_535 : decode cL_law 535 = .ok (.iaload, 1) := by decide +kernel
theorem dL_law_536 : decode cL_law 536 = .ok (.invokevirtual 61, 3) := by decide +kernel
theorem dL_law_539 : decode cL_law 539 = .ok (.if_icmp .eq 166, 3) := by decide +kernel
theorem dL_law_542 : decode cL_law 542 = .ok (.iconst 0, 1) := by decide +kernel
theorem dL_law_543 : decode cL_law 543 = .ok (.ireturn, 1) := by decide +kernel
theorem dL_law_544 : decode cL_law 544 = .ok (.aload_n 1, 1) := by decide +kernel
theorem dL_law_545 : decode cL_law 545 = .ok (.aload_n 0, 1) := by decide +kernel
theorem dL_law_546 : decode cL_law 546 = .ok (.iload_n 3, 1) := by decide +kernel
theorem dL_law_547 : decode cL_law 547 = .ok (.iconst 1, 1) := by decide +kernel
theorem dL_law_548 : decode cL_law 548 = .ok (.iadd, 1) := by decide +kernel
theorem dL_law_549 : decode cL_law 549 = .ok (.iaload, 1) := by decide +kernel
theorem dL_law_550 : decode cL_law 550 = .ok (.aload_n 0, 1) := by decide +kernel
theorem dL_law_551 : decode cL_law 551 = .ok (.iload_n 3, 1) := by decide +kernel
theorem dL_law_552 : decode cL_law 552 = .ok (.iconst 2, 1) := by decide +kernel
theorem dL_law_553 : decode cL_law 553 = .ok (.iadd, 1) := by decide +kernel
theorem dL_law_554 : decode cL_law 554 = .ok (.iaload, 1) := by decide +kernel
theorem dL_law_555 : decode cL_law 555 = .ok (.aload_n 0, 1) := by decide +kernel
theorem dL_law_556 : decode cL_law 556 = .ok (.iload_n 3, 1) := by decide +kernel
theorem dL_law_557 : decode cL_law 557 = .ok (.iconst 3, 1) := by decide +kernel
theorem dL_law_558 : decode cL_law 558 = .ok (.iadd, 1) := by decide +kernel
theorem dL_law_559 : decode cL_law 559 = .ok (.iaload, 1) := by decide +kernel
theorem dL_law_560 : decode cL_law 560 = .ok (.invokevirtual 62, 3) := by decide +kernel
theorem dL_law_563 : decode cL_law 563 = .ok (.aload_n 2, 1) := by decide +kernel
theorem dL_law_564 : decode cL_law 564 = .ok (.aload_n 0, 1) := by decide +kernel
theorem dL_law_565 : decode cL_law 565 = .ok (.iload_n 3, 1) := by decide +kernel
theorem dL_law_566 : decode cL_law 566 = .ok (.iconst 1, 1) := by decide +kernel
theorem dL_law_567 : decode cL_law 567 = .ok (.iadd, 1) := by decide +kernel
theorem dL_law_568 : decode cL_law 568 = .ok (.iaload, 1) := by decide +kernel
theorem dL_law_569 : decode cL_law 569 = .ok (.aload_n 0, 1) := by decide +kernel
theorem dL_law_570 : decode cL_law 570 = .ok (.iload_n 3, 1) := by decide +kernel
theorem dL_law_571 : decode cL_law 571 = .ok (.iconst 2, 1) := by decide +kernel
theorem dL_law_572 : decode cL_law 572 = .ok (.iadd, 1) := by decide +kernel
theorem dL_law_573 : decode cL_law 573 = .ok (.iaload, 1) := by decide +kernel
theorem dL_law_574 : decode cL_law 574 = .ok (.aload_n 0, 1) := by decide +kernel
theorem dL_law_575 : decode cL_law 575 = .ok (.iload_n 3, 1) := by decide +kernel
theorem dL_law_576 : decode cL_law 576 = .ok (.iconst 3, 1) := by decide +kernel
theorem dL_law_577 : decode cL_law 577 = .ok (.iadd, 1) := by decide +kernel
theorem dL_law_578 : decode cL_law 578 = .ok (.iaload, 1) := by decide +kernel
theorem dL_law_579 : decode cL_law 579 = .ok (.invokevirtual 65, 3) := by decide +kernel
theorem dL_law_582 : decode cL_law 582 = .ok (.if_icmp .eq 123, 3) := by decide +kernel
theorem dL_law_585 : decode cL_law 585 = .ok (.iconst 0, 1) := by decide +kernel
theorem dL_law_586 : decode cL_law 586 = .ok (.ireturn, 1) := by decide +kernel
theorem dL_law_587 : decode cL_law 587 = .ok (.aload_n 1, 1) := by decide +kernel
theorem dL_law_588 : decode cL_law 588 = .ok (.aload_n 0, 1) := by decide +kernel
theorem dL_law_589 : decode cL_law 589 = .ok (.iload_n 3, 1) := by decide +kernel
theorem dL_law_590 : decode cL_law 590 = .ok (.iconst 1, 1) := by decide +kernel
theorem dL_law_591 : decode cL_law 591 = .ok (.iadd, 1) := by decide +kernel
theorem dL_law_592 : decode cL_law 592 = .ok (.iaload, 1) := by decide +kernel
theorem dL_law_593 : decode cL_law 593 = .ok (.invokevirtual 66, 3) := by decide +kernel
theorem dL_law_596 : decode cL_law 596 = .ok (.aload_n 2, 1) := by decide +kernel
theorem dL_law_597 : decode cL_law 597 = .ok (.aload_n 0, 1) := by decide +kernel
theorem dL_law_598 : decode cL_law 598 = .ok (.iload_n 3, 1) := by decide +kernel
theorem dL_law_599 : decode cL_law 599 = .ok (.iconst 1, 1) := by decide +kernel
theorem dL_law_600 : decode cL_law 600 = .ok (.iadd, 1) := by decide +kernel
theorem dL_law_601 : decode cL_law 601 = .ok (.iaload, 1) := by decide +kernel
theorem dL_law_602 : decode cL_law 602 = .ok (.invokevirtual 69, 3) := by decide +kernel
theorem dL_law_605 : decode cL_law 605 = .ok (.if_icmp .eq 100, 3) := by decide +kernel
theorem dL_law_608 : decode cL_law 608 = .ok (.iconst 0, 1) := by decide +kernel
theorem dL_law_609 : decode cL_law 609 = .ok (.ireturn, 1) := by decide +kernel
theorem dL_law_610 : decode cL_law 610 = .ok (.aload_n 1, 1) := by decide +kernel
theorem dL_law_611 : decode cL_law 611 = .ok (.invokevirtual 70, 3) := by decide +kernel
theorem dL_law_614 : decode cL_law 614 = .ok (.aload_n 2, 1) := by decide +kernel
theorem dL_law_615 : decode cL_law 615 = .ok (.invokevirtual 74, 3) := by decide +kernel
theorem dL_law_618 : decode cL_law 618 = .ok (.if_icmp .eq 87, 3) := by decide +kernel
theorem dL_law_621 : decode cL_law 621 = .ok (.iconst 0, 1) := by decide +kernel
theorem dL_law_622 : decode cL_law 622 = .ok (.ireturn, 1) := by decide +kernel
theorem dL_law_623 : decode cL_law 623 = .ok (.aload_n 1, 1) := by decide +kernel
theorem dL_law_624 : decode cL_law 624 = .ok (.aload_n 0, 1) := by decide +kernel
theorem dL_law_625 : decode cL_law 625 = .ok (.iload_n 3, 1) := by decide +kernel
theorem dL_law_626 : decode cL_law 626 = .ok (.iconst 1, 1) := by decide +kernel
theorem dL_law_627 : decode cL_law 627 = .ok (.iadd, 1) := by decide +kernel
theorem dL_law_628 : decode cL_law 628 = .ok (.iaload, 1) := by decide +kernel
theorem dL_law_629 : decode cL_law 629 = .ok (.invokevirtual 75, 3) := by decide +kernel
theorem dL_law_632 : decode cL_law 632 = .ok (.aload_n 2, 1) := by decide +kernel
theorem dL_law_633 : decode cL_law 633 = .ok (.aload_n 0, 1) := by decide +kernel
theorem dL_law_634 : decode cL_law 634 = .ok (.iload_n 3, 1) := by decide +kernel
theorem dL_law_635 : decode cL_law 635 = .ok (.iconst 1, 1) := by decide +kernel
theorem dL_law_636 : decode cL_law 636 = .ok (.iadd, 1) := by decide +kernel
theorem dL_law_637 : decode cL_law 637 = .ok (.iaload, 1) := by decide +kernel
theorem dL_law_638 : decode cL_law 638 = .ok (.invokevirtual 78, 3) := by decide +kernel
theorem dL_law_641 : decode cL_law 641 = .ok (.if_icmp .eq 64, 3) := by decide +kernel
theorem dL_law_644 : decode cL_law 644 = .ok (.iconst 0, 1) := by decide +kernel
theorem dL_law_645 : decode cL_law 645 = .ok (.ireturn, 1) := by decide +kernel
theorem dL_law_646 : decode cL_law 646 = .ok (.aload_n 1, 1) := by decide +kernel
theorem dL_law_647 : decode cL_law 647 = .ok (.invokevirtual 79, 3) := by decide +kernel
theorem dL_law_650 : decode cL_law 650 = .ok (.aload_n 2, 1) := by decide +kernel
theorem dL_law_651 : decode cL_law 651 = .ok (.invokevirtual 82, 3) := by decide +kernel
theorem dL_law_654 : decode cL_law 654 = .ok (.if_icmp .eq 51, 3) := by decide +kernel
theorem dL_law_657 : decode cL_law 657 = .ok (.iconst 0, 1) := by decide +kernel
theorem dL_law_658 : decode cL_law 658 = .ok (.ireturn, 1) := by decide +kernel
theorem dL_law_659 : decode cL_law 659 = .ok (.aload_n 1, 1) := by decide +kernel
theorem dL_law_660 : decode cL_law 660 = .ok (.aload_n 0, 1) := by decide +kernel
theorem dL_law_661 : decode cL_law 661 = .ok (.iload_n 3, 1) := by decide +kernel
theorem dL_law_662 : decode cL_law 662 = .ok (.iconst 1, 1) := by decide +kernel
theorem dL_law_663 : decode cL_law 663 = .ok (.iadd, 1) := by decide +kernel
theorem dL_law_664 : decode cL_law 664 = .ok (.iaload, 1) := by decide +kernel
theorem dL_law_665 : decode cL_law 665 = .ok (.invokevirtual 83, 3) := by decide +kernel
theorem dL_law_668 : decode cL_law 668 = .ok (.aload_n 2, 1) := by decide +kernel
theorem dL_law_669 : decode cL_law 669 = .ok (.aload_n 0, 1) := by decide +kernel
theorem dL_law_670 : decode cL_law 670 = .ok (.iload_n 3, 1) := by decide +kernel
theorem dL_law_671 : decode cL_law 671 = .ok (.iconst 1, 1) := by decide +kernel
theorem dL_law_672 : decode cL_law 672 = .ok (.iadd, 1) := by decide +kernel
theorem dL_law_673 : decode cL_law 673 = .ok (.iaload, 1) := by decide +kernel
theorem dL_law_674 : decode cL_law 674 = .ok (.invokevirtual 86, 3) := by decide +kernel
theorem dL_law_677 : decode cL_law 677 = .ok (.if_icmp .eq 28, 3) := by decide +kernel
theorem dL_law_680 : decode cL_law 680 = .ok (.iconst 0, 1) := by decide +kernel
theorem dL_law_681 : decode cL_law 681 = .ok (.ireturn, 1) := by decide +kernel
theorem dL_law_682 : decode cL_law 682 = .ok (.aload_n 1, 1) := by decide +kernel
theorem dL_law_683 : decode cL_law 683 = .ok (.aload_n 0, 1) := by decide +kernel
theorem dL_law_684 : decode cL_law 684 = .ok (.iload_n 3, 1) := by decide +kernel
theorem dL_law_685 : decode cL_law 685 = .ok (.iconst 1, 1) := by decide +kernel
theorem dL_law_686 : decode cL_law 686 = .ok (.iadd, 1) := by decide +kernel
theorem dL_law_687 : decode cL_law 687 = .ok (.iaload, 1) := by decide +kernel
theorem dL_law_688 : decode cL_law 688 = .ok (.invokevirtual 87, 3) := by decide +kernel
theorem dL_law_691 : decode cL_law 691 = .ok (.aload_n 2, 1) := by decide +kernel
theorem dL_law_692 : decode cL_law 692 = .ok (.aload_n 0, 1) := by decide +kernel
theorem dL_law_693 : decode cL_law 693 = .ok (.iload_n 3, 1) := by decide +kernel
theorem dL_law_694 : decode cL_law 694 = .ok (.iconst 1, 1) := by decide +kernel
theorem dL_law_695 : decode cL_law 695 = .ok (.iadd, 1) := by decide +kernel
theorem dL_law_696 : decode cL_law 696 = .ok (.iaload, 1) := by decide +kernel
theorem dL_law_697 : decode cL_law 697 = .ok (.invokevirtual 90, 3) := by decide +kernel
theorem dL_law_700 : decode cL_law 700 = .ok (.if_icmp .eq 5, 3) := by decide +kernel
theorem dL_law_703 : decode cL_law 703 = .ok (.iconst 0, 1) := by decide +kernel
theorem dL_law_704 : decode cL_law 704 = .ok (.ireturn, 1) := by decide +kernel
theorem dL_law_705 : decode cL_law 705 = .ok (.iinc 3 5, 3) := by decide +kernel
theorem dL_law_708 : decode cL_law 708 = .ok (.goto (-690), 3) := by decide +kernel
theorem dL_law_711 : decode cL_law 711 = .ok (.iconst 1, 1) := by decide +kernel
theorem dL_law_712 : decode cL_law 712 = .ok (.ireturn, 1) := by decide +kernel
end
section
/-! THE SMALL MACHINE: one world of 46 cells (31 of the class, 15 of the reference), its numbers as integers; 'Wm' says W over it -/
abbrev mV : Type := Int ⊕ (Int ⊕ Nat)
abbrev mvI (z : Int) : mV := Sum.inl z
abbrev mvJ (z : Int) : mV := Sum.inr (Sum.inl z)
abbrev mvR (i : Nat) : mV := Sum.inr (Sum.inr i)
def mI (z : Int) : Int32 := Int32.ofInt z
def mJ (z : Int) : Int64 := Int64.ofInt z
abbrev mG : Type := va_G × (Nat → Nat) × (ClassId × ClassId × ClassId × ClassId)
abbrev mW : Type := Nat → Int → Int
abbrev mLay : Type := (Nat × List (Option (Option Nat))) ⊕ (Nat × Nat)
abbrev mK : Type := Program × Env × State × MethodId × Array Value × List Frame × Method × Code
def mtr (G : mG) : mV → Value
  | Sum.inl z => .int (mI z)
  | Sum.inr (Sum.inl z) => .long (mJ z)
  | Sum.inr (Sum.inr i) => .ref (G.2.1 i)
def mcat : mV → Nat
  | Sum.inr (Sum.inl _) => 2
  | _ => 1
theorem mtr_cat (G : mG) (v : mV) : (mtr G v).category = mcat v := by
  rcases v with z | z | i <;> rfl
/-- a field's value: a number, a fixed cell, or a cell by its number -/
def mfv (w : mW) (i : Nat) (k : Nat) : Option (Option Nat) → mV
  | none => mvI (w i (k : Int))
  | some (some j) => mvR j
  | some none => mvR (w i (k : Int)).toNat
def mCid (G : mG) : Nat → ClassId
  | 0 => G.2.2.1
  | 1 => G.2.2.2.1
  | 2 => G.2.2.2.2.1
  | _ => G.2.2.2.2.2
def mTy : Nat → FieldType
  | 0 => .int
  | 1 => .boolean
  | 2 => .char
  | _ => .long
def mtys (G : mG) : List (ClassId × FieldType) := [(mCid G 0, .int), (mCid G 1, .boolean), (mCid G 2, .char), (mCid G 3, .long)]
def mcont (r : Nat → Int) : Nat → ((Nat → Int32) ⊕ (Nat → Int64) ⊕ (Nat → UInt32) ⊕ (Nat → UInt64) ⊕ (Nat → Option Nat))
  | 3 => .inr (.inl fun k => mJ (r k))
  | _ => .inl fun k => mI (r k)
def ment (G : mG) (w : mW) (i : Nat) : mLay → va_E
  | Sum.inl o => .inr (o.1, o.2.mapIdx fun k q => mtr G (mfv w i k q))
  | Sum.inr a => .inl (mCid G a.1, a.2, mcont (fun k => w i (k : Int)) a.1)
abbrev sS (j : Nat) : Option (Option Nat) := some (some j)
def mlays : List mLay := [
  .inl (7, [sS 1, sS 3, sS 5, sS 7, sS 9, sS 13, sS 15, sS 21, sS 25]),
  .inl (2, [sS 2]), .inr (0, 56), .inl (2, [sS 4]), .inr (0, 56), .inl (2, [sS 6]), .inr (0, 56),
  .inl (0, [sS 8, none]), .inr (0, 672),
  .inl (3, [sS 10, none, sS 11, none, none, none, none]), .inr (0, 80), .inl (2, [sS 12]), .inr (0, 56),
  .inl (1, [sS 14]), .inr (1, 64),
  .inl (6, [sS 16, sS 17, sS 18, sS 19, sS 20, some none, some none, none]), .inr (0, 64), .inr (0, 64), .inr (0, 64), .inr (0, 64), .inr (0, 64),
  .inl (4, [sS 22, sS 23, sS 24, none]), .inr (0, 64), .inr (3, 64), .inr (0, 64),
  .inl (5, [sS 26, sS 27, sS 28, sS 29, sS 30, some none, some none, none]), .inr (0, 64), .inr (0, 64), .inr (0, 64), .inr (0, 64), .inr (0, 64),
  .inl (8, [sS 32, sS 33, none, sS 34, none, sS 35, sS 36, sS 37, sS 38, sS 39, sS 40, none, sS 41, sS 42, none, none, none, none, none, none, none, sS 43, sS 44, sS 45, none]),
  .inr (0, 168), .inr (0, 672), .inr (2, 80), .inr (0, 8), .inr (0, 64), .inr (0, 64), .inr (0, 64), .inr (0, 64), .inr (0, 64), .inr (3, 64), .inr (1, 64), .inr (0, 56), .inr (0, 40), .inr (0, 40)]
theorem mlays_len : mlays.length = 46 := rfl
def mws (G : mG) (w : mW) : va_W := mlays.mapIdx fun i q => (G.2.1 i, ment G w i q)
theorem mws_at (G : mG) (w : mW) {i : Nat} {q : mLay} (h : mlays[i]? = some q) : (mws G w)[i]? = some (G.2.1 i, ment G w i q) := by
  simp [mws, List.getElem?_mapIdx, h]
theorem mws_of {G : mG} {w : mW} {i : Nat} {x : Nat × va_E} (h : (mws G w)[i]? = some x) : ∃ q, mlays[i]? = some q ∧ x = (G.2.1 i, ment G w i q) := by
  simp only [mws, List.getElem?_mapIdx, Option.map_eq_some_iff] at h
  obtain ⟨q, h1, h2⟩ := h
  exact ⟨q, h1, h2.symm⟩
theorem mfv_congr {w w' : mW} {i : Nat} (h : w' i = w i) (k : Nat) (q : Option (Option Nat)) : mfv w' i k q = mfv w i k q := by
  rcases q with _ | _ | j <;> simp [mfv, h]
theorem ment_congr (G : mG) {w w' : mW} {i : Nat} (h : w' i = w i) (q : mLay) : ment G w' i q = ment G w i q := by
  rcases q with o | a
  · simp only [ment, mfv_congr h]
  · simp only [ment, h]
theorem mws_set {G : mG} {w w' : mW} {i : Nat} {q : mLay} (h : mlays[i]? = some q) {e : va_E} (he : ment G w' i q = e) (hne : ∀ j, j ≠ i → w' j = w j) : (mws G w).set i (G.2.1 i, e) = mws G w' := by
  have hi : i < mlays.length := (List.getElem?_eq_some_iff.mp h).1
  apply List.ext_getElem?
  intro j
  by_cases hj : j = i
  · subst hj
    rw [List.getElem?_set_self (by simpa [mws] using hi), mws_at G w' h, he]
  · rw [List.getElem?_set_ne (Ne.symm hj)]
    simp only [mws, List.getElem?_mapIdx]
    cases mlays[j]? with
    | none => rfl
    | some q' => simp [ment_congr G (hne j hj) q']
def mA (G : mG) : Nat → Prop := fun q => ∃ i, i < 46 ∧ q = G.2.1 i
theorem mD_any {G : mG} {w w' : mW} {B : Nat → Prop} (h : va_D B (mws G w)) : va_D (mA G) (mws G w') := by
  refine ⟨fun i j p q hi hj hpq => ?_, fun k q hk => ?_⟩
  · obtain ⟨qi, hi1, rfl⟩ := mws_of hi
    obtain ⟨qj, hj1, rfl⟩ := mws_of hj
    exact h.1 i j _ _ (mws_at G w hi1) (mws_at G w hj1) hpq
  · obtain ⟨qk, hk1, rfl⟩ := mws_of hk
    exact ⟨k, by have := (List.getElem?_eq_some_iff.mp hk1).1; rwa [mlays_len] at this, rfl⟩
theorem mD_true {G : mG} {w w' : mW} {B : Nat → Prop} (h : va_D B (mws G w)) : va_D (fun _ => True) (mws G w') := (mD_any (w' := w') h).weaken (fun _ _ _ _ => trivial)
def mup (w : mW) (i : Nat) (k v : Int) : mW := fun a b => if a = i ∧ b = k then v else w a b
theorem mup_ne {w : mW} {i : Nat} {k v : Int} {j : Nat} (h : j ≠ i) : mup w i k v j = w j := by
  funext b; simp [mup, h]
theorem mup_at {w : mW} {i : Nat} {k v : Int} : mup w i k v i k = v := by simp [mup]
theorem mup_get (w : mW) (i : Nat) (k v : Int) (a : Nat) (b : Int) : mup w i k v a b = if a = i ∧ b = k then v else w a b := rfl
/-- words -/
def misN : Cond → Bool
  | .methodLinkNest .. => true
  | .declares _ => true
  | _ => false
/-- a private method of the abstract class, called on an object of a class below it -/
def mextra : List Cond := [yX2_add, yX2_pairBehind, yX2_firstLackedWord, yX2_wordOfRow].flatMap fun y => [Cond.selects RX6 y y, Cond.selects RX7 y y]
theorem mm_selP {y : MethodName} {C : String} {n : Nat} {s : State} {args : Array Value} (hins : (Cond.instantiable C n).before args s = true) (hsame : (Cond.sameMethod y.cls y.cls y.name y.desc).before args s = true) (hpriv : (Cond.privateMethod y).before args s = true) (hinst : (Cond.instanceMethod y).before args s = true) : (Cond.selects C y y).before args s = true := by
  obtain ⟨c, k, hc, hk, -, -, -, -⟩ := Cond.instantiable_spec hins
  obtain ⟨mk, methM, hnamed, hmethM, -, -⟩ := Cond.instanceMethod_spec hinst
  obtain ⟨cn, ck, r1, hcn, hck, hni, hf, hn1⟩ := Cond.sameMethod_found hsame
  have hn1' : s.methodNamed? y = some r1 := hn1
  cases hnamed.symm.trans hn1'
  have hcls : mk.cls = cn := Option.some.inj ((findClass_of_methodNamed hnamed).symm.trans hcn)
  have hsel : selectMethod {} s.vm c mk = .method mk := selectMethod_private hmethM (Cond.privateMethod_at hpriv mk methM hnamed hmethM)
  simp only [Cond.before, Cond.holds, Cond.value, hc, hf, hnamed, hsel, hcls, hck]
  simp; exact hni
def mtbl : List Cond := mextra ++ lw_tbl
theorem mtbl_ok {s : State} {args : Array Value} (hts : ∀ w ∈ lw_tbl, w.before args s = true) : ∀ w ∈ mtbl, w.before args s = true := by
  intro w hw
  rcases List.mem_append.mp hw with h | h
  · have i6 := hts (.instantiable RX6 8) (by decide +kernel)
    have i7 := hts (.instantiable RX7 8) (by decide +kernel)
    have key : ∀ y ∈ [yX2_add, yX2_pairBehind, yX2_firstLackedWord, yX2_wordOfRow], Cond.sameMethod y.cls y.cls y.name y.desc ∈ lw_tbl ∧ Cond.privateMethod y ∈ lw_tbl ∧ Cond.instanceMethod y ∈ lw_tbl := by decide +kernel
    obtain ⟨y, hy, hw2⟩ := List.mem_flatMap.mp h
    obtain ⟨k1, k2, k3⟩ := key y hy
    simp only [List.mem_cons, List.not_mem_nil, or_false] at hw2
    rcases hw2 with rfl | rfl
    · exact mm_selP i6 (hts _ k1) (hts _ k2) (hts _ k3)
    · exact mm_selP i7 (hts _ k1) (hts _ k2) (hts _ k3)
  · exact hts w h
def mgood : List Cond := mtbl.filter goodWord
def mnest : List Cond := lw_tbl.filter misN
theorem mgood_in {w : Cond} (h : w ∈ lw_tbl) (hg : goodWord w = true) : w ∈ mgood := List.mem_filter.mpr ⟨List.mem_append_right _ h, hg⟩
theorem mgood_inx {w : Cond} (h : w ∈ mextra) (hg : goodWord w = true) : w ∈ mgood := List.mem_filter.mpr ⟨List.mem_append_left _ h, hg⟩
theorem mnest_in {w : Cond} (h : w ∈ lw_tbl) (hg : misN w = true) : w ∈ mnest := List.mem_filter.mpr ⟨h, hg⟩
theorem mgoodIn (y : MethodName) (cc : ByteArray) (mL : Nat) (ret : Option FieldType) (h : Cond.code y cc mL ret ∈ mgood) : GoodIn mgood (Cond.code y cc mL ret :: mgood) := by
  intro w hw
  have hm : w ∈ mgood := by
    rcases List.mem_cons.mp hw with rfl | h1
    · exact h
    · exact h1
  exact ⟨hm, good_of_word (List.mem_filter.mp hm).2⟩
theorem mnest_warm {q : Cond} (hq : q ∈ mnest) {s U : State} (hW : s.WarmedH U.vm) (h : va_Nw q s) : va_Nw q U := by
  have h1 := (List.mem_filter.mp hq).2
  cases q <;> first | exact va_Nw.warmM hW h | exact va_Nw.warmD hW h | (exact absurd h1 (by decide)) | (simp [misN] at h1)
theorem mnest_same {q : Cond} (hq : q ∈ mnest) {s U : State} (e : s.vm = U.vm) (h : va_Nw q s) : va_Nw q U := by
  have h1 := (List.mem_filter.mp hq).2
  cases q <;> first | exact va_Nw.same rfl e h | (simp [misN] at h1)
def mR (d : Nat) : Room := { frames := d, cells := 0, slots := 0, locals := 38 * d }
/-- the machine about a frame: its code, its class, the tables' words -/
def mC (G : mG) (K : mK) (nL : Nat) (own : String) (cc : ByteArray) (ret : Option FieldType) : Prop :=
  K.1.tables.exec = Jvm.exec ∧ K.2.2.2.2.2.2.2.code = cc ∧ K.2.2.2.2.2.2.2.maxLocals = nL ∧ K.2.2.2.2.2.2.1.sig.returnType = ret ∧ K.2.2.2.2.2.2.1.locks = false ∧ K.2.2.1.vm.findClass own = some K.2.2.2.1.cls ∧ (∀ w ∈ mgood, w.before K.2.2.2.2.1 K.2.2.1 = true) ∧ (∀ q ∈ mnest, va_Nw q K.2.2.1) ∧ va_K G.1 vwCl (mtys G) K.2.2.1
def mhas (G : mG) (ls : Array Slot) (nL : Nat) (L : List (Option mV)) : Prop := ls.size = nL ∧ lv_wf ls ∧ L.length = nL ∧ ∀ (i : Nat) (v : mV), L[i]? = some (some v) → ls[i]? = some (.val (mtr G v))
def mQ (G : mG) (Q : Option mV → mW → Prop) : Array Value → State → Outcome → State → Prop := fun _ st o t => (∃ v w', o = .returned (v.map (mtr G)) ∧ Q v w' ∧ va_P G.1 vwCl (mws G w') t.heap) ∧ va_F (mA G) st t
def Wm (l : Launch) (G : mG) (K : mK) (d nL : Nat) (Q : Option mV → mW → Prop) (pc : Nat) (L : List (Option mV)) (st : List mV) (w : mW) : Prop :=
  ∀ (H : Heap) (locs : List Loc) (ls : Array Slot), va_P G.1 vwCl (mws G w) H → va_D (mA G) (mws G w) → va_S (mA G) K.2.2.1.heap H locs → mhas G ls nL L →
    W K.1 l K.2.1 (mR d) K.2.2.1 K.2.2.2.1 K.2.2.2.2.1 K.2.2.2.2.2.1 K.2.2.2.2.2.2.1 K.2.2.2.2.2.2.2 H locs 0 0 (MQ K.2.2.2.2.2.1 (mQ G Q) K.2.2.2.2.1 K.2.2.1 0 0 (mA G)) (F0 K.2.2.2.1 pc ls (st.map (mtr G)))
/-- a method's contract over the world -/
def Mx (l : Launch) (G : mG) (d : Nat) (y : MethodName) (cc : ByteArray) (mL : Nat) (ret : Option FieldType) (a : List mV) (w : mW) (Q : Option mV → mW → Prop) : Prop :=
  Met l y (Cond.code y cc mL ret :: mgood) (mR d) (va_Pc (a.map (mtr G)) (fun U => va_P G.1 vwCl (mws G w) U.heap ∧ va_K G.1 vwCl (mtys G) U ∧ va_D (fun _ => True) (mws G w) ∧ ∀ q ∈ mnest, va_Nw q U)) (mQ G Q) 0 0 (mA G)
/-- the locals at a method's entry -/
def margs : List mV → List (Option mV)
  | [] => []
  | Sum.inr (Sum.inl z) :: r => some (mvJ z) :: none :: margs r
  | Sum.inl z :: r => some (mvI z) :: margs r
  | Sum.inr (Sum.inr i) :: r => some (mvR i) :: margs r
theorem margs_mem (G : mG) : ∀ (a : List mV) (b i : Nat) (v : mV), (margs a)[i]? = some (some v) → (b + i, mtr G v) ∈ lv_args b (a.map (mtr G))
  | [], b, i, v, h => by simp [margs] at h
  | Sum.inl z :: r, b, i, v, h => by
    simp only [List.map_cons, lv_args]
    cases i with
    | zero => simp [margs] at h; subst h; simp
    | succ i =>
      have h' : (margs r)[i]? = some (some v) := by simpa [margs] using h
      have := margs_mem G r (b + 1) i v h'
      rw [show b + (i + 1) = b + 1 + i by omega]
      exact List.mem_cons_of_mem _ (by simpa [mtr, Value.category] using this)
  | Sum.inr (Sum.inr z) :: r, b, i, v, h => by
    simp only [List.map_cons, lv_args]
    cases i with
    | zero => simp [margs] at h; subst h; simp
    | succ i =>
      have h' : (margs r)[i]? = some (some v) := by simpa [margs] using h
      have := margs_mem G r (b + 1) i v h'
      rw [show b + (i + 1) = b + 1 + i by omega]
      exact List.mem_cons_of_mem _ (by simpa [mtr, Value.category] using this)
  | Sum.inr (Sum.inl z) :: r, b, i, v, h => by
    simp only [List.map_cons, lv_args]
    match i, h with
    | 0, h => simp [margs] at h; subst h; simp
    | 1, h => simp [margs] at h
    | i + 2, h =>
      have h' : (margs r)[i]? = some (some v) := by simpa [margs] using h
      have := margs_mem G r (b + 2) i v h'
      rw [show b + (i + 2) = b + 2 + i by omega]
      exact List.mem_cons_of_mem _ (by simpa [mtr, Value.category] using this)
theorem margs_len (G : mG) : ∀ (a : List mV), (lg_sl (a.map (mtr G))).length = (margs a).length
  | [] => rfl
  | Sum.inl z :: r => by have := margs_len G r; simp [lg_sl, margs, mtr, Value.category] at this ⊢; omega
  | Sum.inr (Sum.inr z) :: r => by have := margs_len G r; simp [lg_sl, margs, mtr, Value.category] at this ⊢; omega
  | Sum.inr (Sum.inl z) :: r => by have := margs_len G r; simp [lg_sl, margs, mtr, Value.category] at this ⊢; omega
theorem Mx.intro {l : Launch} {G : mG} {d : Nat} {y : MethodName} {cc : ByteArray} {mL : Nat} {ret : Option FieldType} {a : List mV} {w : mW} {Q : Option mV → mW → Prop} (hpl : plainName y.cls = true) (own : String) (hown : y.cls = own) (L : List (Option mV)) (hn : (margs a).length ≤ mL) (hL : margs a ++ List.replicate (mL - (margs a).length) none = L)
    (body : ∀ K : mK, mC G K mL own cc ret → Wm l G K d mL Q 0 L [] w) : Mx l G d y cc mL ret a w Q := by
  refine Met.ofW (cc := cc) (maxL := mL) (ret := ret) hpl rfl ?_
  intro p e s m args below meth c s₁ B hml hv
  obtain ⟨rfl, hP, hK, hD0, hN⟩ := hv
  have hts := atoms_spec (ws := Cond.code y cc mL ret :: mgood) B.pre
  have hf : s.vm.findClass y.cls = some m.cls := findClass_of_methodNamed B.named
  rw [hown] at hf
  have hC : mC G (p, e, s, m, (a.map (mtr G)).toArray, below, meth, c) mL own cc ret := ⟨B.exec, B.bytes, hml, B.returns, B.notSynchronized, hf, fun w hw => hts w (List.mem_cons_of_mem _ hw), hN, hK⟩
  have hl := lv_entry (a.map (mtr G)) (n := mL) (by rw [margs_len]; exact hn)
  rw [lg_entry_eq]
  have hm : mhas G ((lg_sl (a.map (mtr G)) ++ List.replicate (mL - (lg_sl (a.map (mtr G))).length) Slot.unset).toArray) mL L := by
    refine ⟨hl.1, hl.2.1, ?_, fun i v hi => ?_⟩
    · rw [← hL]; simp; omega
    · rw [← hL] at hi
      have hi' : (margs a)[i]? = some (some v) := by
        by_cases hlt : i < (margs a).length
        · rwa [List.getElem?_append_left hlt] at hi
        · rw [List.getElem?_append_right (by omega), List.getElem?_replicate] at hi
          split at hi <;> simp at hi
      have := margs_mem G a 0 i v hi'
      rw [Nat.zero_add] at this
      exact hl.2.2 _ this
  exact body (p, e, s, m, (a.map (mtr G)).toArray, below, meth, c) hC s.heap [] _ hP (mD_any hD0) va_S.rf hm
end
section
/-! ROWS OF THE SMALL MACHINE, an instruction each -/
theorem mI_toInt {a : Int} (h : -2147483648 ≤ a ∧ a < 2147483648) : (mI a).toInt = a := Int32.toInt_ofInt_of_le (by omega) (by omega)
theorem mI_add (a b : Int) : mI a + mI b = mI (a + b) := (Int32.ofInt_add a b).symm
theorem mI_sub (a b : Int) : mI a - mI b = mI (a - b) := (Int32.ofInt_sub a b).symm
theorem mI_mul (a b : Int) : mI a * mI b = mI (a * b) := (Int32.ofInt_mul a b).symm
theorem mI_of (x : Int32) : ∃ z : Int, (-2147483648 ≤ z ∧ z < 2147483648) ∧ x = mI z := ⟨x.toInt, ⟨by have := x.le_toInt; omega, by have := x.toInt_lt; omega⟩, (Int32.ofInt_toInt x).symm⟩
theorem mI_lt {a b : Int} (ha : -2147483648 ≤ a ∧ a < 2147483648) (hb : -2147483648 ≤ b ∧ b < 2147483648) : mI a < mI b ↔ a < b := by rw [Int32.lt_iff_toInt_lt, mI_toInt ha, mI_toInt hb]
theorem mI_le {a b : Int} (ha : -2147483648 ≤ a ∧ a < 2147483648) (hb : -2147483648 ≤ b ∧ b < 2147483648) : mI a ≤ mI b ↔ a ≤ b := by rw [Int32.le_iff_toInt_le, mI_toInt ha, mI_toInt hb]
theorem mI_eq {a b : Int} (ha : -2147483648 ≤ a ∧ a < 2147483648) (hb : -2147483648 ≤ b ∧ b < 2147483648) : mI a = mI b ↔ a = b := by rw [← Int32.toInt_inj, mI_toInt ha, mI_toInt hb]
theorem mI_0 : mI 0 = 0 := rfl
theorem mI_clamp {a : Int} (h : 0 ≤ a ∧ a < 2147483648) : (mI a).toNatClampNeg = a.toNat := Int32.toNatClampNeg_ofInt_of_le (by omega) (by omega)
theorem mI_in {a : Int} {n : Nat} (h : 0 ≤ a ∧ a < n) (hn : n ≤ 1000000) : vp_in (mI a) n := by
  unfold vp_in
  rw [mI_clamp (by omega), ← mI_0, mI_lt (by omega) (by omega)]
  omega
theorem mI_nI (n : Nat) : mI (n : Int) = Int32.ofNat n := rfl
theorem mJ_toInt {a : Int} (h : -9223372036854775808 ≤ a ∧ a < 9223372036854775808) : (mJ a).toInt = a := Int64.toInt_ofInt_of_le (by omega) (by omega)
theorem mJ_add (a b : Int) : mJ a + mJ b = mJ (a + b) := (Int64.ofInt_add a b).symm
def mok (L : List (Option mV)) : Nat → Bool
  | 0 => true
  | i + 1 => match L[i]? with
    | some (some (Sum.inr (Sum.inl _))) => false
    | _ => true
section MROW
variable {l : Launch} {G : mG} {K : mK} {d nL : Nat} {own : String} {cc : ByteArray} {ret : Option FieldType} {Q : Option mV → mW → Prop} {pc : Nat} {L : List (Option mV)} {st : List mV} {w : mW}
/-- the pairs of the locals, as lv_ rows list them -/
def mprs (G : mG) (L : List (Option mV)) : List (Nat × Value) := (List.range L.length).filterMap fun i => (L[i]?.join).map fun v => (i, mtr G v)
theorem mprs_mem {i : Nat} {v : mV} (h : L[i]? = some (some v)) : (i, mtr G v) ∈ mprs G L := by
  refine List.mem_filterMap.mpr ⟨i, List.mem_range.mpr (List.getElem?_eq_some_iff.mp h).1, ?_⟩
  simp [h]
theorem mprs_of {q : Nat × Value} (h : q ∈ mprs G L) : ∃ v, L[q.1]? = some (some v) ∧ q.2 = mtr G v := by
  obtain ⟨i, -, hi⟩ := List.mem_filterMap.mp h
  simp only [Option.map_eq_some_iff, Option.join_eq_some_iff] at hi
  obtain ⟨v, h1, rfl⟩ := hi
  exact ⟨v, h1, rfl⟩
theorem mhas_lv {ls : Array Slot} (h : mhas G ls nL L) : lv_has ls nL (mprs G L) := by
  refine ⟨h.1, h.2.1, fun q hq => ?_⟩
  obtain ⟨v, h1, h2⟩ := mprs_of hq
  rw [h2]; exact h.2.2.2 _ _ h1
theorem mok_spec {i j : Nat} {u : mV} (h : mok L i = true) (hj : j + 1 = i) (hu : L[j]? = some (some u)) : mcat u ≠ 2 := by
  subst hj
  simp only [mok, hu] at h
  rcases u with z | z | z <;> simp_all [mcat]
theorem mhas_set {ls : Array Slot} {i : Nat} {v : mV} (hlen : L.length = nL) (hok : mok L i = true) (h : lv_has ls nL ((i, mtr G v) :: (mprs G L).filter (fun q => !(q.1 == i) && !(q.1 + 1 == i && q.2.category == 2)))) : mhas G ls nL (L.set i (some v)) := by
  refine ⟨h.1, h.2.1, by simpa using hlen, fun j u hj => ?_⟩
  by_cases hji : j = i
  · subst hji
    have hlt : j < L.length := by have := (List.getElem?_eq_some_iff.mp hj).1; simpa using this
    rw [List.getElem?_set_self hlt] at hj
    cases hj
    exact h.2.2 _ List.mem_cons_self
  · rw [List.getElem?_set_ne (Ne.symm hji)] at hj
    refine h.2.2 (j, mtr G u) (List.mem_cons_of_mem _ (List.mem_filter.mpr ⟨mprs_mem hj, ?_⟩))
    have hc : j + 1 = i → mcat u ≠ 2 := fun e => mok_spec hok e hj
    simp only [mtr_cat, Bool.and_eq_true, Bool.not_eq_true', beq_eq_false_iff_ne, ne_eq, Bool.and_eq_false_iff]
    refine ⟨hji, ?_⟩
    by_cases e : j + 1 = i
    · exact Or.inr (hc e)
    · exact Or.inl e
theorem mhas_set2 {ls : Array Slot} {i : Nat} {v : mV} (hlen : L.length = nL) (hok : mok L i = true) (h : lv_has ls nL ((i, mtr G v) :: (mprs G L).filter (fun q => !(q.1 == i) && (!(q.1 == i + 1) && !(q.1 + 1 == i && q.2.category == 2))))) : mhas G ls nL ((L.set i (some v)).set (i + 1) none) := by
  refine ⟨h.1, h.2.1, by simpa using hlen, fun j u hj => ?_⟩
  by_cases hj1 : j = i + 1
  · subst hj1
    have hlt : i + 1 < L.length := by have := (List.getElem?_eq_some_iff.mp hj).1; simpa using this
    rw [List.getElem?_set_self (by simpa using hlt)] at hj
    cases hj
  rw [List.getElem?_set_ne (Ne.symm hj1)] at hj
  by_cases hji : j = i
  · subst hji
    have hlt : j < L.length := by have := (List.getElem?_eq_some_iff.mp hj).1; simpa using this
    rw [List.getElem?_set_self hlt] at hj
    cases hj
    exact h.2.2 _ List.mem_cons_self
  · rw [List.getElem?_set_ne (Ne.symm hji)] at hj
    refine h.2.2 (j, mtr G u) (List.mem_cons_of_mem _ (List.mem_filter.mpr ⟨mprs_mem hj, ?_⟩))
    have hc : j + 1 = i → mcat u ≠ 2 := fun e => mok_spec hok e hj
    simp only [mtr_cat, Bool.and_eq_true, Bool.not_eq_true', beq_eq_false_iff_ne, ne_eq, Bool.and_eq_false_iff]
    refine ⟨hji, hj1, ?_⟩
    by_cases e : j + 1 = i
    · exact Or.inr (hc e)
    · exact Or.inl e
theorem wm_show {pc' : Nat} {L' : List (Option mV)} {st' : List mV} {w' : mW} (h1 : pc = pc') (h2 : L = L') (h3 : st = st') (h4 : w = w') (h : Wm l G K d nL Q pc' L' st' w') : Wm l G K d nL Q pc L st w := by
  subst h1; subst h2; subst h3; subst h4; exact h
theorem wm_iload_n (hC : mC G K nL own cc ret) {k : Fin 4} (i : Nat) {z : Int} (hdg : decode cc pc = .ok (.iload_n k, 1)) (hi : (k : Nat) = i) (hl : L[i]? = some (some (mvI z))) (h : Wm l G K d nL Q (pc + 1) L (mvI z :: st) w) : Wm l G K d nL Q pc L st w :=
  fun H locs ls hP hD hS hh => lv_iload_n hC.1 hC.2.1 hdg hi (hh.2.2.2 _ _ hl) (h H locs ls hP hD hS hh)
theorem wm_iload (hC : mC G K nL own cc ret) {i : Nat} {z : Int} (hdg : decode cc pc = .ok (.iload i, 2)) (hl : L[i]? = some (some (mvI z))) (h : Wm l G K d nL Q (pc + 2) L (mvI z :: st) w) : Wm l G K d nL Q pc L st w :=
  fun H locs ls hP hD hS hh => lv_iload hC.1 hC.2.1 hdg (hh.2.2.2 _ _ hl) (h H locs ls hP hD hS hh)
theorem wm_lload_n (hC : mC G K nL own cc ret) {k : Fin 4} (i : Nat) {z : Int} (hdg : decode cc pc = .ok (.lload_n k, 1)) (hi : (k : Nat) = i) (hl : L[i]? = some (some (mvJ z))) (h : Wm l G K d nL Q (pc + 1) L (mvJ z :: st) w) : Wm l G K d nL Q pc L st w :=
  fun H locs ls hP hD hS hh => lv_lload_n hC.1 hC.2.1 hdg hi (hh.2.2.2 _ _ hl) (h H locs ls hP hD hS hh)
theorem wm_lload (hC : mC G K nL own cc ret) {i : Nat} {z : Int} (hdg : decode cc pc = .ok (.lload i, 2)) (hl : L[i]? = some (some (mvJ z))) (h : Wm l G K d nL Q (pc + 2) L (mvJ z :: st) w) : Wm l G K d nL Q pc L st w :=
  fun H locs ls hP hD hS hh => lv_lload hC.1 hC.2.1 hdg (hh.2.2.2 _ _ hl) (h H locs ls hP hD hS hh)
theorem wm_aload_n (hC : mC G K nL own cc ret) {k : Fin 4} (i : Nat) {z : Nat} (hdg : decode cc pc = .ok (.aload_n k, 1)) (hi : (k : Nat) = i) (hl : L[i]? = some (some (mvR z))) (h : Wm l G K d nL Q (pc + 1) L (mvR z :: st) w) : Wm l G K d nL Q pc L st w :=
  fun H locs ls hP hD hS hh => lv_aload_n hC.1 hC.2.1 hdg hi (hh.2.2.2 _ _ hl) (h H locs ls hP hD hS hh)
theorem wm_aload (hC : mC G K nL own cc ret) {i : Nat} {z : Nat} (hdg : decode cc pc = .ok (.aload i, 2)) (hl : L[i]? = some (some (mvR z))) (h : Wm l G K d nL Q (pc + 2) L (mvR z :: st) w) : Wm l G K d nL Q pc L st w :=
  fun H locs ls hP hD hS hh => lv_aload hC.1 hC.2.1 hdg (hh.2.2.2 _ _ hl) (h H locs ls hP hD hS hh)
theorem wm_istore_n (hC : mC G K nL own cc ret) {k : Fin 4} (i : Nat) {z : Int} (hdg : decode cc pc = .ok (.istore_n k, 1)) (hi : (k : Nat) = i) (hn : i < nL) (hok : mok L i = true) (h : Wm l G K d nL Q (pc + 1) (L.set i (some (mvI z))) st w) : Wm l G K d nL Q pc L (mvI z :: st) w :=
  fun H locs ls hP hD hS hh => lv_istore_n hC.1 hC.2.1 hdg hi (mhas_lv hh) hn rfl (fun ls' hl' => h H locs ls' hP hD hS (mhas_set hh.2.2.1 hok hl'))
theorem wm_istore (hC : mC G K nL own cc ret) {i : Nat} {z : Int} (hdg : decode cc pc = .ok (.istore i, 2)) (hn : i < nL) (hok : mok L i = true) (h : Wm l G K d nL Q (pc + 2) (L.set i (some (mvI z))) st w) : Wm l G K d nL Q pc L (mvI z :: st) w :=
  fun H locs ls hP hD hS hh => lv_istore hC.1 hC.2.1 hdg (mhas_lv hh) hn rfl (fun ls' hl' => h H locs ls' hP hD hS (mhas_set hh.2.2.1 hok hl'))
theorem wm_lstore_n (hC : mC G K nL own cc ret) {k : Fin 4} (i : Nat) {z : Int} (hdg : decode cc pc = .ok (.lstore_n k, 1)) (hi : (k : Nat) = i) (hn : i + 1 < nL) (hok : mok L i = true) (h : Wm l G K d nL Q (pc + 1) ((L.set i (some (mvJ z))).set (i + 1) none) st w) : Wm l G K d nL Q pc L (mvJ z :: st) w :=
  fun H locs ls hP hD hS hh => lv_lstore_n hC.1 hC.2.1 hdg hi (mhas_lv hh) hn rfl (fun ls' hl' => h H locs ls' hP hD hS (mhas_set2 hh.2.2.1 hok hl'))
theorem wm_lstore (hC : mC G K nL own cc ret) {i : Nat} {z : Int} (hdg : decode cc pc = .ok (.lstore i, 2)) (hn : i + 1 < nL) (hok : mok L i = true) (h : Wm l G K d nL Q (pc + 2) ((L.set i (some (mvJ z))).set (i + 1) none) st w) : Wm l G K d nL Q pc L (mvJ z :: st) w :=
  fun H locs ls hP hD hS hh => lv_lstore hC.1 hC.2.1 hdg (mhas_lv hh) hn rfl (fun ls' hl' => h H locs ls' hP hD hS (mhas_set2 hh.2.2.1 hok hl'))
theorem wm_astore_n (hC : mC G K nL own cc ret) {k : Fin 4} (i : Nat) {z : Nat} (hdg : decode cc pc = .ok (.astore_n k, 1)) (hi : (k : Nat) = i) (hn : i < nL) (hok : mok L i = true) (h : Wm l G K d nL Q (pc + 1) (L.set i (some (mvR z))) st w) : Wm l G K d nL Q pc L (mvR z :: st) w :=
  fun H locs ls hP hD hS hh => lv_astore_n hC.1 hC.2.1 hdg hi (mhas_lv hh) hn rfl (fun ls' hl' => h H locs ls' hP hD hS (mhas_set hh.2.2.1 hok hl'))
theorem wm_astore (hC : mC G K nL own cc ret) {i : Nat} {z : Nat} (hdg : decode cc pc = .ok (.astore i, 2)) (hn : i < nL) (hok : mok L i = true) (h : Wm l G K d nL Q (pc + 2) (L.set i (some (mvR z))) st w) : Wm l G K d nL Q pc L (mvR z :: st) w :=
  fun H locs ls hP hD hS hh => lv_astore hC.1 hC.2.1 hdg (mhas_lv hh) hn rfl (fun ls' hl' => h H locs ls' hP hD hS (mhas_set hh.2.2.1 hok hl'))
theorem wm_iinc (hC : mC G K nL own cc ret) {i : Nat} {n z v : Int} (hdg : decode cc pc = .ok (.iinc i n, 3)) (hl : L[i]? = some (some (mvI z))) (hv : z + n = v) (hn : i < nL) (hok : mok L i = true) (h : Wm l G K d nL Q (pc + 3) (L.set i (some (mvI v))) st w) : Wm l G K d nL Q pc L st w := by
  intro H locs ls hP hD hS hh
  obtain ⟨k, hk⟩ := List.getElem?_of_mem (mprs_mem (G := G) hl)
  exact lv_iinc (v := mI v) hC.1 hC.2.1 hdg (mhas_lv hh) hk (by rw [← hv]; exact mI_add z n) hn rfl (fun ls' hl' => h H locs ls' hP hD hS (mhas_set hh.2.2.1 hok hl'))
theorem wm_iconst (hC : mC G K nL own cc ret) {n : Int} (hdg : decode cc pc = .ok (.iconst n, 1)) (h : Wm l G K d nL Q (pc + 1) L (mvI n :: st) w) : Wm l G K d nL Q pc L st w :=
  fun H locs ls hP hD hS hh => lv_iconst (v := mI n) hC.1 hC.2.1 hdg rfl (h H locs ls hP hD hS hh)
theorem wm_bipush (hC : mC G K nL own cc ret) {n : Int} (hdg : decode cc pc = .ok (.bipush n, 2)) (hv : (Int8.ofInt n).toInt32 = mI n) (h : Wm l G K d nL Q (pc + 2) L (mvI n :: st) w) : Wm l G K d nL Q pc L st w :=
  fun H locs ls hP hD hS hh => lv_bipush (v := mI n) hC.1 hC.2.1 hdg hv (h H locs ls hP hD hS hh)
theorem wm_sipush (hC : mC G K nL own cc ret) {n : Int} (hdg : decode cc pc = .ok (.sipush n, 3)) (hv : (Int16.ofInt n).toInt32 = mI n) (h : Wm l G K d nL Q (pc + 3) L (mvI n :: st) w) : Wm l G K d nL Q pc L st w :=
  fun H locs ls hP hD hS hh => lv_sipush (v := mI n) hC.1 hC.2.1 hdg hv (h H locs ls hP hD hS hh)
theorem wm_lconst (hC : mC G K nL own cc ret) {n : Fin 2} (z : Int) (hdg : decode cc pc = .ok (.lconst n, 1)) (hv : Int64.ofNat (n : Nat) = mJ z) (h : Wm l G K d nL Q (pc + 1) L (mvJ z :: st) w) : Wm l G K d nL Q pc L st w :=
  fun H locs ls hP hD hS hh => lv_lconst (v := mJ z) hC.1 hC.2.1 hdg hv (h H locs ls hP hD hS hh)
theorem wm_ldc (hC : mC G K nL own cc ret) {index : Nat} (z : Int) (hw : Cond.constant own index (mI z) ∈ mgood) (hdg : decode cc pc = .ok (.ldc index, 2)) (h : Wm l G K d nL Q (pc + 2) L (mvI z :: st) w) : Wm l G K d nL Q pc L st w :=
  fun H locs ls hP hD hS hh => lv_ldc (v := mI z) hC.1 hC.2.1 hC.2.2.2.2.2.1 (hC.2.2.2.2.2.2.1 _ hw) hdg (h H locs ls hP hD hS hh)
theorem wm_ldcw (hC : mC G K nL own cc ret) {index : Nat} (z : Int) (hw : Cond.constant own index (mI z) ∈ mgood) (hdg : decode cc pc = .ok (.ldc_w index, 3)) (h : Wm l G K d nL Q (pc + 3) L (mvI z :: st) w) : Wm l G K d nL Q pc L st w :=
  fun H locs ls hP hD hS hh => lv_ldcw (v := mI z) hC.1 hC.2.1 hC.2.2.2.2.2.1 (hC.2.2.2.2.2.2.1 _ hw) hdg (h H locs ls hP hD hS hh)
theorem wm_ldc2 (hC : mC G K nL own cc ret) {index : Nat} (z : Int) (hw : Cond.constantLong own index (mJ z) ∈ mgood) (hdg : decode cc pc = .ok (.ldc2_w index, 3)) (h : Wm l G K d nL Q (pc + 3) L (mvJ z :: st) w) : Wm l G K d nL Q pc L st w :=
  fun H locs ls hP hD hS hh => lv_ldc2 (v := mJ z) hC.1 hC.2.1 hC.2.2.2.2.2.1 (hC.2.2.2.2.2.2.1 _ hw) hdg (h H locs ls hP hD hS hh)
theorem wm_dup (hC : mC G K nL own cc ret) {v : mV} (hdg : decode cc pc = .ok (.dup, 1)) (hv : mcat v = 1) (h : Wm l G K d nL Q (pc + 1) L (v :: v :: st) w) : Wm l G K d nL Q pc L (v :: st) w :=
  fun H locs ls hP hD hS hh => lv_dup hC.1 hC.2.1 hdg (by rw [mtr_cat]; exact hv) (h H locs ls hP hD hS hh)
theorem wm_dup2 (hC : mC G K nL own cc ret) {v u : mV} (hdg : decode cc pc = .ok (.dup2, 1)) (hv : mcat v = 1) (hu : mcat u = 1) (h : Wm l G K d nL Q (pc + 1) L (v :: u :: v :: u :: st) w) : Wm l G K d nL Q pc L (v :: u :: st) w :=
  fun H locs ls hP hD hS hh => lv_dup2_11 hC.1 hC.2.1 hdg (by rw [mtr_cat]; exact hv) (by rw [mtr_cat]; exact hu) (h H locs ls hP hD hS hh)
theorem wm_iadd (hC : mC G K nL own cc ret) {x y : Int} (hdg : decode cc pc = .ok (.iadd, 1)) (h : Wm l G K d nL Q (pc + 1) L (mvI (x + y) :: st) w) : Wm l G K d nL Q pc L (mvI y :: mvI x :: st) w :=
  fun H locs ls hP hD hS hh => lv_iadd hC.1 hC.2.1 hdg (by rw [mI_add]; exact h H locs ls hP hD hS hh)
theorem wm_isub (hC : mC G K nL own cc ret) {x y : Int} (hdg : decode cc pc = .ok (.isub, 1)) (h : Wm l G K d nL Q (pc + 1) L (mvI (x - y) :: st) w) : Wm l G K d nL Q pc L (mvI y :: mvI x :: st) w :=
  fun H locs ls hP hD hS hh => lv_isub hC.1 hC.2.1 hdg (by rw [mI_sub]; exact h H locs ls hP hD hS hh)
theorem wm_imul (hC : mC G K nL own cc ret) {x y : Int} (hdg : decode cc pc = .ok (.imul, 1)) (h : Wm l G K d nL Q (pc + 1) L (mvI (x * y) :: st) w) : Wm l G K d nL Q pc L (mvI y :: mvI x :: st) w :=
  fun H locs ls hP hD hS hh => lv_imul hC.1 hC.2.1 hdg (by rw [mI_mul]; exact h H locs ls hP hD hS hh)
theorem wm_ladd (hC : mC G K nL own cc ret) {x y : Int} (hdg : decode cc pc = .ok (.ladd, 1)) (h : Wm l G K d nL Q (pc + 1) L (mvJ (x + y) :: st) w) : Wm l G K d nL Q pc L (mvJ y :: mvJ x :: st) w :=
  fun H locs ls hP hD hS hh => lv_ladd hC.1 hC.2.1 hdg (by rw [mJ_add]; exact h H locs ls hP hD hS hh)
theorem wm_goto (hC : mC G K nL own cc ret) {off : Int} (tgt : Nat) (hdg : decode cc pc = .ok (.goto off, 3)) (ht : (pc : Int) + off = (tgt : Int)) (h : Wm l G K d nL Q tgt L st w) : Wm l G K d nL Q pc L st w :=
  fun H locs ls hP hD hS hh => lv_goto hC.1 hC.2.1 hdg ht (h H locs ls hP hD hS hh)
end MROW
end
section
/-! ROWS OF THE SMALL MACHINE: branches, bits, division, longs, switches, ends -/
section MROW2
variable {l : Launch} {G : mG} {K : mK} {d nL : Nat} {own : String} {cc : ByteArray} {ret : Option FieldType} {Q : Option mV → mW → Prop} {pc : Nat} {L : List (Option mV)} {st : List mV} {w : mW}
theorem wm_icmp_eq (hC : mC G K nL own cc ret) (tgt : Nat) {x y off : Int} (hdg : decode cc pc = .ok (.if_icmp .eq off, 3)) (hoff : (pc : Int) + off = (tgt : Int)) (hx : (-2147483648 ≤ x ∧ x < 2147483648)) (hy : (-2147483648 ≤ y ∧ y < 2147483648)) (ht : x = y → Wm l G K d nL Q tgt L st w) (hf : ¬ x = y → Wm l G K d nL Q (pc + 3) L st w) : Wm l G K d nL Q pc L (mvI y :: mvI x :: st) w :=
  fun H locs ls hP hD hS hh => lv_icmp_eq hC.1 hC.2.1 hdg hoff (fun q => ht ((mI_eq hx hy).mp q) H locs ls hP hD hS hh) (fun q => hf (fun e => q ((mI_eq hx hy).mpr e)) H locs ls hP hD hS hh)
theorem wm_if_eq (hC : mC G K nL own cc ret) (tgt : Nat) {x off : Int} (hdg : decode cc pc = .ok (.ifCond .eq off, 3)) (hoff : (pc : Int) + off = (tgt : Int)) (hx : (-2147483648 ≤ x ∧ x < 2147483648)) (ht : x = 0 → Wm l G K d nL Q tgt L st w) (hf : ¬ x = 0 → Wm l G K d nL Q (pc + 3) L st w) : Wm l G K d nL Q pc L (mvI x :: st) w :=
  fun H locs ls hP hD hS hh => lv_if_eq hC.1 hC.2.1 hdg hoff (fun q => ht ((mI_eq hx (show (-2147483648 : Int) ≤ 0 ∧ (0 : Int) < 2147483648 by omega)).mp q) H locs ls hP hD hS hh) (fun q => hf (fun e => q ((mI_eq hx (show (-2147483648 : Int) ≤ 0 ∧ (0 : Int) < 2147483648 by omega)).mpr e)) H locs ls hP hD hS hh)
theorem wm_icmp_ne (hC : mC G K nL own cc ret) (tgt : Nat) {x y off : Int} (hdg : decode cc pc = .ok (.if_icmp .ne off, 3)) (hoff : (pc : Int) + off = (tgt : Int)) (hx : (-2147483648 ≤ x ∧ x < 2147483648)) (hy : (-2147483648 ≤ y ∧ y < 2147483648)) (ht : ¬ x = y → Wm l G K d nL Q tgt L st w) (hf : x = y → Wm l G K d nL Q (pc + 3) L st w) : Wm l G K d nL Q pc L (mvI y :: mvI x :: st) w :=
  fun H locs ls hP hD hS hh => lv_icmp_ne hC.1 hC.2.1 hdg hoff (fun q => ht (fun e => q (by rw [e])) H locs ls hP hD hS hh) (fun q => hf ((mI_eq hx hy).mp q) H locs ls hP hD hS hh)
theorem wm_if_ne (hC : mC G K nL own cc ret) (tgt : Nat) {x off : Int} (hdg : decode cc pc = .ok (.ifCond .ne off, 3)) (hoff : (pc : Int) + off = (tgt : Int)) (hx : (-2147483648 ≤ x ∧ x < 2147483648)) (ht : ¬ x = 0 → Wm l G K d nL Q tgt L st w) (hf : x = 0 → Wm l G K d nL Q (pc + 3) L st w) : Wm l G K d nL Q pc L (mvI x :: st) w :=
  fun H locs ls hP hD hS hh => lv_if_ne hC.1 hC.2.1 hdg hoff (fun q => ht (fun e => q (by rw [e]; rfl)) H locs ls hP hD hS hh) (fun q => hf ((mI_eq hx (show (-2147483648 : Int) ≤ 0 ∧ (0 : Int) < 2147483648 by omega)).mp q) H locs ls hP hD hS hh)
theorem wm_icmp_lt (hC : mC G K nL own cc ret) (tgt : Nat) {x y off : Int} (hdg : decode cc pc = .ok (.if_icmp .lt off, 3)) (hoff : (pc : Int) + off = (tgt : Int)) (hx : (-2147483648 ≤ x ∧ x < 2147483648)) (hy : (-2147483648 ≤ y ∧ y < 2147483648)) (ht : x < y → Wm l G K d nL Q tgt L st w) (hf : y ≤ x → Wm l G K d nL Q (pc + 3) L st w) : Wm l G K d nL Q pc L (mvI y :: mvI x :: st) w :=
  fun H locs ls hP hD hS hh => lv_icmp_lt hC.1 hC.2.1 hdg hoff (fun q => ht ((mI_lt hx hy).mp q) H locs ls hP hD hS hh) (fun q => hf (Int.not_lt.mp (fun e => q ((mI_lt hx hy).mpr e))) H locs ls hP hD hS hh)
theorem wm_if_lt (hC : mC G K nL own cc ret) (tgt : Nat) {x off : Int} (hdg : decode cc pc = .ok (.ifCond .lt off, 3)) (hoff : (pc : Int) + off = (tgt : Int)) (hx : (-2147483648 ≤ x ∧ x < 2147483648)) (ht : x < 0 → Wm l G K d nL Q tgt L st w) (hf : 0 ≤ x → Wm l G K d nL Q (pc + 3) L st w) : Wm l G K d nL Q pc L (mvI x :: st) w :=
  fun H locs ls hP hD hS hh => lv_if_lt hC.1 hC.2.1 hdg hoff (fun q => ht ((mI_lt hx (show (-2147483648 : Int) ≤ 0 ∧ (0 : Int) < 2147483648 by omega)).mp q) H locs ls hP hD hS hh) (fun q => hf (Int.not_lt.mp (fun e => q ((mI_lt hx (show (-2147483648 : Int) ≤ 0 ∧ (0 : Int) < 2147483648 by omega)).mpr e))) H locs ls hP hD hS hh)
theorem wm_icmp_ge (hC : mC G K nL own cc ret) (tgt : Nat) {x y off : Int} (hdg : decode cc pc = .ok (.if_icmp .ge off, 3)) (hoff : (pc : Int) + off = (tgt : Int)) (hx : (-2147483648 ≤ x ∧ x < 2147483648)) (hy : (-2147483648 ≤ y ∧ y < 2147483648)) (ht : y ≤ x → Wm l G K d nL Q tgt L st w) (hf : x < y → Wm l G K d nL Q (pc + 3) L st w) : Wm l G K d nL Q pc L (mvI y :: mvI x :: st) w :=
  fun H locs ls hP hD hS hh => lv_icmp_ge hC.1 hC.2.1 hdg hoff (fun q => ht ((mI_le hy hx).mp q) H locs ls hP hD hS hh) (fun q => hf (Int.not_le.mp (fun e => q ((mI_le hy hx).mpr e))) H locs ls hP hD hS hh)
theorem wm_if_ge (hC : mC G K nL own cc ret) (tgt : Nat) {x off : Int} (hdg : decode cc pc = .ok (.ifCond .ge off, 3)) (hoff : (pc : Int) + off = (tgt : Int)) (hx : (-2147483648 ≤ x ∧ x < 2147483648)) (ht : 0 ≤ x → Wm l G K d nL Q tgt L st w) (hf : x < 0 → Wm l G K d nL Q (pc + 3) L st w) : Wm l G K d nL Q pc L (mvI x :: st) w :=
  fun H locs ls hP hD hS hh => lv_if_ge hC.1 hC.2.1 hdg hoff (fun q => ht ((mI_le (show (-2147483648 : Int) ≤ 0 ∧ (0 : Int) < 2147483648 by omega) hx).mp q) H locs ls hP hD hS hh) (fun q => hf (Int.not_le.mp (fun e => q ((mI_le (show (-2147483648 : Int) ≤ 0 ∧ (0 : Int) < 2147483648 by omega) hx).mpr e))) H locs ls hP hD hS hh)
theorem wm_icmp_gt (hC : mC G K nL own cc ret) (tgt : Nat) {x y off : Int} (hdg : decode cc pc = .ok (.if_icmp .gt off, 3)) (hoff : (pc : Int) + off = (tgt : Int)) (hx : (-2147483648 ≤ x ∧ x < 2147483648)) (hy : (-2147483648 ≤ y ∧ y < 2147483648)) (ht : y < x → Wm l G K d nL Q tgt L st w) (hf : x ≤ y → Wm l G K d nL Q (pc + 3) L st w) : Wm l G K d nL Q pc L (mvI y :: mvI x :: st) w :=
  fun H locs ls hP hD hS hh => lv_icmp_gt hC.1 hC.2.1 hdg hoff (fun q => ht ((mI_lt hy hx).mp q) H locs ls hP hD hS hh) (fun q => hf (Int.not_lt.mp (fun e => q ((mI_lt hy hx).mpr e))) H locs ls hP hD hS hh)
theorem wm_if_gt (hC : mC G K nL own cc ret) (tgt : Nat) {x off : Int} (hdg : decode cc pc = .ok (.ifCond .gt off, 3)) (hoff : (pc : Int) + off = (tgt : Int)) (hx : (-2147483648 ≤ x ∧ x < 2147483648)) (ht : 0 < x → Wm l G K d nL Q tgt L st w) (hf : x ≤ 0 → Wm l G K d nL Q (pc + 3) L st w) : Wm l G K d nL Q pc L (mvI x :: st) w :=
  fun H locs ls hP hD hS hh => lv_if_gt hC.1 hC.2.1 hdg hoff (fun q => ht ((mI_lt (show (-2147483648 : Int) ≤ 0 ∧ (0 : Int) < 2147483648 by omega) hx).mp q) H locs ls hP hD hS hh) (fun q => hf (Int.not_lt.mp (fun e => q ((mI_lt (show (-2147483648 : Int) ≤ 0 ∧ (0 : Int) < 2147483648 by omega) hx).mpr e))) H locs ls hP hD hS hh)
theorem wm_icmp_le (hC : mC G K nL own cc ret) (tgt : Nat) {x y off : Int} (hdg : decode cc pc = .ok (.if_icmp .le off, 3)) (hoff : (pc : Int) + off = (tgt : Int)) (hx : (-2147483648 ≤ x ∧ x < 2147483648)) (hy : (-2147483648 ≤ y ∧ y < 2147483648)) (ht : x ≤ y → Wm l G K d nL Q tgt L st w) (hf : y < x → Wm l G K d nL Q (pc + 3) L st w) : Wm l G K d nL Q pc L (mvI y :: mvI x :: st) w :=
  fun H locs ls hP hD hS hh => lv_icmp_le hC.1 hC.2.1 hdg hoff (fun q => ht ((mI_le hx hy).mp q) H locs ls hP hD hS hh) (fun q => hf (Int.not_le.mp (fun e => q ((mI_le hx hy).mpr e))) H locs ls hP hD hS hh)
theorem wm_if_le (hC : mC G K nL own cc ret) (tgt : Nat) {x off : Int} (hdg : decode cc pc = .ok (.ifCond .le off, 3)) (hoff : (pc : Int) + off = (tgt : Int)) (hx : (-2147483648 ≤ x ∧ x < 2147483648)) (ht : x ≤ 0 → Wm l G K d nL Q tgt L st w) (hf : 0 < x → Wm l G K d nL Q (pc + 3) L st w) : Wm l G K d nL Q pc L (mvI x :: st) w :=
  fun H locs ls hP hD hS hh => lv_if_le hC.1 hC.2.1 hdg hoff (fun q => ht ((mI_le hx (show (-2147483648 : Int) ≤ 0 ∧ (0 : Int) < 2147483648 by omega)).mp q) H locs ls hP hD hS hh) (fun q => hf (Int.not_le.mp (fun e => q ((mI_le hx (show (-2147483648 : Int) ≤ 0 ∧ (0 : Int) < 2147483648 by omega)).mpr e))) H locs ls hP hD hS hh)
theorem mI_or (a b : Nat) : mI (a : Int) ||| mI (b : Int) = mI ((a ||| b : Nat) : Int) := by
  show Int32.ofNat a ||| Int32.ofNat b = Int32.ofNat (a ||| b)
  apply Int32.toBitVec_inj.mp
  rw [Int32.toBitVec_or]
  show BitVec.ofNat 32 a ||| BitVec.ofNat 32 b = BitVec.ofNat 32 (a ||| b)
  apply BitVec.eq_of_getLsbD_eq
  intro i hi
  simp [BitVec.getLsbD_or, BitVec.getLsbD_ofNat, Nat.testBit_or, hi]
theorem mI_and (a b : Nat) : mI (a : Int) &&& mI (b : Int) = mI ((a &&& b : Nat) : Int) := by
  show Int32.ofNat a &&& Int32.ofNat b = Int32.ofNat (a &&& b)
  apply Int32.toBitVec_inj.mp
  rw [Int32.toBitVec_and]
  show BitVec.ofNat 32 a &&& BitVec.ofNat 32 b = BitVec.ofNat 32 (a &&& b)
  apply BitVec.eq_of_getLsbD_eq
  intro i hi
  simp [BitVec.getLsbD_and, BitVec.getLsbD_ofNat, Nat.testBit_and, hi]
theorem mI_not (x : Int) : mI x ^^^ mI (-1) = mI (-1 - x) := by
  have h1 : mI (-1 - x) = ~~~ (mI x) := by
    rw [Int32.not_eq_neg_sub, mI, Int32.ofInt_sub]
    show Int32.ofInt (-1) - Int32.ofInt x = -(Int32.ofInt x) - 1
    have e : Int32.ofInt (-1) = -1 := by decide
    rw [e, Int32.sub_eq_add_neg, Int32.sub_eq_add_neg, Int32.add_comm]
  rw [h1]
  apply Int32.toBitVec_inj.mp
  rw [Int32.toBitVec_xor, Int32.toBitVec_not]
  have h2 : (mI (-1)).toBitVec = BitVec.allOnes 32 := by decide
  rw [h2, BitVec.xor_allOnes]
theorem mI_andn (a b : Nat) : mI (a : Int) &&& mI (-1 - (b : Int)) = mI ((a ^^^ (a &&& b) : Nat) : Int) := by
  rw [← mI_not]
  apply Int32.toBitVec_inj.mp
  rw [Int32.toBitVec_and, Int32.toBitVec_xor]
  show BitVec.ofNat 32 a &&& (BitVec.ofNat 32 b ^^^ (mI (-1)).toBitVec) = BitVec.ofNat 32 (a ^^^ (a &&& b))
  have : (mI (-1)).toBitVec = BitVec.allOnes 32 := by decide
  rw [this]
  apply BitVec.eq_of_getLsbD_eq
  intro i hi
  simp only [BitVec.getLsbD_and, BitVec.getLsbD_xor, BitVec.getLsbD_ofNat, BitVec.getLsbD_allOnes, Nat.testBit_and, Nat.testBit_xor, hi, decide_true, Bool.true_and]
  cases a.testBit i <;> cases b.testBit i <;> rfl
theorem mI_s31 : ∀ k : Nat, k < 32 → ((mI (k : Int) &&& 31).toBitVec.smod 32).toNat = k := by decide +kernel
theorem mI_shl1 {k : Nat} (hk : k < 32) : mI 1 <<< (mI (k : Int) &&& 31) = mI ((2 ^ k : Nat) : Int) := by
  have h := pk_shlN (n := 1) (mI (k : Int) &&& 31) k (mI_s31 k hk) (by rw [Nat.one_mul]; exact Nat.pow_lt_pow_right (by decide) hk)
  rw [Nat.one_mul] at h
  exact h
theorem mI_shr {a k : Nat} (ha : a < 2147483648) (hk : k < 32) : mI (a : Int) >>> (mI (k : Int) &&& 31) = mI ((a / 2 ^ k : Nat) : Int) := pk_shrN (by omega) _ k (mI_s31 k hk)
theorem mI_shrm {a : Nat} (ha : a < 2147483648) : mI (a : Int) >>> (mI (-1) &&& 31) = mI 0 := by
  have h := pk_shrN (n := a) (by omega) (mI (-1) &&& 31) 31 (by decide +kernel)
  rw [Nat.div_eq_of_lt (by omega)] at h
  exact h
theorem mI_ushr {a k : Nat} (ha : a < 2147483648) (hk : k < 32) : ((mI (a : Int)).toUInt32 >>> ((mI (k : Int)).toUInt32 &&& Int32.toUInt32 31)).toInt32 = mI ((a / 2 ^ k : Nat) : Int) := by
  have h0 : ∀ k : Nat, k < 32 → (((mI (k : Int)).toUInt32 &&& Int32.toUInt32 31).toBitVec % 32).toNat = k := by decide +kernel
  exact pk_ushrN (by omega) _ k (h0 k hk)
theorem mI_div {x y : Int} (hx : 0 ≤ x ∧ x < 2147483648) (hy : 0 < y ∧ y < 2147483648) : mI x / mI y = mI (x / y) := by
  have e1 : Int32.minValue.toInt = -2147483648 := by decide
  have e2 : Int32.maxValue.toInt = 2147483647 := by decide
  have h := Int32.ofInt_tdiv (a := x) (b := y) (by omega) (by omega) (by omega) (by omega)
  rw [Int.tdiv_eq_ediv_of_nonneg hx.1] at h
  exact h.symm
theorem mI_mod {x y : Int} (hx : 0 ≤ x ∧ x < 2147483648) (hy : 0 < y ∧ y < 2147483648) : mI x % mI y = mI (x % y) := by
  have e1 : Int32.minValue.toInt = -2147483648 := by decide
  have e2 : Int32.maxValue.toInt = 2147483647 := by decide
  have h := Int32.ofInt_tmod (a := x) (b := y) (by omega) (by omega) (by omega) (by omega)
  rw [Int.tmod_eq_emod_of_nonneg hx.1] at h
  exact h.symm
def mcmp (x y : Int) : Int := if y < x then 1 else if x = y then 0 else -1
theorem mJ_cmp {x y : Int} (hx : -9223372036854775808 ≤ x ∧ x < 9223372036854775808) (hy : -9223372036854775808 ≤ y ∧ y < 9223372036854775808) : lg_cmp (mJ x) (mJ y) = mI (mcmp x y) := by
  unfold lg_cmp mcmp
  have h1 : mJ x > mJ y ↔ y < x := by show mJ y < mJ x ↔ _; rw [Int64.lt_iff_toInt_lt, mJ_toInt hx, mJ_toInt hy]
  have h2 : mJ x = mJ y ↔ x = y := by rw [← Int64.toInt_inj, mJ_toInt hx, mJ_toInt hy]
  simp only [h1, h2]
  split
  · rfl
  · split <;> rfl
theorem wm_ior (hC : mC G K nL own cc ret) (a b : Nat) {x y : Int} (hdg : decode cc pc = .ok (.ior, 1)) (ha : x = (a : Int)) (hb : y = (b : Int)) (h : Wm l G K d nL Q (pc + 1) L (mvI ((a ||| b : Nat) : Int) :: st) w) : Wm l G K d nL Q pc L (mvI y :: mvI x :: st) w := by
  subst ha; subst hb
  exact fun H locs ls hP hD hS hh => lv_ior hC.1 hC.2.1 hdg (by rw [mI_or]; exact h H locs ls hP hD hS hh)
theorem wm_iand (hC : mC G K nL own cc ret) (a b : Nat) {x y : Int} (hdg : decode cc pc = .ok (.iand, 1)) (ha : x = (a : Int)) (hb : y = (b : Int)) (h : Wm l G K d nL Q (pc + 1) L (mvI ((a &&& b : Nat) : Int) :: st) w) : Wm l G K d nL Q pc L (mvI y :: mvI x :: st) w := by
  subst ha; subst hb
  exact fun H locs ls hP hD hS hh => lv_iand hC.1 hC.2.1 hdg (by rw [mI_and]; exact h H locs ls hP hD hS hh)
theorem wm_iandn (hC : mC G K nL own cc ret) (a b : Nat) {x y : Int} (hdg : decode cc pc = .ok (.iand, 1)) (ha : x = (a : Int)) (hb : y = -1 - (b : Int)) (h : Wm l G K d nL Q (pc + 1) L (mvI ((a ^^^ (a &&& b) : Nat) : Int) :: st) w) : Wm l G K d nL Q pc L (mvI y :: mvI x :: st) w := by
  subst ha; subst hb
  exact fun H locs ls hP hD hS hh => lv_iand hC.1 hC.2.1 hdg (by rw [mI_andn]; exact h H locs ls hP hD hS hh)
theorem wm_inot (hC : mC G K nL own cc ret) {x : Int} (hdg : decode cc pc = .ok (.ixor, 1)) (h : Wm l G K d nL Q (pc + 1) L (mvI (-1 - x) :: st) w) : Wm l G K d nL Q pc L (mvI (-1) :: mvI x :: st) w :=
  fun H locs ls hP hD hS hh => lv_ixor hC.1 hC.2.1 hdg (by rw [mI_not]; exact h H locs ls hP hD hS hh)
theorem wm_ishl1 (hC : mC G K nL own cc ret) (k : Nat) {y : Int} (hdg : decode cc pc = .ok (.ishl, 1)) (hy : y = (k : Int)) (hk : k < 32) (h : Wm l G K d nL Q (pc + 1) L (mvI ((2 ^ k : Nat) : Int) :: st) w) : Wm l G K d nL Q pc L (mvI y :: mvI 1 :: st) w := by
  subst hy
  exact fun H locs ls hP hD hS hh => lv_ishl hC.1 hC.2.1 hdg (by rw [mI_shl1 hk]; exact h H locs ls hP hD hS hh)
theorem wm_ishr (hC : mC G K nL own cc ret) (a k : Nat) {x y : Int} (hdg : decode cc pc = .ok (.ishr, 1)) (hx : x = (a : Int)) (hy : y = (k : Int)) (ha : a < 2147483648) (hk : k < 32) (h : Wm l G K d nL Q (pc + 1) L (mvI ((a / 2 ^ k : Nat) : Int) :: st) w) : Wm l G K d nL Q pc L (mvI y :: mvI x :: st) w := by
  subst hx; subst hy
  exact fun H locs ls hP hD hS hh => lv_ishr hC.1 hC.2.1 hdg (by rw [mI_shr ha hk]; exact h H locs ls hP hD hS hh)
theorem wm_ishrm (hC : mC G K nL own cc ret) (a : Nat) {x : Int} (hdg : decode cc pc = .ok (.ishr, 1)) (hx : x = (a : Int)) (ha : a < 2147483648) (h : Wm l G K d nL Q (pc + 1) L (mvI 0 :: st) w) : Wm l G K d nL Q pc L (mvI (-1) :: mvI x :: st) w := by
  subst hx
  exact fun H locs ls hP hD hS hh => lv_ishr hC.1 hC.2.1 hdg (by rw [mI_shrm ha]; exact h H locs ls hP hD hS hh)
theorem wm_iushr (hC : mC G K nL own cc ret) (a k : Nat) {x y : Int} (hdg : decode cc pc = .ok (.iushr, 1)) (hx : x = (a : Int)) (hy : y = (k : Int)) (ha : a < 2147483648) (hk : k < 32) (h : Wm l G K d nL Q (pc + 1) L (mvI ((a / 2 ^ k : Nat) : Int) :: st) w) : Wm l G K d nL Q pc L (mvI y :: mvI x :: st) w := by
  subst hx; subst hy
  exact fun H locs ls hP hD hS hh => lv_iushr (v := mI ((a / 2 ^ k : Nat) : Int)) hC.1 hC.2.1 hdg (mI_ushr ha hk) (h H locs ls hP hD hS hh)
theorem wm_idiv (hC : mC G K nL own cc ret) {x y : Int} (hdg : decode cc pc = .ok (.idiv, 1)) (hx : 0 ≤ x ∧ x < 2147483648) (hy : 0 < y ∧ y < 2147483648) (h : Wm l G K d nL Q (pc + 1) L (mvI (x / y) :: st) w) : Wm l G K d nL Q pc L (mvI y :: mvI x :: st) w :=
  fun H locs ls hP hD hS hh => lv_idiv hC.1 hC.2.1 hdg (fun e => by rw [← mI_0, mI_eq (by omega) (by omega)] at e; omega) (by rw [mI_div hx hy]; exact h H locs ls hP hD hS hh)
theorem wm_irem (hC : mC G K nL own cc ret) {x y : Int} (hdg : decode cc pc = .ok (.irem, 1)) (hx : 0 ≤ x ∧ x < 2147483648) (hy : 0 < y ∧ y < 2147483648) (h : Wm l G K d nL Q (pc + 1) L (mvI (x % y) :: st) w) : Wm l G K d nL Q pc L (mvI y :: mvI x :: st) w :=
  fun H locs ls hP hD hS hh => lv_irem hC.1 hC.2.1 hdg (fun e => by rw [← mI_0, mI_eq (by omega) (by omega)] at e; omega) (by rw [mI_div hx hy, mI_mul, mI_sub, show x - x / y * y = x % y from by rw [Int.emod_def, Int.mul_comm]]; exact h H locs ls hP hD hS hh)
theorem wm_i2c (hC : mC G K nL own cc ret) {x : Int} (hdg : decode cc pc = .ok (.i2c, 1)) (hx : 0 ≤ x ∧ x < 65536) (h : Wm l G K d nL Q (pc + 1) L (mvI x :: st) w) : Wm l G K d nL Q pc L (mvI x :: st) w := by
  refine fun H locs ls hP hD hS hh => lv_i2c (v := mI x) hC.1 hC.2.1 hdg ?_ (h H locs ls hP hD hS hh)
  obtain ⟨n, rfl⟩ := Int.eq_ofNat_of_zero_le hx.1
  obtain ⟨v, hv, h1, h2⟩ : ∃ v : Nat, v < 65536 ∧ v = n ∧ True := ⟨n, by omega, rfl, trivial⟩
  show ((Int32.ofNat n).toUInt32 % 65536).toInt32 = Int32.ofNat n
  apply Int32.toBitVec_inj.mp
  show (BitVec.ofNat 32 n) % 65536#32 = BitVec.ofNat 32 n
  apply BitVec.eq_of_toNat_eq
  simp [BitVec.toNat_umod, BitVec.toNat_ofNat]
  omega
theorem wm_lcmp (hC : mC G K nL own cc ret) {x y : Int} (hdg : decode cc pc = .ok (.lcmp, 1)) (hx : -9223372036854775808 ≤ x ∧ x < 9223372036854775808) (hy : -9223372036854775808 ≤ y ∧ y < 9223372036854775808) (h : Wm l G K d nL Q (pc + 1) L (mvI (mcmp x y) :: st) w) : Wm l G K d nL Q pc L (mvJ y :: mvJ x :: st) w :=
  fun H locs ls hP hD hS hh => W.lcmp hC.1 hC.2.1 hdg (by rw [mJ_cmp hx hy]; exact h H locs ls hP hD hS hh)
theorem wm_tableOut (hC : mC G K nL own cc ret) (tgt : Nat) {dflt lo hi x : Int} {offs : Array Int} {len : Nat} (hdg : decode cc pc = .ok (.tableswitch dflt lo hi offs, len)) (ht : (pc : Int) + dflt = (tgt : Int)) (hx : -2147483648 ≤ x ∧ x < 2147483648) (hq : x < lo ∨ hi < x) (h : Wm l G K d nL Q tgt L st w) : Wm l G K d nL Q pc L (mvI x :: st) w :=
  fun H locs ls hP hD hS hh => lv_tableOut hC.1 hC.2.1 hdg (by rw [mI_toInt hx]; exact hq) ht (h H locs ls hP hD hS hh)
theorem wm_tableIn (hC : mC G K nL own cc ret) (tgt : Nat) (k : Int) {dflt lo hi x off : Int} {offs : Array Int} {len : Nat} (hdg : decode cc pc = .ok (.tableswitch dflt lo hi offs, len)) (hk : x = k) (hl : ¬ k < lo ∧ ¬ hi < k ∧ -2147483648 ≤ k ∧ k < 2147483648) (ho : offs[(k - lo).toNat]? = some off) (ht : (pc : Int) + off = (tgt : Int)) (h : Wm l G K d nL Q tgt L st w) : Wm l G K d nL Q pc L (mvI x :: st) w := by
  subst hk
  exact fun H locs ls hP hD hS hh => lv_tableIn hC.1 hC.2.1 hdg (by rw [mI_toInt hl.2.2]; exact hl.1) (by rw [mI_toInt hl.2.2]; exact hl.2.1) (by rw [mI_toInt hl.2.2]; exact ho) ht (h H locs ls hP hD hS hh)
theorem wm_lookup (hC : mC G K nL own cc ret) (tgt : Nat) {dflt x off : Int} {ps : Array (Int × Int)} {len : Nat} (hdg : decode cc pc = .ok (.lookupswitch dflt ps, len)) (hp : (ps.toList.zip (ps.toList.drop 1)).all (fun (a, next) => a.1 < next.1) = true) (hx : -2147483648 ≤ x ∧ x < 2147483648) (ho : Op.lookupswitch.offset ps.toList dflt x = off) (ht : (pc : Int) + off = (tgt : Int)) (h : Wm l G K d nL Q tgt L st w) : Wm l G K d nL Q pc L (mvI x :: st) w :=
  fun H locs ls hP hD hS hh => lv_lookup hC.1 hC.2.1 hdg hp (by rw [mI_toInt hx]; exact ho) ht (h H locs ls hP hD hS hh)
theorem wm_ireturn {Q : Option mV → mW → Prop} {x : Int} (hC : mC G K nL own cc (some .int)) (hdg : decode cc pc = .ok (.ireturn, 1)) (h : Q (some (mvI x)) w) : Wm l G K d nL Q pc L [mvI x] w :=
  fun H locs ls hP hD hS hh => W.iret hC.1 hC.2.1 hC.2.2.2.1 (fun t ht hW => ⟨⟨some (mvI x), w, rfl, h, by rw [ht]; exact hP⟩, hS.F ht⟩) hS.2.2 hdg hC.2.2.2.2.1
theorem wm_zreturn {Q : Option mV → mW → Prop} {x : Int} (hC : mC G K nL own cc (some .boolean)) (hdg : decode cc pc = .ok (.ireturn, 1)) (hx : x = 0 ∨ x = 1) (h : Q (some (mvI x)) w) : Wm l G K d nL Q pc L [mvI x] w :=
  fun H locs ls hP hD hS hh => W.zret (v := mI x) hC.1 hC.2.1 hC.2.2.2.1 (by rcases hx with rfl | rfl <;> decide) (fun t ht hW => ⟨⟨some (mvI x), w, rfl, h, by rw [ht]; exact hP⟩, hS.F ht⟩) hS.2.2 hdg hC.2.2.2.2.1
theorem wm_lreturn {Q : Option mV → mW → Prop} {x : Int} (hC : mC G K nL own cc (some .long)) (hdg : decode cc pc = .ok (.lreturn, 1)) (h : Q (some (mvJ x)) w) : Wm l G K d nL Q pc L [mvJ x] w :=
  fun H locs ls hP hD hS hh => W.lret (v := mJ x) hC.1 hC.2.1 hC.2.2.2.1 (fun t ht hW => ⟨⟨some (mvJ x), w, rfl, h, by rw [ht]; exact hP⟩, hS.F ht⟩) hS.2.2 hdg hC.2.2.2.2.1
theorem wm_areturn {Q : Option mV → mW → Prop} {i : Nat} {nm : String} (hC : mC G K nL own cc (some (.object nm))) (hdg : decode cc pc = .ok (.areturn, 1)) (h : Q (some (mvR i)) w) : Wm l G K d nL Q pc L [mvR i] w :=
  fun H locs ls hP hD hS hh => W.aret (v := .ref (G.2.1 i)) hC.1 hC.2.1 hC.2.2.2.1 (Or.inl ⟨_, rfl⟩) (Or.inr ⟨_, rfl⟩) (fun t ht hW => ⟨⟨some (mvR i), w, rfl, h, by rw [ht]; exact hP⟩, hS.F ht⟩) hS.2.2 hdg hC.2.2.2.2.1
theorem wm_return {Q : Option mV → mW → Prop} (hC : mC G K nL own cc none) (hdg : decode cc pc = .ok (.return_, 1)) (h : Q none w) : Wm l G K d nL Q pc L [] w :=
  fun H locs ls hP hD hS hh => W.vret hC.1 hC.2.1 hC.2.2.2.1 (fun t ht hW => ⟨⟨none, w, rfl, h, by rw [ht]; exact hP⟩, hS.F ht⟩) hS.2.2 hdg hC.2.2.2.2.1
end MROW2
end
section
/-! ROWS OF THE SMALL MACHINE: fields, arrays, calls -/
abbrev mWK (l : Launch) (G : mG) (K : mK) (d : Nat) (Q : Option mV → mW → Prop) (H : Heap) (locs : List Loc) (g : JFrame) : Prop :=
  W K.1 l K.2.1 (mR d) K.2.2.1 K.2.2.2.1 K.2.2.2.2.1 K.2.2.2.2.2.1 K.2.2.2.2.2.2.1 K.2.2.2.2.2.2.2 H locs 0 0 (MQ K.2.2.2.2.2.1 (mQ G Q) K.2.2.2.2.1 K.2.2.1 0 0 (mA G)) g
def mFl (own : String) (idx ci k : Nat) : Prop := ∃ (C : String) (T : u_T) (N : Nat), vwCl[ci]? = some (C, T, N) ∧ k < N ∧ Cond.fieldLink own idx (T k).1 (T k).2.1 (T k).2.2.1 ∈ mgood ∧ ∀ w ∈ u_ws C T N, w ∈ mgood
def mFp (own : String) (idx ci k : Nat) (ty : FieldType) : Prop := ∃ (C : String) (T : u_T) (N : Nat) (ty0 : Nat → FieldType), vwCl[ci]? = some (C, T, N) ∧ k < N ∧ Cond.fieldLink own idx (T k).1 (T k).2.1 (T k).2.2.1 ∈ mgood ∧ (∀ w ∈ u_ws C T N, w ∈ mgood) ∧ (∀ k, k < N → parseFieldDescriptor (T k).2.2.1 = some (ty0 k)) ∧ (∀ a, a < N → ∀ b, b < N → a ≠ b → (T a).2.1 ≠ (T b).2.1) ∧ (T k).2.2.2 = false ∧ parseFieldDescriptor (T k).2.2.1 = some ty
section MROW3
variable {l : Launch} {G : mG} {K : mK} {d nL : Nat} {own : String} {cc : ByteArray} {ret : Option FieldType} {Q : Option mV → mW → Prop} {pc : Nat} {L : List (Option mV)} {st : List mV} {w : mW}
theorem wm_getv (hC : mC G K nL own cc ret) {idx ci k i : Nat} {fks : List (Option (Option Nat))} {fk : Option (Option Nat)} (hF : mFl own idx ci k) (hi : mlays[i]? = some (.inl (ci, fks))) (hk : fks[k]? = some fk) (hdg : decode cc pc = .ok (.getfield idx, 3)) (h : Wm l G K d nL Q (pc + 3) L (mfv w i k fk :: st) w) : Wm l G K d nL Q pc L (mvR i :: st) w := by
  obtain ⟨C, T, N, hc, hkN, hlink, hin⟩ := hF
  intro H locs ls hP hD hS hh
  refine va_get (D := G.1) (ci := ci) (C := C) (T := T) (N := N) (ref := (T k).1) hC.1 hC.2.1 (Ts := mgood) hC.2.2.2.2.2.2.1 hin hC.2.2.2.2.2.1 hC.2.2.2.2.2.2.2.2 hP i (mws_at G w hi) hc k hkN (hC.2.2.2.2.2.2.1 _ hlink) (fun _ h9 => h9) (v := mtr G (mfv w i k fk)) ?_ hdg (h H locs ls hP hD hS hh)
  simp [List.getElem?_mapIdx, hk]
theorem wm_getI (hC : mC G K nL own cc ret) {idx ci k : Nat} (i : Nat) (kz : Int) {fks : List (Option (Option Nat))} (hF : mFl own idx ci k) (hi : mlays[i]? = some (.inl (ci, fks))) (hk : fks[k]? = some none) (hkz : (k : Int) = kz) (hdg : decode cc pc = .ok (.getfield idx, 3)) (h : Wm l G K d nL Q (pc + 3) L (mvI (w i kz) :: st) w) : Wm l G K d nL Q pc L (mvR i :: st) w := by
  subst hkz
  exact wm_getv hC hF hi hk hdg h
theorem wm_getR (hC : mC G K nL own cc ret) {idx ci k i j : Nat} {fks : List (Option (Option Nat))} (hF : mFl own idx ci k) (hi : mlays[i]? = some (.inl (ci, fks))) (hk : fks[k]? = some (some (some j))) (hdg : decode cc pc = .ok (.getfield idx, 3)) (h : Wm l G K d nL Q (pc + 3) L (mvR j :: st) w) : Wm l G K d nL Q pc L (mvR i :: st) w :=
  wm_getv hC hF hi hk hdg h
theorem wm_getD (hC : mC G K nL own cc ret) {idx ci k i : Nat} (kz : Int) (j : Nat) {fks : List (Option (Option Nat))} (hF : mFl own idx ci k) (hi : mlays[i]? = some (.inl (ci, fks))) (hk : fks[k]? = some (some none)) (hkz : (k : Int) = kz) (hj : w i kz = (j : Int)) (hdg : decode cc pc = .ok (.getfield idx, 3)) (h : Wm l G K d nL Q (pc + 3) L (mvR j :: st) w) : Wm l G K d nL Q pc L (mvR i :: st) w := by
  subst hkz
  refine wm_getv hC hF hi hk hdg ?_
  simp only [mfv, hj, Int.toNat_natCast]
  exact h
theorem ment_put (G : mG) (w : mW) (i k : Nat) (ci : Nat) (fks : List (Option (Option Nat))) (fk : Option (Option Nat)) (z : Int) (hk : fks[k]? = some fk) : ment G (mup w i (k : Int) z) i (.inl (ci, fks)) = .inr (ci, (fks.mapIdx fun k q => mtr G (mfv w i k q)).set k (mtr G (mfv (mup w i (k : Int) z) i k fk))) := by
  simp only [ment]
  congr 2
  apply List.ext_getElem?
  intro j
  by_cases hj : j = k
  · subst hj
    have hlt := (List.getElem?_eq_some_iff.mp hk).1
    rw [List.getElem?_set_self (by simpa using hlt)]
    simp [List.getElem?_mapIdx, hk]
  · rw [List.getElem?_set_ne (Ne.symm hj)]
    simp only [List.getElem?_mapIdx]
    cases fks[j]? with
    | none => rfl
    | some q =>
      have hne : ¬ (j : Int) = (k : Int) := by omega
      rcases q with _ | _ | q <;> simp [mfv, mup, hne]
theorem wm_putv (hC : mC G K nL own cc ret) {idx ci k i : Nat} {fks : List (Option (Option Nat))} {fk : Option (Option Nat)} {ty : FieldType} {v : mV} {z : Int} (hF : mFp own idx ci k ty) (hi : mlays[i]? = some (.inl (ci, fks))) (hk : fks[k]? = some fk) (hv : mfv (mup w i (k : Int) z) i k fk = v) (hn : narrow ty (mtr G v) = mtr G v) (hfit : fits ty (mtr G v) = true) (hdg : decode cc pc = .ok (.putfield idx, 3)) (h : Wm l G K d nL Q (pc + 3) L st (mup w i (k : Int) z)) : Wm l G K d nL Q pc L (v :: mvR i :: st) w := by
  obtain ⟨C, T, N, ty0, hc, hkN, hlink, hin, hty, hnm, hfin, hd⟩ := hF
  intro H locs ls hP hD hS hh
  refine va_put (D := G.1) (ci := ci) (C := C) (T := T) (N := N) (ref := (T k).1) hC.1 hC.2.1 (Ts := mgood) hC.2.2.2.2.2.2.1 hin ty0 hty hnm hC.2.2.2.2.2.1 hC.2.2.2.2.2.2.2.2 hP hD hS i (mws_at G w hi) hc k hkN (hC.2.2.2.2.2.2.1 _ hlink) (fun _ h9 => h9) hfin hd (v := mtr G v) hn hfit ?_ hdg (fun H1 locs1 hP1 hD1 hS1 => ?_)
  · have := (List.getElem?_eq_some_iff.mp hk).1
    simpa using this
  · have e := mws_set (G := G) (w := w) (w' := mup w i (k : Int) z) hi (ment_put G w i k ci fks fk z hk) (fun j hj => mup_ne hj)
    rw [hv] at e
    rw [e] at hP1 hD1
    exact h H1 locs1 ls hP1 hD1 hS1 hh
theorem wm_putI (hC : mC G K nL own cc ret) {idx ci k : Nat} (i : Nat) (kz : Int) {fks : List (Option (Option Nat))} {z : Int} (hF : mFp own idx ci k .int) (hi : mlays[i]? = some (.inl (ci, fks))) (hk : fks[k]? = some none) (hkz : (k : Int) = kz) (hdg : decode cc pc = .ok (.putfield idx, 3)) (h : Wm l G K d nL Q (pc + 3) L st (mup w i kz z)) : Wm l G K d nL Q pc L (mvI z :: mvR i :: st) w := by
  subst hkz
  exact wm_putv hC hF hi hk (by simp [mfv, mup_at]) rfl rfl hdg h
theorem wm_putD (hC : mC G K nL own cc ret) {idx ci k : Nat} (i : Nat) (kz : Int) {j : Nat} {nm : String} {fks : List (Option (Option Nat))} (hF : mFp own idx ci k (.object nm)) (hi : mlays[i]? = some (.inl (ci, fks))) (hk : fks[k]? = some (some none)) (hkz : (k : Int) = kz) (hdg : decode cc pc = .ok (.putfield idx, 3)) (h : Wm l G K d nL Q (pc + 3) L st (mup w i kz (j : Int))) : Wm l G K d nL Q pc L (mvR j :: mvR i :: st) w := by
  subst hkz
  exact wm_putv hC hF hi hk (by simp [mfv, mup_at]) rfl rfl hdg h
theorem mclamp_cast {z : Int} {n : Nat} (hz : 0 ≤ z ∧ z < n) (hn : n ≤ 1000000) : (((mI z).toNatClampNeg : Nat) : Int) = z := by
  rw [mI_clamp (by omega)]; omega
theorem wm_iaload (hC : mC G K nL own cc ret) {i n : Nat} {z : Int} (hi : mlays[i]? = some (.inr (0, n))) (hz : 0 ≤ z ∧ z < n) (hn : n ≤ 1000000) (hdg : decode cc pc = .ok (.iaload, 1)) (h : Wm l G K d nL Q (pc + 1) L (mvI (w i z) :: st) w) : Wm l G K d nL Q pc L (mvI z :: mvR i :: st) w := by
  intro H locs ls hP hD hS hh
  have key : ∀ u : Int32, u = mI (w i z) → mWK l G K d Q H locs (F0 K.2.2.2.1 (pc + 1) ls (.int u :: st.map (mtr G))) := by rintro _ rfl; exact h H locs ls hP hD hS hh
  exact va_iald hC.1 hC.2.1 hC.2.2.2.2.2.2.2.2 hP i 0 (mws_at G w hi) rfl (mI_in hz hn) hdg (key _ (by show mI (w i _) = _; rw [mclamp_cast hz hn]))
theorem wm_baload (hC : mC G K nL own cc ret) {i n : Nat} {z : Int} (hi : mlays[i]? = some (.inr (1, n))) (hz : 0 ≤ z ∧ z < n) (hn : n ≤ 1000000) (hdg : decode cc pc = .ok (.baload, 1)) (h : Wm l G K d nL Q (pc + 1) L (mvI (w i z) :: st) w) : Wm l G K d nL Q pc L (mvI z :: mvR i :: st) w := by
  intro H locs ls hP hD hS hh
  have key : ∀ u : Int32, u = mI (w i z) → mWK l G K d Q H locs (F0 K.2.2.2.1 (pc + 1) ls (.int u :: st.map (mtr G))) := by rintro _ rfl; exact h H locs ls hP hD hS hh
  exact va_zald hC.1 hC.2.1 hC.2.2.2.2.2.2.2.2 hP i 1 (mws_at G w hi) rfl (mI_in hz hn) hdg (key _ (by show mI (w i _) = _; rw [mclamp_cast hz hn]))
theorem wm_caload (hC : mC G K nL own cc ret) {i n : Nat} {z : Int} (hi : mlays[i]? = some (.inr (2, n))) (hz : 0 ≤ z ∧ z < n) (hn : n ≤ 1000000) (hdg : decode cc pc = .ok (.caload, 1)) (h : Wm l G K d nL Q (pc + 1) L (mvI (w i z) :: st) w) : Wm l G K d nL Q pc L (mvI z :: mvR i :: st) w := by
  intro H locs ls hP hD hS hh
  have key : ∀ u : Int32, u = mI (w i z) → mWK l G K d Q H locs (F0 K.2.2.2.1 (pc + 1) ls (.int u :: st.map (mtr G))) := by rintro _ rfl; exact h H locs ls hP hD hS hh
  exact va_cald hC.1 hC.2.1 hC.2.2.2.2.2.2.2.2 hP i 2 (mws_at G w hi) rfl (mI_in hz hn) hdg (key _ (by show mI (w i _) = _; rw [mclamp_cast hz hn]))
theorem wm_laload (hC : mC G K nL own cc ret) {i n : Nat} {z : Int} (hi : mlays[i]? = some (.inr (3, n))) (hz : 0 ≤ z ∧ z < n) (hn : n ≤ 1000000) (hdg : decode cc pc = .ok (.laload, 1)) (h : Wm l G K d nL Q (pc + 1) L (mvJ (w i z) :: st) w) : Wm l G K d nL Q pc L (mvI z :: mvR i :: st) w := by
  intro H locs ls hP hD hS hh
  have key : ∀ u : Int64, u = mJ (w i z) → mWK l G K d Q H locs (F0 K.2.2.2.1 (pc + 1) ls (.long u :: st.map (mtr G))) := by rintro _ rfl; exact h H locs ls hP hD hS hh
  exact va_lald hC.1 hC.2.1 hC.2.2.2.2.2.2.2.2 hP i 3 (mws_at G w hi) rfl (mI_in hz hn) hdg (key _ (by show mJ (w i _) = _; rw [mclamp_cast hz hn]))
theorem mupd_eq {w : mW} {i n : Nat} {z x : Int} (hz : 0 ≤ z ∧ z < n) (hn : n ≤ 1000000) {u : Int32} (hu : u = mI x) : (fun k : Nat => mI (mup w i z x i (k : Int))) = upd (fun k : Nat => mI (w i (k : Int))) (mI z).toNatClampNeg u := by
  funext k
  have e := mclamp_cast hz hn
  by_cases hk : k = (mI z).toNatClampNeg
  · subst hk
    simp [upd, mup, e, hu]
  · have : ¬ (k : Int) = z := by rw [← e]; omega
    simp [upd, mup, hk, this]
theorem wm_iastore (hC : mC G K nL own cc ret) {i n : Nat} {z x : Int} (hi : mlays[i]? = some (.inr (0, n))) (hz : 0 ≤ z ∧ z < n) (hn : n ≤ 1000000) (hdg : decode cc pc = .ok (.iastore, 1)) (h : Wm l G K d nL Q (pc + 1) L st (mup w i z x)) : Wm l G K d nL Q pc L (mvI x :: mvI z :: mvR i :: st) w := by
  intro H locs ls hP hD hS hh
  refine va_iast hC.1 hC.2.1 hC.2.2.2.2.2.2.2.2 hP hD hS i 0 (mws_at G w hi) rfl (mI_in hz hn) hdg (fun H1 locs1 hP1 hD1 hS1 => ?_)
  have e := mws_set (G := G) (w := w) (w' := mup w i z x) hi (e := .inl (mCid G 0, n, .inl (upd (fun k : Nat => mI (w i (k : Int))) (mI z).toNatClampNeg (mI x)))) (by rw [← mupd_eq hz hn rfl]; rfl) (fun j hj => mup_ne hj)
  rw [e] at hP1 hD1
  exact h H1 locs1 ls hP1 hD1 hS1 hh
theorem wm_bastore (hC : mC G K nL own cc ret) {i n : Nat} {z x : Int} (hi : mlays[i]? = some (.inr (1, n))) (hz : 0 ≤ z ∧ z < n) (hn : n ≤ 1000000) (hx : x = 0 ∨ x = 1) (hdg : decode cc pc = .ok (.bastore, 1)) (h : Wm l G K d nL Q (pc + 1) L st (mup w i z x)) : Wm l G K d nL Q pc L (mvI x :: mvI z :: mvR i :: st) w := by
  intro H locs ls hP hD hS hh
  refine va_zast hC.1 hC.2.1 hC.2.2.2.2.2.2.2.2 hP hD hS i 1 (mws_at G w hi) rfl (mI_in hz hn) hdg (fun H1 locs1 hP1 hD1 hS1 => ?_)
  have hx' : vp_nar .boolean (mI x) = mI x := by rcases hx with rfl | rfl <;> decide
  have e := mws_set (G := G) (w := w) (w' := mup w i z x) hi (e := .inl (mCid G 1, n, .inl (upd (fun k : Nat => mI (w i (k : Int))) (mI z).toNatClampNeg (vp_nar .boolean (mI x))))) (by rw [← mupd_eq hz hn hx']; rfl) (fun j hj => mup_ne hj)
  rw [e] at hP1 hD1
  exact h H1 locs1 ls hP1 hD1 hS1 hh
theorem mnar_char : ∀ n : Nat, n < 256 → vp_nar .char (mI (n : Int)) = mI (n : Int) := by decide +kernel
theorem wm_castore (hC : mC G K nL own cc ret) {i n : Nat} {z x : Int} (hi : mlays[i]? = some (.inr (2, n))) (hz : 0 ≤ z ∧ z < n) (hn : n ≤ 1000000) (hx : 0 ≤ x ∧ x < 256) (hdg : decode cc pc = .ok (.castore, 1)) (h : Wm l G K d nL Q (pc + 1) L st (mup w i z x)) : Wm l G K d nL Q pc L (mvI x :: mvI z :: mvR i :: st) w := by
  intro H locs ls hP hD hS hh
  refine va_cast hC.1 hC.2.1 hC.2.2.2.2.2.2.2.2 hP hD hS i 2 (mws_at G w hi) rfl (mI_in hz hn) hdg (fun H1 locs1 hP1 hD1 hS1 => ?_)
  have hx' : vp_nar .char (mI x) = mI x := by
    obtain ⟨m, rfl⟩ := Int.eq_ofNat_of_zero_le hx.1
    exact mnar_char m (by omega)
  have e := mws_set (G := G) (w := w) (w' := mup w i z x) hi (e := .inl (mCid G 2, n, .inl (upd (fun k : Nat => mI (w i (k : Int))) (mI z).toNatClampNeg (vp_nar .char (mI x))))) (by rw [← mupd_eq hz hn hx']; rfl) (fun j hj => mup_ne hj)
  rw [e] at hP1 hD1
  exact h H1 locs1 ls hP1 hD1 hS1 hh
theorem wm_lastore (hC : mC G K nL own cc ret) {i n : Nat} {z x : Int} (hi : mlays[i]? = some (.inr (3, n))) (hz : 0 ≤ z ∧ z < n) (hn : n ≤ 1000000) (hdg : decode cc pc = .ok (.lastore, 1)) (h : Wm l G K d nL Q (pc + 1) L st (mup w i z x)) : Wm l G K d nL Q pc L (mvJ x :: mvI z :: mvR i :: st) w := by
  intro H locs ls hP hD hS hh
  refine va_last hC.1 hC.2.1 hC.2.2.2.2.2.2.2.2 hP hD hS i 3 (mws_at G w hi) rfl (mI_in hz hn) hdg (fun H1 locs1 hP1 hD1 hS1 => ?_)
  have e0 : (fun k : Nat => mJ (mup w i z x i (k : Int))) = vp_updL (fun k : Nat => mJ (w i (k : Int))) (mI z).toNatClampNeg (mJ x) := by
    funext k
    have e := mclamp_cast hz hn
    by_cases hk : k = (mI z).toNatClampNeg
    · subst hk
      simp [vp_updL, mup, e]
    · have : ¬ (k : Int) = z := by rw [← e]; omega
      simp [vp_updL, mup, hk, this]
  have e := mws_set (G := G) (w := w) (w' := mup w i z x) hi (e := .inl (mCid G 3, n, .inr (.inl (vp_updL (fun k : Nat => mJ (w i (k : Int))) (mI z).toNatClampNeg (mJ x))))) (by rw [← e0]; rfl) (fun j hj => mup_ne hj)
  rw [e] at hP1 hD1
  exact h H1 locs1 ls hP1 hD1 hS1 hh
theorem wm_alen (hC : mC G K nL own cc ret) {i t n : Nat} (nz : Int) (hi : mlays[i]? = some (.inr (t, n))) (ht : (mtys G)[t]? = some (mCid G t, mTy t)) (hnz : (n : Int) = nz) (hdg : decode cc pc = .ok (.arraylength, 1)) (h : Wm l G K d nL Q (pc + 1) L (mvI nz :: st) w) : Wm l G K d nL Q pc L (mvR i :: st) w := by
  subst hnz
  exact fun H locs ls hP hD hS hh => va_alen hC.1 hC.2.1 hC.2.2.2.2.2.2.2.2 hP i t (mws_at G w hi) ht rfl hdg (h H locs ls hP hD hS hh)
theorem mfits_all (f : Nat → Int32) : ∀ i, fits .int (.int (f i)) = true := fun _ => rfl
/-- System.arraycopy of numbers -/
theorem wm_copy (hC : mC G K nL own cc ret) {idx i j n0 n1 : Nat} {sp dp n : Int} (hl : Cond.methodLink own idx arraycopyName ∈ mgood) (hnat : Cond.native arraycopyName ∈ mgood) (hstat : Cond.static arraycopyName ∈ mgood) (hini : Cond.initialized "java/lang/System" ∈ mgood) (hi : mlays[i]? = some (.inr (0, n0))) (hj : mlays[j]? = some (.inr (0, n1))) (hb : 0 ≤ sp ∧ 0 ≤ dp ∧ 0 ≤ n ∧ sp + n ≤ n0 ∧ dp + n ≤ n1 ∧ n0 ≤ 1000000 ∧ n1 ≤ 1000000) (hd : 1 ≤ d) (hroom : (st.map mcat).sum ≤ 8) (hdg : decode cc pc = .ok (.invokestatic idx, 3))
    (h : Wm l G K d nL Q (pc + 3) L st (fun a b => if a = j ∧ dp ≤ b ∧ b < dp + n then w i (sp + (b - dp)) else w a b)) : Wm l G K d nL Q pc L (mvI n :: mvI dp :: mvR j :: mvI sp :: mvR i :: st) w := by
  intro H locs ls hP hD hS hh
  have h0 : ∀ z : Int, 0 ≤ z → z ≤ 1000000 → ¬ mI z < 0 := fun z h1 h2 => by rw [← mI_0, mI_lt (by omega) (by omega)]; omega
  have e1 : (mI sp).toNatClampNeg = sp.toNat := mI_clamp (by omega)
  have e2 : (mI dp).toNatClampNeg = dp.toNat := mI_clamp (by omega)
  have e3 : (mI n).toNatClampNeg = n.toNat := mI_clamp (by omega)
  refine va_copyi (ls := ls) hC.1 hC.2.1 (by rw [hC.2.2.1, hh.1]) hC.2.2.2.2.2.1 (hC.2.2.2.2.2.2.1 _ hl) (hC.2.2.2.2.2.2.1 _ hnat) (hC.2.2.2.2.2.2.1 _ hstat) (hC.2.2.2.2.2.2.1 _ hini) hC.2.2.2.2.2.2.2.2 hP hD hS i j 0 0 (ty := .int) (mws_at G w hi) (mws_at G w hj) rfl rfl rfl (h0 _ (by omega) (by omega)) (h0 _ (by omega) (by omega)) (h0 _ (by omega) (by omega)) (by rw [e1, e3]; omega) (by rw [e2, e3]; omega) (fun _ _ => rfl) hd ?_ hdg (fun H1 locs1 hP1 hD1 hS1 => ?_)
  · have hr : ((st.map (mtr G)).map fun v => v.category).sum = (st.map mcat).sum := by
      rw [List.map_map]; congr 1; apply List.map_congr_left; intro v _; exact mtr_cat G v
    rw [hr]
    have : nativeFrameWords "java/lang/System" "arraycopy" 5 = 7 := by decide
    rw [this]
    simp only [mR]; omega
  · have ew : (fun k : Nat => mI ((fun (a : Nat) (b : Int) => if a = j ∧ dp ≤ b ∧ b < dp + n then w i (sp + (b - dp)) else w a b) j (k : Int))) = va_cpy (fun k : Nat => mI (w i (k : Int))) (fun k : Nat => mI (w j (k : Int))) (mI sp).toNatClampNeg (mI dp).toNatClampNeg (mI n).toNatClampNeg := by
      funext k
      rw [e1, e2, e3]
      unfold va_cpy
      by_cases hk : dp.toNat ≤ k ∧ k < dp.toNat + n.toNat
      · have hk' : dp ≤ (k : Int) ∧ (k : Int) < dp + n := by omega
        have ee : sp + ((k : Int) - dp) = ((sp.toNat + (k - dp.toNat) : Nat) : Int) := by omega
        simp only [hk, hk', true_and, and_self, if_true, ee]
      · have hk' : ¬ (dp ≤ (k : Int) ∧ (k : Int) < dp + n) := by omega
        rw [if_neg hk]
        show mI (if j = j ∧ dp ≤ (k : Int) ∧ (k : Int) < dp + n then _ else _) = _
        rw [if_neg (fun q => hk' q.2)]
    have e := mws_set (G := G) (w := w) (w' := fun a b => if a = j ∧ dp ≤ b ∧ b < dp + n then w i (sp + (b - dp)) else w a b) hj (e := .inl (mCid G 0, n1, .inl (va_cpy (fun k : Nat => mI (w i (k : Int))) (fun k : Nat => mI (w j (k : Int))) (mI sp).toNatClampNeg (mI dp).toNatClampNeg (mI n).toNatClampNeg))) (by rw [← ew]; rfl) (fun a ha => by funext b; simp [ha])
    rw [e] at hP1 hD1
    exact h H1 locs1 ls hP1 hD1 hS1 hh
end MROW3
end
section
/-! ROWS OF THE SMALL MACHINE: calls -/
abbrev mcD (y : MethodName) (n : Nat) : Prop := y.cls ≠ "java/lang/invoke/MethodHandle" ∧ y.cls ≠ "java/lang/invoke/VarHandle" ∧ (parseMethodDescriptor y.desc).map (fun d => d.parameters.length) = some n
def mcS (own : String) (idx : Nat) (y : MethodName) (n : Nat) : Prop := Cond.methodLink own idx y ∈ mgood ∧ Cond.static y ∈ mgood ∧ Cond.initialized y.cls ∈ mgood ∧ mcD y n
def mcN (own : String) (idx : Nat) (y : MethodName) (n : Nat) : Prop := (∃ host : String, Cond.methodLinkNest own idx y host ∈ mnest) ∧ Cond.static y ∈ mgood ∧ Cond.initialized y.cls ∈ mgood ∧ mcD y n
def mcV (own : String) (idx : Nat) (y : MethodName) (n : Nat) : Prop := Cond.methodLink own idx y ∈ mgood ∧ Cond.instanceMethod y ∈ mgood ∧ Cond.selects y.cls y y ∈ mgood ∧ Cond.initialized y.cls ∈ mgood ∧ mcD y n
def mcU (own : String) (idx : Nat) (C owner : String) (x y : MethodName) (n : Nat) : Prop := (∀ w ∈ ([.methodLink own idx x, .sameMethod x.cls owner x.name x.desc, .selects C x y, .instanceMethod y, .initialized y.cls] : List Cond), w ∈ mgood) ∧ (y = ⟨owner, x.name, x.desc⟩ ∨ Cond.declares ⟨owner, x.name, x.desc⟩ ∈ mnest) ∧ owner ≠ "java/lang/invoke/MethodHandle" ∧ owner ≠ "java/lang/invoke/VarHandle" ∧ (parseMethodDescriptor x.desc).map (fun d => d.parameters.length) = some n
section MCALL
variable {l : Launch} {G : mG} {K : mK} {d nL : Nat} {own : String} {cc : ByteArray} {ret : Option FieldType} {Q : Option mV → mW → Prop} {pc : Nat} {L : List (Option mV)} {st : List mV} {w : mW}
theorem wm_after {H : Heap} {locs : List Loc} {ls : Array Slot} {st0 : List Value} {a : Array Value} {Q1 : Option mV → mW → Prop} (hD : va_D (mA G) (mws G w)) (hS : va_S (mA G) K.2.2.1.heap H locs) (hh : mhas G ls nL L)
    (hr : va_Run K.1 l K.2.1 (mR d) K.2.2.1 K.2.2.2.1 K.2.2.2.2.1 K.2.2.2.2.2.1 K.2.2.2.2.2.2.1 K.2.2.2.2.2.2.2 H locs 0 0 0 0 (F0 K.2.2.2.1 pc ls st0) (st.map (mtr G)) (mQ G Q1 a) (mA G))
    (next : ∀ v w', Q1 v w' → Wm l G K d nL Q (pc + 3) L (v.toList ++ st) w') : mWK l G K d Q H locs (F0 K.2.2.2.1 pc ls st0) := by
  intro T hT X
  obtain ⟨v, st₀, t, T', LL, h0, X', hL, e1, e2, ⟨⟨v', w', hv, hq, hb⟩, hz, hk⟩, stp⟩ := hr T hT X
  cases hv
  rw [h0] at hz hk
  have hS' : va_S (mA G) K.2.2.1.heap T'.heap (locs ++ LL) := by
    refine ⟨Nat.le_trans hS.1 (by rw [e1]; exact hz), fun q h1 h2 => ?_, fun q hq => ?_⟩
    · rw [e1, hk q (Nat.lt_of_lt_of_le h1 hS.1) h2]; exact hS.2.1 q h1 h2
    · rcases List.mem_append.mp hq with h | h
      · exact hS.2.2 q h
      · exact hL q h
  obtain ⟨t2, a1, b1⟩ := next v' w' hq T'.heap (locs ++ LL) ls (by rw [e1]; exact hb) (mD_any hD) hS' hh T' rfl X'
  refine ⟨t2, stp t2 ?_, b1⟩
  have e : (v'.map (mtr G)).toList ++ st.map (mtr G) = (v'.toList ++ st).map (mtr G) := by cases v' <;> simp
  rw [e]; exact a1
theorem mblind (as : List mV) : FrameBlind (va_Pc (as.map (mtr G)) (fun U => va_P G.1 vwCl (mws G w) U.heap ∧ va_K G.1 vwCl (mtys G) U ∧ va_D (fun _ => True) (mws G w) ∧ ∀ q ∈ mnest, va_Nw q U)) := by
  intro a U g mk h
  obtain ⟨h1, h2, h3, h4, h5⟩ := h
  exact ⟨h1, h2, va_K.moved (u := U) (U := U.calling g mk a) (Vm.Alike.refl U.vm) h3, h4, fun q hq => mnest_same hq (s := U) (U := U.calling g mk a) rfl (h5 q hq)⟩
theorem mpre (hC : mC G K nL own cc ret) {H : Heap} (hP : va_P G.1 vwCl (mws G w) H) (hD : va_D (mA G) (mws G w)) (as : List mV) : ∀ U : State, U.heap = H → K.2.2.1.WarmedH U.vm → va_Pc (as.map (mtr G)) (fun U => va_P G.1 vwCl (mws G w) U.heap ∧ va_K G.1 vwCl (mtys G) U ∧ va_D (fun _ => True) (mws G w) ∧ ∀ q ∈ mnest, va_Nw q U) (as.map (mtr G)).toArray U := by
  intro U hU hW
  exact ⟨rfl, by rw [hU]; exact hP, va_K.moved hW.alike hC.2.2.2.2.2.2.2.2, mD_true hD, fun q hq => mnest_warm hq hW (hC.2.2.2.2.2.2.2.1 q hq)⟩
theorem mroom (h : (st.map mcat).sum ≤ 8) (pc : Nat) (ls : Array Slot) (st0 : List Value) (m : MethodId) : 2 * (F0 m pc ls st0).monitorRoom + ((st.map (mtr G)).map fun v => v.category).sum ≤ 8 := by
  have hr : ((st.map (mtr G)).map fun v => v.category).sum = (st.map mcat).sum := by
    rw [List.map_map]; congr 1; apply List.map_congr_left; intro v _; exact mtr_cat G v
  exact lv_room (by rw [hr]; exact h)
theorem mroomR {k d mL : Nat} (hd : k + 1 ≤ d ∧ mL ≤ 19) : (mR k).frames + 1 ≤ (mR d).frames ∧ 8 + (mL + 11) + (mR k).locals ≤ (mR d).locals := by
  simp only [mR]; omega
theorem mini {y : MethodName} (hC : mC G K nL own cc ret) (h : Cond.initialized y.cls ∈ mgood) : (Cond.initialized y.cls).before K.2.2.2.2.1 K.2.2.1 = true := hC.2.2.2.2.2.2.1 _ h
theorem wm_callS (hC : mC G K nL own cc ret) {k idx n mL' : Nat} {y : MethodName} {cy : ByteArray} {r' : Option FieldType} {as S : List mV} {Q1 : Option mV → mW → Prop} (cs : mcS own idx y n) (hcode : Cond.code y cy mL' r' ∈ mgood) (hM : Mx l G k y cy mL' r' as w Q1) (hn : as.length = n) (hd : k + 1 ≤ d ∧ mL' ≤ 19) (hst : S = as.reverse ++ st) (hroom : (st.map mcat).sum ≤ 8) (hdg : decode cc pc = .ok (.invokestatic idx, 3))
    (next : ∀ v w', Q1 v w' → Wm l G K d nL Q (pc + 3) L (v.toList ++ st) w') : Wm l G K d nL Q pc L S w := by
  subst hst
  intro H locs ls hP hD hS hh
  obtain ⟨c1, c2, c3, c4⟩ := cs
  have ht := hC.2.2.2.2.2.2.1
  have cb := callB_of (R := mR d) (own := own) (index := idx) (y := y) (bytes := cy) (maxL := mL') (ret := r') (rm := mR k) (mc := 0) (ms := 0) n ht (mgoodIn y cy mL' r' hcode) rfl rfl rfl (ht _ c3) (ht _ c1) c4 (mroomR hd)
  have hr := va_runS (g := F0 K.2.2.2.1 pc ls ((as.reverse ++ st).map (mtr G))) (As := as.map (mtr G)) (rest := st.map (mtr G)) (locs := locs) (cells := 0) (slots := 0) (below := K.2.2.2.2.2.1) (e := K.2.1) (meth := K.2.2.2.2.2.2.1) ⟨hC.1, hC.2.1, hC.2.2.1, hC.2.2.2.2.2.1, ht⟩ hM ⟨cb, ht _ c2⟩ ⟨mblind as, mpre hC hP hD as⟩ rfl (by simp [hn]) hh.1 (by simp) (mroom hroom _ _ _ _) hdg ⟨Nat.le_refl 0, Nat.le_refl 0⟩
  exact wm_after hD hS hh hr next
theorem wm_callN (hC : mC G K nL own cc ret) {k idx n mL' : Nat} {y : MethodName} {cy : ByteArray} {r' : Option FieldType} {as S : List mV} {Q1 : Option mV → mW → Prop} (cs : mcN own idx y n) (hcode : Cond.code y cy mL' r' ∈ mgood) (hM : Mx l G k y cy mL' r' as w Q1) (hn : as.length = n) (hd : k + 1 ≤ d ∧ mL' ≤ 19) (hst : S = as.reverse ++ st) (hroom : (st.map mcat).sum ≤ 8) (hdg : decode cc pc = .ok (.invokestatic idx, 3))
    (next : ∀ v w', Q1 v w' → Wm l G K d nL Q (pc + 3) L (v.toList ++ st) w') : Wm l G K d nL Q pc L S w := by
  subst hst
  intro H locs ls hP hD hS hh
  obtain ⟨⟨host, c1⟩, c2, c3, c4⟩ := cs
  have ht := hC.2.2.2.2.2.2.1
  have cb := va_cnB (R := mR d) (own := own) (host := host) (index := idx) (y := y) (bytes := cy) (maxL := mL') (ret := r') (rm := mR k) (mc := 0) (ms := 0) n ht (mgoodIn y cy mL' r' hcode) rfl rfl rfl (hC.2.2.2.2.2.2.2.1 _ c1) (ht _ c3) c4 (mroomR hd)
  have hr := va_runSN (g := F0 K.2.2.2.1 pc ls ((as.reverse ++ st).map (mtr G))) (As := as.map (mtr G)) (rest := st.map (mtr G)) (locs := locs) (cells := 0) (slots := 0) (below := K.2.2.2.2.2.1) (e := K.2.1) (meth := K.2.2.2.2.2.2.1) ⟨hC.1, hC.2.1, hC.2.2.1, hC.2.2.2.2.2.1, ht⟩ hM ⟨cb, ht _ c2, trivial⟩ ⟨mblind as, mpre hC hP hD as⟩ rfl (by simp [hn]) hh.1 (by simp) (mroom hroom _ _ _ _) hdg ⟨Nat.le_refl 0, Nat.le_refl 0⟩
  exact wm_after hD hS hh hr next
theorem wm_callV (hC : mC G K nL own cc ret) {k idx n mL' i ci N : Nat} {T : u_T} {fks : List (Option (Option Nat))} {y : MethodName} {cy : ByteArray} {r' : Option FieldType} {as S : List mV} {Q1 : Option mV → mW → Prop} (cs : mcV own idx y n) (hcode : Cond.code y cy mL' r' ∈ mgood) (hi : mlays[i]? = some (.inl (ci, fks))) (hc : vwCl[ci]? = some (y.cls, T, N)) (hM : Mx l G k y cy mL' r' (mvR i :: as) w Q1) (hn : as.length = n) (hd : k + 1 ≤ d ∧ mL' ≤ 19) (hst : S = as.reverse ++ mvR i :: st) (hroom : (st.map mcat).sum ≤ 8) (hdg : decode cc pc = .ok (.invokevirtual idx, 3))
    (next : ∀ v w', Q1 v w' → Wm l G K d nL Q (pc + 3) L (v.toList ++ st) w') : Wm l G K d nL Q pc L S w := by
  subst hst
  intro H locs ls hP hD hS hh
  obtain ⟨c1, c2, c2b, c3, c4⟩ := cs
  have ht := hC.2.2.2.2.2.2.1
  have cb := callB_of (R := mR d) (own := own) (index := idx) (y := y) (bytes := cy) (maxL := mL') (ret := r') (rm := mR k) (mc := 0) (ms := 0) n ht (mgoodIn y cy mL' r' hcode) rfl rfl rfl (ht _ c3) (ht _ c1) c4 (mroomR hd)
  have hr := va_runV (C := y.cls) (b := G.2.1 i) (g := F0 K.2.2.2.1 pc ls ((as.reverse ++ mvR i :: st).map (mtr G))) (As := as.map (mtr G)) (rest := st.map (mtr G)) (locs := locs) (cells := 0) (slots := 0) (below := K.2.2.2.2.2.1) (e := K.2.1) (meth := K.2.2.2.2.2.2.1) ⟨hC.1, hC.2.1, hC.2.2.1, hC.2.2.2.2.2.1, ht⟩ hM ⟨cb, ht _ c2, ht _ c2b⟩ ⟨mblind (mvR i :: as), va_recv hC.2.2.2.2.2.2.2.2 hP hc (mws_at G w hi), mpre hC hP hD (mvR i :: as)⟩ rfl (by simp [hn]) hh.1 (by simp [mtr]) (mroom hroom _ _ _ _) hdg ⟨Nat.le_refl 0, Nat.le_refl 0⟩
  exact wm_after hD hS hh hr next
theorem wm_callU (hC : mC G K nL own cc ret) {k idx n mL' i ci N : Nat} {T : u_T} {C owner : String} {fks : List (Option (Option Nat))} {x y : MethodName} {cy : ByteArray} {r' : Option FieldType} {as S : List mV} {Q1 : Option mV → mW → Prop} (cs : mcU own idx C owner x y n) (hcode : Cond.code y cy mL' r' ∈ mgood) (hi : mlays[i]? = some (.inl (ci, fks))) (hc : vwCl[ci]? = some (C, T, N)) (hM : Mx l G k y cy mL' r' (mvR i :: as) w Q1) (hn : as.length = n) (hd : k + 1 ≤ d ∧ mL' ≤ 19) (hst : S = as.reverse ++ mvR i :: st) (hroom : (st.map mcat).sum ≤ 8) (hdg : decode cc pc = .ok (.invokevirtual idx, 3))
    (next : ∀ v w', Q1 v w' → Wm l G K d nL Q (pc + 3) L (v.toList ++ st) w') : Wm l G K d nL Q pc L S w := by
  subst hst
  intro H locs ls hP hD hS hh
  obtain ⟨c1, c2, c4⟩ := cs
  have ht := hC.2.2.2.2.2.2.1
  have hG : GoodIn mgood (va_wsU own idx C owner x y (Cond.code y cy mL' r' :: mgood)) := by
    intro w hw
    have hm : w ∈ mgood := by
      rcases List.mem_append.mp hw with h | h
      · exact c1 w h
      · rcases List.mem_cons.mp h with rfl | h1
        · exact hcode
        · exact h1
    exact ⟨hm, good_of_word (List.mem_filter.mp hm).2⟩
  have cb : va_CU (mR d) K.2.2.1 K.2.2.2.2.1 own C owner idx x y cy mL' r' (Cond.code y cy mL' r' :: mgood) (mR k) 0 0 n := by
    rcases c2 with h | h
    · exact va_cwU n ht hG rfl rfl rfl h c4 (mroomR hd)
    · exact va_cwA n ht hG rfl rfl rfl (hC.2.2.2.2.2.2.2.1 _ h) c4 (mroomR hd)
  have hr := va_runU (C := C) (b := G.2.1 i) (g := F0 K.2.2.2.1 pc ls ((as.reverse ++ mvR i :: st).map (mtr G))) (As := as.map (mtr G)) (rest := st.map (mtr G)) (locs := locs) (cells := 0) (slots := 0) (below := K.2.2.2.2.2.1) (e := K.2.1) (meth := K.2.2.2.2.2.2.1) ⟨hC.1, hC.2.1, hC.2.2.1, hC.2.2.2.2.2.1, ht⟩ hM cb ⟨mblind (mvR i :: as), va_recv hC.2.2.2.2.2.2.2.2 hP hc (mws_at G w hi), mpre hC hP hD (mvR i :: as)⟩ rfl (by simp [hn]) hh.1 (by simp [mtr]) (mroom hroom _ _ _ _) hdg ⟨Nat.le_refl 0, Nat.le_refl 0⟩
  exact wm_after hD hS hh hr next
/-- a contract that says less -/
theorem Mx.weaken {d : Nat} {y : MethodName} {mL : Nat} {a : List mV} {Q1 Q2 : Option mV → mW → Prop} (h : Mx l G d y cc mL ret a w Q1) (hq : ∀ v w', Q1 v w' → Q2 v w') : Mx l G d y cc mL ret a w Q2 := by
  intro p e ha hc hk s m args below hf happ hP hKK
  obtain ⟨n, o, h1, h2, h3, ⟨⟨⟨v, w', q1, q2, q3⟩, q4⟩, q5⟩⟩ := h p e ha hc hk s m args below hf happ hP hKK
  exact ⟨n, o, h1, h2, h3, ⟨⟨⟨v, w', q1, hq v w' q2, q3⟩, q4⟩, q5⟩⟩
end MCALL
end
section
/-! A static method called by the name of a class that inherits it -/
theorem mm_coldUp {Q : Unit → Pre} {E : CtlPost} {e : Env} {d : Bool} {acts : List Action} {s s₀ : State} {f : JFrame} {index ci n c : Nat} {m : MethodId} {dk ck : Class} {cf : ClassFile} {name desc : String} {via : Bool} (hs : s.topJava?.isSome) (hp : e.platform.polymorphicOnlyByInvokevirtual = true)
    (hW : s₀.WarmedH s.vm) (hE : s₀.MethodEntryUp e s.vm f.method.cls index c m ci) (h1 : s₀.vm.classes[f.method.cls]? = some dk) (h2 : dk.cf = some cf)
    (h3 : cf.constantPool[index]? = some (if via then .interfaceMethodref ci n else .methodref ci n)) (h4 : cf.constantPool.nameAndType? n = some (name, desc))
    (hck : s₀.vm.classes[c]? = some ck) (hnone : (ck.methods.any fun x => x.name == name && !x.isStatic && signaturePolymorphic ck x) = false) :
    wp (Op.invokestatic.sem index) Q E e d acts (s.setTop f) ↔ wp (Op.invokestatic.sem index) Q E e d acts ((s.setVm (s.vm.calledUp f.method.cls ci index c m)).setTop f) := by
  obtain ⟨hgc, hrc, hW₁, hgm⟩ := hE.classFirst
  obtain ⟨k₀, hk₀, he₀⟩ := hW.alike.2.2 _ _ h1
  obtain ⟨k₂, hk₂, he₂⟩ := hE.warmed.alike.2.2 _ _ h1
  obtain ⟨c₁, hc₁, hec₁⟩ := hW₁.alike.2.2 _ _ hck
  obtain ⟨c₂, hc₂, hec₂⟩ := hE.warmed.alike.2.2 _ _ hck
  have hb₀ := memberRef_ask_via (e := e) hk₀ (by rw [he₀]; exact h2) h3 h4
  have hb₂ := memberRef_ask_via (e := e) hk₂ (by rw [he₂]; exact h2) h3 h4
  have hn₁ : (c₁.methods.any fun x => x.name == name && !x.isStatic && signaturePolymorphic c₁ x) = false := by rw [hec₁]; exact hnone
  have hn₂ : (c₂.methods.any fun x => x.name == name && !x.isStatic && signaturePolymorphic c₂ x) = false := by rw [hec₂]; exact hnone
  have hs₁ : (s.setVm (s.vm.noted f.method.cls ci (.cls c))).topJava?.isSome := hs
  have hs₂ : (s.setVm (s.vm.calledUp f.method.cls ci index c m)).topJava?.isSome := hs
  have hL : ∀ {Q' : ClassId → Pre} {d' : Bool} {acts' : List Action}, wp (Jvm.resolveClassAt ci) Q' E e d' acts' (s.setTop f) ↔ Q' c d' acts' ((s.setVm (s.vm.noted f.method.cls ci (.cls c))).setTop f) :=
    Jvm.W.resolveClassAt_links (t := s.setTop f) (State.method?_setTop f hs) hgc
  have hM : ∀ {Q' : MethodId → Pre} {d' : Bool} {acts' : List Action}, wp (Jvm.resolveMethodAt index) Q' E e d' acts' ((s.setVm (s.vm.noted f.method.cls ci (.cls c))).setTop f) ↔ Q' m d' acts' ((s.setVm (s.vm.calledUp f.method.cls ci index c m)).setTop f) :=
    Jvm.W.resolveMethodAt_links (t := (s.setVm (s.vm.noted f.method.cls ci (.cls c))).setTop f) (State.method?_setTop f hs₁) hgm
  simp [Op.invokestatic.sem, hp, Seam.memberRefOf, State.method?_setTop f hs, State.method?_setTop f hs₂, hb₀, hb₂, hL, Jvm.W.resolveClassAt_ready (s := (s.setVm (s.vm.calledUp f.method.cls ci index c m)).setTop f) (State.method?_setTop f hs₂) hE.classReady,
    hc₁, hc₂, hn₁, hn₂, hM, Jvm.W.resolveMethodAt_ready (s := (s.setVm (s.vm.calledUp f.method.cls ci index c m)).setTop f) (State.method?_setTop f hs₂) hE.ready, -Array.any_eq_true]
section MSU
variable {p : Program} {l : Launch} {e : Env} {R : Room} {s : State} {m : MethodId} {args : Array Value} {below : List Frame} {meth : Method} {c : Code} {T : State} {locs : List Loc} {cells slots : Nat}
theorem mm_staticUp (X : Stand p l e R s m args below meth c T locs cells slots) (hexec : p.tables.exec = Jvm.exec)
    {own owner : String} {index : Nat} {x : MethodName} (hown : s.vm.findClass own = some m.cls) (hlink : (Cond.methodLink own index x).before args s = true)
    (hsame : (Cond.sameMethod x.cls owner x.name x.desc).before args s = true)
    {m' : MethodId} {meth' : Method} {k' : Class} (hn : s.methodNamed? ⟨owner, x.name, x.desc⟩ = some m') (hm' : s.vm.method? m' = some meth') (hstatic : meth'.isStatic = true)
    (hk' : s.vm.classes[m'.cls]? = some k') (hinit : k'.init = .initialized) (hpoly : signaturePolymorphic k' meth' = false)
    {g : JFrame} (hg : g.method = m) {argsL rest : List Value} (hlen : argsL.length = meth'.sig.parameters.length) (hstack : g.stack = argsL.reverse ++ rest)
    (hdg : decode c.code g.pc = .ok (.invokestatic index, 3)) :
    ∃ vm', Stand p l e R s m args below meth c (T.setVm vm') locs cells slots ∧
      ∀ target, (∀ acts, Steps p.tables e below (doInvoke e ((T.setVm vm').setTop { g with stack := rest }) acts m' argsL.toArray).1 target) → Steps p.tables e below (T.setTop g) target := by
  have hpl : e.platform.magicAccessors = ({} : Platform).magicAccessors := by rw [X.admits.platform]
  have hpv : e.platform.polymorphicOnlyByInvokevirtual = true := by rw [X.admits.platform]
  obtain ⟨cn, ck, r1, hcn, hck, hni, hf, hn1⟩ := Cond.sameMethod_found hsame
  cases hn.symm.trans hn1
  obtain ⟨ci, hl, hright⟩ := Cond.methodLink_specUp hown hcn hck hni hf hlink e.platform hpl (by rw [X.admits.platform])
  have hE : s.MethodEntryUp e T.vm m.cls index cn m' ci := State.methodEntryUp X.warmed hl hright
  obtain ⟨dk, cfile, nt, mname, mdesc, ck1, mk1, meth1, hd, hcf, hcp, hnt, -, -, hck1, -, hnopoly, -⟩ := hl.here
  cases hck.symm.trans hck1
  have alike := hE.warmed.alike
  obtain ⟨dk₂, hdk₂, hed₂⟩ := alike.2.2 _ _ hd
  obtain ⟨k₂, hk₂, he₂⟩ := alike.2.2 _ _ hk'
  obtain ⟨ck₂, hck₂, hec₂⟩ := alike.2.2 _ _ hck
  have hnone : (ck.methods.any fun y => y.name == mname && !y.isStatic && signaturePolymorphic ck y) = false := by simp [hnopoly]
  have hnone₂ : (ck₂.methods.any fun y => y.name == mname && !y.isStatic && signaturePolymorphic ck₂ y) = false := by rw [hec₂]; exact hnone
  refine ⟨T.vm.calledUp m.cls ci index cn m', X.noted hE.warmed, fun target hrest => ?_⟩
  subst hg
  jvm_step X.here [hexec, hdg, mm_coldUp (e := e) (s := T) (s₀ := s) (f := g) (via := false) X.here.top hpv X.warmed hE hd hcf (by simpa using hcp) hnt hck hnone,
    Op.invokestatic.wp_ready (e := e) (s := T.setVm (T.vm.calledUp g.method.cls ci index cn m')) (k := k₂) (meth := meth') (m := m') (args := argsL) (rest := rest) (f := g)
      X.here.top ⟨ci, mname, mdesc, false, cn, ck₂, memberRef_ask_via (e := e) (via := false) hdk₂ (by rw [hed₂]; exact hcf) (by simpa using hcp) hnt, hE.classReady, hck₂, hnone₂⟩ hE.ready hk₂
      (by show (T.vm.calledUp g.method.cls ci index cn m').method? m' = some meth'; rw [alike.method?]; exact hm') (by rw [he₂]; exact hpoly) hstatic (by rw [he₂]; exact hinit) hlen hstack]
  exact fun acts => hrest _
end MSU
def mcT (own : String) (idx : Nat) (x y : MethodName) (n : Nat) : Prop := Cond.methodLink own idx x ∈ mgood ∧ Cond.sameMethod x.cls y.cls x.name x.desc ∈ mgood ∧ (y = ⟨y.cls, x.name, x.desc⟩) ∧ Cond.static y ∈ mgood ∧ Cond.initialized y.cls ∈ mgood ∧ mcD y n
section MCALL2
variable {l : Launch} {G : mG} {K : mK} {d nL : Nat} {own : String} {cc : ByteArray} {ret : Option FieldType} {Q : Option mV → mW → Prop} {pc : Nat} {L : List (Option mV)} {st : List mV} {w : mW}
theorem wm_callT (hC : mC G K nL own cc ret) {k idx n mL' : Nat} {x y : MethodName} {cy : ByteArray} {r' : Option FieldType} {as S : List mV} {Q1 : Option mV → mW → Prop} (cs : mcT own idx x y n) (hcode : Cond.code y cy mL' r' ∈ mgood) (hM : Mx l G k y cy mL' r' as w Q1) (hn : as.length = n) (hd : k + 1 ≤ d ∧ mL' ≤ 19) (hst : S = as.reverse ++ st) (hroom : (st.map mcat).sum ≤ 8) (hdg : decode cc pc = .ok (.invokestatic idx, 3))
    (next : ∀ v w', Q1 v w' → Wm l G K d nL Q (pc + 3) L (v.toList ++ st) w') : Wm l G K d nL Q pc L S w := by
  subst hst
  intro H locs ls hP hD hS hh
  obtain ⟨c1, c2, c3, c4, c5, c6⟩ := cs
  have ht := hC.2.2.2.2.2.2.1
  have hbk : Back l (mR d) K.1 K.2.1 K.2.2.2.2.2.1 K.2.2.1 K.2.2.2.2.1 y 3 8 (PreOf (mR d) 0 0 _) (PostOf (mQ G Q1) 0 0 (mA G)) :=
    back_of (bytes := cy) (maxL := mL') (ret := r') hM (mblind as) rfl rfl (mroomR hd).1 (mroomR hd).2 (pay_in ht (mgoodIn y cy mL' r' hcode)) List.mem_cons_self (fun a' U hW => word_at hW (Or.inl (by first | rfl | simp [Cond.onTables, Cond.keeps, Cond.steady])) (ht _ c5))
  refine wm_after (st0 := (as.reverse ++ st).map (mtr G)) (a := (as.map (mtr G)).toArray) hD hS hh ?_ next
  intro T hT X
  have hcode' := ht _ hcode
  obtain ⟨mk, hnamed⟩ := Cond.code_named hcode'
  obtain ⟨methM, cM, hmethM, -, -, -, -, -, -, hsigM⟩ := Cond.code_spec hnamed hcode'
  have hstatic : methM.isStatic = true := Cond.static_spec hnamed hmethM (ht _ c4)
  obtain ⟨kP, hkP, hnP⟩ := className_of_methodNamed hnamed
  have hinitP : kP.init = .initialized := Cond.initialized_spec (findClass_of_methodNamed hnamed) hkP (ht _ c5)
  have hpoly : signaturePolymorphic kP methM = false := by
    have h1 : (kP.name == "java/lang/invoke/MethodHandle" || kP.name == "java/lang/invoke/VarHandle") = false := by
      rw [hnP]; simp [c6.1, c6.2.1]
    simp [signaturePolymorphic, h1]
  have hlen : (as.map (mtr G)).length = methM.sig.parameters.length := by
    have h2 := c6.2.2
    rw [hsigM] at h2
    simpa [hn] using (Option.some.inj h2).symm
  obtain ⟨vm₁, X₁, hstep₁⟩ := mm_staticUp X hC.1 hC.2.2.2.2.2.1 (ht _ c1) (ht _ c2) (by rw [← c3]; exact hnamed) hmethM hstatic hkP hinitP hpoly (g := F0 K.2.2.2.1 pc ls ((as.reverse ++ st).map (mtr G))) rfl (argsL := as.map (mtr G)) (rest := st.map (mtr G)) hlen (by simp) (by rw [hC.2.1]; exact hdg)
  obtain ⟨v, ⟨U', l2, cc2, s2⟩, X', ⟨g', mk', t, LL, e1, e2, hq, h1, hL, h2, h3⟩, hsteps⟩ := hbk K.2.2.2.1 K.2.2.2.2.2.2.1 K.2.2.2.2.2.2.2 ⟨T.setVm vm₁, locs, 0, 0⟩ { (F0 K.2.2.2.1 pc ls ((as.reverse ++ st).map (mtr G))) with stack := st.map (mtr G) } (.invokestatic idx) mk (as.map (mtr G)).toArray X₁ rfl (by rw [hC.2.2.1]; exact hh.1) (by rw [hC.2.1]; exact hdg) (mroom hroom _ _ _ _) (X₁.named hnamed) ⟨Nat.le_refl _, Nat.le_refl _, mpre hC hP hD as (T.setVm vm₁) hT X₁.warmed⟩
  dsimp only [Pt.U, Pt.locs, Pt.cells, Pt.slots] at X' e1 e2 h1 h2 h3 hsteps
  subst h1; subst h2; subst h3
  exact ⟨v, (T.setVm vm₁).calling g' mk' (as.map (mtr G)).toArray, t, U', LL, hT, X', hL, e1, e2, hq, fun target h => hstep₁ _ fun acts => by rw [doInvoke_state]; exact hsteps.trans h⟩
end MCALL2
end
section
/-! THE STATIC FACTS: code words, call sites, fields, constants (by program out of the tables) -/
theorem kc_X0_init : Cond.code yX0_init cX0_init 1 none ∈ mgood := mgood_in (List.mem_of_getElem? (i := 108) (by decide +kernel)) rfl
theorem kc_X0_size : Cond.code yX0_size cX0_size 1 (some .int) ∈ mgood := mgood_in (List.mem_of_getElem? (i := 668) (by decide +kernel)) rfl
theorem kc_X3_saveTo : Cond.code yX3_saveTo cX3_saveTo 3 none ∈ mgood := mgood_in (List.mem_of_getElem? (i := 281) (by decide +kernel)) rfl
theorem kc_X0_record : Cond.code yX0_record cX0_record 5 none ∈ mgood := mgood_in (List.mem_of_getElem? (i := 274) (by decide +kernel)) rfl
theorem kc_X3_loadFrom : Cond.code yX3_loadFrom cX3_loadFrom 3 none ∈ mgood := mgood_in (List.mem_of_getElem? (i := 684) (by decide +kernel)) rfl
theorem kc_X0_restore : Cond.code yX0_restore cX0_restore 5 none ∈ mgood := mgood_in (List.mem_of_getElem? (i := 680) (by decide +kernel)) rfl
theorem kc_X1_init : Cond.code yX1_init cX1_init 1 none ∈ mgood := mgood_in (List.mem_of_getElem? (i := 151) (by decide +kernel)) rfl
theorem kc_X8_isState : Cond.code yX8_isState cX8_isState 1 (some .boolean) ∈ mgood := mgood_in (List.mem_of_getElem? (i := 91) (by decide +kernel)) rfl
theorem kc_X3_kindOf : Cond.code yX3_kindOf cX3_kindOf 2 (some .int) ∈ mgood := mgood_in (List.mem_of_getElem? (i := 290) (by decide +kernel)) rfl
theorem kc_X8_isWord : Cond.code yX8_isWord cX8_isWord 1 (some .boolean) ∈ mgood := mgood_in (List.mem_of_getElem? (i := 98) (by decide +kernel)) rfl
theorem kc_X3_targetOf : Cond.code yX3_targetOf cX3_targetOf 3 (some .int) ∈ mgood := mgood_in (List.mem_of_getElem? (i := 305) (by decide +kernel)) rfl
theorem kc_X3_wordsOf : Cond.code yX3_wordsOf cX3_wordsOf 4 (some .int) ∈ mgood := mgood_in (List.mem_of_getElem? (i := 301) (by decide +kernel)) rfl
theorem kc_X1_looksAlike : Cond.code yX1_looksAlike cX1_looksAlike 4 (some .boolean) ∈ mgood := mgood_in (List.mem_of_getElem? (i := 349) (by decide +kernel)) rfl
theorem kc_X1_areAlike : Cond.code yX1_areAlike cX1_areAlike 3 (some .boolean) ∈ mgood := mgood_in (List.mem_of_getElem? (i := 364) (by decide +kernel)) rfl
theorem kc_X1_leadsAlike : Cond.code yX1_leadsAlike cX1_leadsAlike 7 (some .boolean) ∈ mgood := mgood_in (List.mem_of_getElem? (i := 359) (by decide +kernel)) rfl
theorem kc_X1_part : Cond.code yX1_part cX1_part 4 none ∈ mgood := mgood_in (List.mem_of_getElem? (i := 355) (by decide +kernel)) rfl
theorem kc_X1_compare : Cond.code yX1_compare cX1_compare 4 none ∈ mgood := mgood_in (List.mem_of_getElem? (i := 346) (by decide +kernel)) rfl
theorem kc_X1_lowestAlike : Cond.code yX1_lowestAlike cX1_lowestAlike 3 (some .int) ∈ mgood := mgood_in (List.mem_of_getElem? (i := 369) (by decide +kernel)) rfl
theorem kc_X2_init : Cond.code yX2_init cX2_init 2 none ∈ mgood := mgood_in (List.mem_of_getElem? (i := 165) (by decide +kernel)) rfl
theorem kc_J7_fill_53178 : Cond.code yJ7_fill_53178 cJ7_fill_53178 4 none ∈ mgood := mgood_in (List.mem_of_getElem? (i := 405) (by decide +kernel)) rfl
theorem kc_X2_add : Cond.code yX2_add cX2_add 5 none ∈ mgood := mgood_in (List.mem_of_getElem? (i := 409) (by decide +kernel)) rfl
theorem kc_X8_cellOf : Cond.code yX8_cellOf cX8_cellOf 2 (some .int) ∈ mgood := mgood_in (List.mem_of_getElem? (i := 422) (by decide +kernel)) rfl
theorem kc_X2_stateOfOne : Cond.code yX2_stateOfOne cX2_stateOfOne 2 (some .int) ∈ mgood := mgood_in (List.mem_of_getElem? (i := 419) (by decide +kernel)) rfl
theorem kc_X2_stateOfOther : Cond.code yX2_stateOfOther cX2_stateOfOther 2 (some .int) ∈ mgood := mgood_in (List.mem_of_getElem? (i := 428) (by decide +kernel)) rfl
theorem kc_X6_goTogether : Cond.code yX6_goTogether cX6_goTogether 3 (some .boolean) ∈ mgood := mgood_in (List.mem_of_getElem? (i := 436) (by decide +kernel)) rfl
theorem kc_X7_goTogether : Cond.code yX7_goTogether cX7_goTogether 3 (some .boolean) ∈ mgood := mgood_in (List.mem_of_getElem? (i := 439) (by decide +kernel)) rfl
theorem kc_X2_pairBehind : Cond.code yX2_pairBehind cX2_pairBehind 7 (some .int) ∈ mgood := mgood_in (List.mem_of_getElem? (i := 413) (by decide +kernel)) rfl
theorem kc_X2_lengthOf : Cond.code yX2_lengthOf cX2_lengthOf 2 (some .int) ∈ mgood := mgood_in (List.mem_of_getElem? (i := 445) (by decide +kernel)) rfl
theorem kc_X2_walk : Cond.code yX2_walk cX2_walk 6 none ∈ mgood := mgood_in (List.mem_of_getElem? (i := 402) (by decide +kernel)) rfl
theorem kc_X2_positionBehind : Cond.code yX2_positionBehind cX2_positionBehind 3 (some .int) ∈ mgood := mgood_in (List.mem_of_getElem? (i := 576) (by decide +kernel)) rfl
theorem kc_X2_size : Cond.code yX2_size cX2_size 1 (some .int) ∈ mgood := mgood_in (List.mem_of_getElem? (i := 532) (by decide +kernel)) rfl
theorem kc_X2_has : Cond.code yX2_has cX2_has 2 (some .boolean) ∈ mgood := mgood_in (List.mem_of_getElem? (i := 479) (by decide +kernel)) rfl
theorem kc_X2_kindOfOne : Cond.code yX2_kindOfOne cX2_kindOfOne 2 (some .int) ∈ mgood := mgood_in (List.mem_of_getElem? (i := 507) (by decide +kernel)) rfl
theorem kc_X2_kindOfOther : Cond.code yX2_kindOfOther cX2_kindOfOther 2 (some .int) ∈ mgood := mgood_in (List.mem_of_getElem? (i := 513) (by decide +kernel)) rfl
theorem kc_X6_reasonFor : Cond.code yX6_reasonFor cX6_reasonFor 5 (some .int) ∈ mgood := mgood_in (List.mem_of_getElem? (i := 464) (by decide +kernel)) rfl
theorem kc_X7_reasonFor : Cond.code yX7_reasonFor cX7_reasonFor 6 (some .int) ∈ mgood := mgood_in (List.mem_of_getElem? (i := 471) (by decide +kernel)) rfl
theorem kc_X2_reasonOf : Cond.code yX2_reasonOf cX2_reasonOf 4 (some .int) ∈ mgood := mgood_in (List.mem_of_getElem? (i := 457) (by decide +kernel)) rfl
theorem kc_X2_lackedWords : Cond.code yX2_lackedWords cX2_lackedWords 3 (some .int) ∈ mgood := mgood_in (List.mem_of_getElem? (i := 468) (by decide +kernel)) rfl
theorem kc_X8_holds : Cond.code yX8_holds cX8_holds 2 (some .boolean) ∈ mgood := mgood_in (List.mem_of_getElem? (i := 376) (by decide +kernel)) rfl
theorem kc_X8_firstWordIn : Cond.code yX8_firstWordIn cX8_firstWordIn 2 (some .int) ∈ mgood := mgood_in (List.mem_of_getElem? (i := 517) (by decide +kernel)) rfl
theorem kc_X2_firstLackedWord : Cond.code yX2_firstLackedWord cX2_firstLackedWord 5 (some .int) ∈ mgood := mgood_in (List.mem_of_getElem? (i := 501) (by decide +kernel)) rfl
theorem kc_X2_firstFaulty : Cond.code yX2_firstFaulty cX2_firstFaulty 2 (some .int) ∈ mgood := mgood_in (List.mem_of_getElem? (i := 451) (by decide +kernel)) rfl
theorem kc_X8_foundOr : Cond.code yX8_foundOr cX8_foundOr 1 (some .int) ∈ mgood := mgood_in (List.mem_of_getElem? (i := 383) (by decide +kernel)) rfl
theorem kc_X2_wordOfRow : Cond.code yX2_wordOfRow cX2_wordOfRow 5 (some .int) ∈ mgood := mgood_in (List.mem_of_getElem? (i := 522) (by decide +kernel)) rfl
theorem kc_X2_tellMore : Cond.code yX2_tellMore cX2_tellMore 3 (some .int) ∈ mgood := mgood_in (List.mem_of_getElem? (i := 497) (by decide +kernel)) rfl
theorem kc_X3_setKind : Cond.code yX3_setKind cX3_setKind 3 none ∈ mgood := mgood_in (List.mem_of_getElem? (i := 88) (by decide +kernel)) rfl
theorem kc_X3_setTarget : Cond.code yX3_setTarget cX3_setTarget 4 none ∈ mgood := mgood_in (List.mem_of_getElem? (i := 95) (by decide +kernel)) rfl
theorem kc_X3_clear : Cond.code yX3_clear cX3_clear 3 none ∈ mgood := mgood_in (List.mem_of_getElem? (i := 84) (by decide +kernel)) rfl
theorem kc_X3_init : Cond.code yX3_init cX3_init 1 none ∈ mgood := mgood_in (List.mem_of_getElem? (i := 79) (by decide +kernel)) rfl
theorem kc_J6_bitCount_0f7a4 : Cond.code yJ6_bitCount_0f7a4 cJ6_bitCount_0f7a4 1 (some .int) ∈ mgood := mgood_in (List.mem_of_getElem? (i := 308) (by decide +kernel)) rfl
theorem kc_X3_arrows : Cond.code yX3_arrows cX3_arrows 3 (some .int) ∈ mgood := mgood_in (List.mem_of_getElem? (i := 662) (by decide +kernel)) rfl
theorem kc_X3_lastingStates : Cond.code yX3_lastingStates cX3_lastingStates 3 (some .int) ∈ mgood := mgood_in (List.mem_of_getElem? (i := 329) (by decide +kernel)) rfl
theorem kc_X3_swapSides : Cond.code yX3_swapSides cX3_swapSides 3 none ∈ mgood := mgood_in (List.mem_of_getElem? (i := 338) (by decide +kernel)) rfl
theorem kc_X3_statesBehind : Cond.code yX3_statesBehind cX3_statesBehind 5 (some .int) ∈ mgood := mgood_in (List.mem_of_getElem? (i := 380) (by decide +kernel)) rfl
theorem kc_X3_comesTo : Cond.code yX3_comesTo cX3_comesTo 5 (some .int) ∈ mgood := mgood_in (List.mem_of_getElem? (i := 373) (by decide +kernel)) rfl
theorem kc_X3_take : Cond.code yX3_take cX3_take 2 none ∈ mgood := mgood_in (List.mem_of_getElem? (i := 325) (by decide +kernel)) rfl
theorem kc_X4_init : Cond.code yX4_init cX4_init 1 none ∈ mgood := mgood_in (List.mem_of_getElem? (i := 121) (by decide +kernel)) rfl
theorem kc_X4_length : Cond.code yX4_length cX4_length 1 (some .int) ∈ mgood := mgood_in (List.mem_of_getElem? (i := 672) (by decide +kernel)) rfl
theorem kc_X4_isFull : Cond.code yX4_isFull cX4_isFull 1 (some .boolean) ∈ mgood := mgood_in (List.mem_of_getElem? (i := 692) (by decide +kernel)) rfl
theorem kc_X4_append : Cond.code yX4_append cX4_append 2 none ∈ mgood := mgood_in (List.mem_of_getElem? (i := 697) (by decide +kernel)) rfl
theorem kc_X4_clear : Cond.code yX4_clear cX4_clear 1 none ∈ mgood := mgood_in (List.mem_of_getElem? (i := 705) (by decide +kernel)) rfl
theorem kc_X4_draft : Cond.code yX4_draft cX4_draft 1 (some (.object "MirroredTalks$Plan")) ∈ mgood := mgood_in (List.mem_of_getElem? (i := 761) (by decide +kernel)) rfl
theorem kc_X4_toldStates : Cond.code yX4_toldStates cX4_toldStates 1 (some .int) ∈ mgood := mgood_in (List.mem_of_getElem? (i := 765) (by decide +kernel)) rfl
theorem kc_X4_isFaulty : Cond.code yX4_isFaulty cX4_isFaulty 1 (some .boolean) ∈ mgood := mgood_in (List.mem_of_getElem? (i := 722) (by decide +kernel)) rfl
theorem kc_X4_faultPosition : Cond.code yX4_faultPosition cX4_faultPosition 1 (some .int) ∈ mgood := mgood_in (List.mem_of_getElem? (i := 745) (by decide +kernel)) rfl
theorem kc_X4_faultReason : Cond.code yX4_faultReason cX4_faultReason 1 (some .int) ∈ mgood := mgood_in (List.mem_of_getElem? (i := 749) (by decide +kernel)) rfl
theorem kc_X4_faultCause : Cond.code yX4_faultCause cX4_faultCause 1 (some .int) ∈ mgood := mgood_in (List.mem_of_getElem? (i := 753) (by decide +kernel)) rfl
theorem kc_X4_setFault : Cond.code yX4_setFault cX4_setFault 4 none ∈ mgood := mgood_in (List.mem_of_getElem? (i := 718) (by decide +kernel)) rfl
theorem kc_X4_characterAt : Cond.code yX4_characterAt cX4_characterAt 2 (some .int) ∈ mgood := mgood_in (List.mem_of_getElem? (i := 726) (by decide +kernel)) rfl
theorem kc_X4_after : Cond.code yX4_after cX4_after 2 (some .int) ∈ mgood := mgood_in (List.mem_of_getElem? (i := 730) (by decide +kernel)) rfl
theorem kc_X4_takeState : Cond.code yX4_takeState cX4_takeState 7 none ∈ mgood := mgood_in (List.mem_of_getElem? (i := 736) (by decide +kernel)) rfl
theorem kc_X4_parse : Cond.code yX4_parse cX4_parse 6 none ∈ mgood := mgood_in (List.mem_of_getElem? (i := 713) (by decide +kernel)) rfl
theorem kc_X5_init : Cond.code yX5_init cX5_init 1 none ∈ mgood := mgood_in (List.mem_of_getElem? (i := 196) (by decide +kernel)) rfl
theorem kc_J7_fill_d0a16 : Cond.code yJ7_fill_d0a16 cJ7_fill_d0a16 5 none ∈ mgood := mgood_in (List.mem_of_getElem? (i := 569) (by decide +kernel)) rfl
theorem kc_X5_isPosition : Cond.code yX5_isPosition cX5_isPosition 1 (some .boolean) ∈ mgood := mgood_in (List.mem_of_getElem? (i := 579) (by decide +kernel)) rfl
theorem kc_X5_countWays : Cond.code yX5_countWays cX5_countWays 5 none ∈ mgood := mgood_in (List.mem_of_getElem? (i := 565) (by decide +kernel)) rfl
theorem kc_X5_setReady : Cond.code yX5_setReady cX5_setReady 2 none ∈ mgood := mgood_in (List.mem_of_getElem? (i := 583) (by decide +kernel)) rfl
theorem kc_X7_isEnd : Cond.code yX7_isEnd cX7_isEnd 2 (some .boolean) ∈ mgood := mgood_in (List.mem_of_getElem? (i := 549) (by decide +kernel)) rfl
theorem kc_X5_rowsTo : Cond.code yX5_rowsTo cX5_rowsTo 2 (some .long) ∈ mgood := mgood_in (List.mem_of_getElem? (i := 588) (by decide +kernel)) rfl
theorem kc_X5_capped : Cond.code yX5_capped cX5_capped 2 (some .long) ∈ mgood := mgood_in (List.mem_of_getElem? (i := 591) (by decide +kernel)) rfl
theorem kc_X5_goAlong : Cond.code yX5_goAlong cX5_goAlong 4 none ∈ mgood := mgood_in (List.mem_of_getElem? (i := 599) (by decide +kernel)) rfl
theorem kc_X5_rowsToEnds : Cond.code yX5_rowsToEnds cX5_rowsToEnds 7 (some .long) ∈ mgood := mgood_in (List.mem_of_getElem? (i := 561) (by decide +kernel)) rfl
theorem kc_X6_init : Cond.code yX6_init cX6_init 2 none ∈ mgood := mgood_in (List.mem_of_getElem? (i := 216) (by decide +kernel)) rfl
theorem kc_X7_init : Cond.code yX7_init cX7_init 2 none ∈ mgood := mgood_in (List.mem_of_getElem? (i := 162) (by decide +kernel)) rfl
theorem kc_X7_stuckPairs : Cond.code yX7_stuckPairs cX7_stuckPairs 3 (some .int) ∈ mgood := mgood_in (List.mem_of_getElem? (i := 536) (by decide +kernel)) rfl
theorem kc_X7_ends : Cond.code yX7_ends cX7_ends 3 (some .int) ∈ mgood := mgood_in (List.mem_of_getElem? (i := 545) (by decide +kernel)) rfl
theorem kc_X7_fewestWordsToEnd : Cond.code yX7_fewestWordsToEnd cX7_fewestWordsToEnd 2 (some .int) ∈ mgood := mgood_in (List.mem_of_getElem? (i := 605) (by decide +kernel)) rfl
theorem kc_X7_statesOfOne : Cond.code yX7_statesOfOne cX7_statesOfOne 3 (some .int) ∈ mgood := mgood_in (List.mem_of_getElem? (i := 610) (by decide +kernel)) rfl
theorem kc_X7_statesOfOther : Cond.code yX7_statesOfOther cX7_statesOfOther 3 (some .int) ∈ mgood := mgood_in (List.mem_of_getElem? (i := 615) (by decide +kernel)) rfl
theorem kc_X8_init : Cond.code yX8_init cX8_init 1 none ∈ mgood := mgood_in (List.mem_of_getElem? (i := 71) (by decide +kernel)) rfl
theorem kc_X8_isPlan : Cond.code yX8_isPlan cX8_isPlan 1 (some .boolean) ∈ mgood := mgood_in (List.mem_of_getElem? (i := 261) (by decide +kernel)) rfl
theorem kc_X8_isKind : Cond.code yX8_isKind cX8_isKind 1 (some .boolean) ∈ mgood := mgood_in (List.mem_of_getElem? (i := 265) (by decide +kernel)) rfl
theorem kc_X8_remember : Cond.code yX8_remember cX8_remember 1 none ∈ mgood := mgood_in (List.mem_of_getElem? (i := 270) (by decide +kernel)) rfl
theorem kc_X8_planAt : Cond.code yX8_planAt cX8_planAt 2 (some (.object "MirroredTalks$Plan")) ∈ mgood := mgood_in (List.mem_of_getElem? (i := 286) (by decide +kernel)) rfl
theorem kc_X8_kind : Cond.code yX8_kind cX8_kind 5 (some .int) ∈ mgood := mgood_in (List.mem_of_getElem? (i := 258) (by decide +kernel)) rfl
theorem kc_X8_arrow : Cond.code yX8_arrow cX8_arrow 5 (some .int) ∈ mgood := mgood_in (List.mem_of_getElem? (i := 295) (by decide +kernel)) rfl
theorem kc_X8_erase : Cond.code yX8_erase cX8_erase 5 (some .int) ∈ mgood := mgood_in (List.mem_of_getElem? (i := 315) (by decide +kernel)) rfl
theorem kc_X8_copy : Cond.code yX8_copy cX8_copy 3 (some .int) ∈ mgood := mgood_in (List.mem_of_getElem? (i := 321) (by decide +kernel)) rfl
theorem kc_X8_mirror : Cond.code yX8_mirror cX8_mirror 2 (some .int) ∈ mgood := mgood_in (List.mem_of_getElem? (i := 334) (by decide +kernel)) rfl
theorem kc_X8_stateOf : Cond.code yX8_stateOf cX8_stateOf 6 (some .int) ∈ mgood := mgood_in (List.mem_of_getElem? (i := 342) (by decide +kernel)) rfl
theorem kc_X8_unlike : Cond.code yX8_unlike cX8_unlike 5 (some .int) ∈ mgood := mgood_in (List.mem_of_getElem? (i := 388) (by decide +kernel)) rfl
theorem kc_X8_isPairQuestion : Cond.code yX8_isPairQuestion cX8_isPairQuestion 1 (some .boolean) ∈ mgood := mgood_in (List.mem_of_getElem? (i := 396) (by decide +kernel)) rfl
theorem kc_X8_pairOf : Cond.code yX8_pairOf cX8_pairOf 6 (some .int) ∈ mgood := mgood_in (List.mem_of_getElem? (i := 393) (by decide +kernel)) rfl
theorem kc_X8_talk : Cond.code yX8_talk cX8_talk 4 (some .int) ∈ mgood := mgood_in (List.mem_of_getElem? (i := 526) (by decide +kernel)) rfl
theorem kc_X8_talks : Cond.code yX8_talks cX8_talks 5 (some .long) ∈ mgood := mgood_in (List.mem_of_getElem? (i := 620) (by decide +kernel)) rfl
theorem kc_X8_standsIn : Cond.code yX8_standsIn cX8_standsIn 3 (some .int) ∈ mgood := mgood_in (List.mem_of_getElem? (i := 628) (by decide +kernel)) rfl
theorem kc_X8_against : Cond.code yX8_against cX8_against 5 (some .int) ∈ mgood := mgood_in (List.mem_of_getElem? (i := 638) (by decide +kernel)) rfl
theorem kc_X8_count : Cond.code yX8_count cX8_count 3 (some .int) ∈ mgood := mgood_in (List.mem_of_getElem? (i := 657) (by decide +kernel)) rfl
theorem kc_X8_undo : Cond.code yX8_undo cX8_undo 1 (some .int) ∈ mgood := mgood_in (List.mem_of_getElem? (i := 676) (by decide +kernel)) rfl
theorem kc_X8_type : Cond.code yX8_type cX8_type 2 (some .int) ∈ mgood := mgood_in (List.mem_of_getElem? (i := 688) (by decide +kernel)) rfl
theorem kc_X8_clearText : Cond.code yX8_clearText cX8_clearText 2 (some .int) ∈ mgood := mgood_in (List.mem_of_getElem? (i := 701) (by decide +kernel)) rfl
theorem kc_X8_fault : Cond.code yX8_fault cX8_fault 2 (some .int) ∈ mgood := mgood_in (List.mem_of_getElem? (i := 709) (by decide +kernel)) rfl
theorem kc_X8_read : Cond.code yX8_read cX8_read 2 (some .int) ∈ mgood := mgood_in (List.mem_of_getElem? (i := 757) (by decide +kernel)) rfl
theorem kc_X9_init : Cond.code yX9_init cX9_init 1 none ∈ mgood := mgood_in (List.mem_of_getElem? (i := 771) (by decide +kernel)) rfl
theorem kc_X9_in : Cond.code yX9_in cX9_in 3 (some .boolean) ∈ mgood := mgood_in (List.mem_of_getElem? (i := 859) (by decide +kernel)) rfl
theorem kc_X9_isPlan : Cond.code yX9_isPlan cX9_isPlan 1 (some .boolean) ∈ mgood := mgood_in (List.mem_of_getElem? (i := 856) (by decide +kernel)) rfl
theorem kc_X9_isState : Cond.code yX9_isState cX9_isState 1 (some .boolean) ∈ mgood := mgood_in (List.mem_of_getElem? (i := 862) (by decide +kernel)) rfl
theorem kc_X9_isWord : Cond.code yX9_isWord cX9_isWord 1 (some .boolean) ∈ mgood := mgood_in (List.mem_of_getElem? (i := 878) (by decide +kernel)) rfl
theorem kc_X9_kindOf : Cond.code yX9_kindOf cX9_kindOf 3 (some .int) ∈ mgood := mgood_in (List.mem_of_getElem? (i := 871) (by decide +kernel)) rfl
theorem kc_X9_placeOf : Cond.code yX9_placeOf cX9_placeOf 3 (some .int) ∈ mgood := mgood_in (List.mem_of_getElem? (i := 881) (by decide +kernel)) rfl
theorem kc_X9_led : Cond.code yX9_led cX9_led 4 (some .int) ∈ mgood := mgood_in (List.mem_of_getElem? (i := 889) (by decide +kernel)) rfl
theorem kc_X9_leads : Cond.code yX9_leads cX9_leads 4 (some .int) ∈ mgood := mgood_in (List.mem_of_getElem? (i := 933) (by decide +kernel)) rfl
theorem kc_X9_records : Cond.code yX9_records cX9_records 2 none ∈ mgood := mgood_in (List.mem_of_getElem? (i := 867) (by decide +kernel)) rfl
theorem kc_X9_kind : Cond.code yX9_kind cX9_kind 5 (some .int) ∈ mgood := mgood_in (List.mem_of_getElem? (i := 853) (by decide +kernel)) rfl
theorem kc_X9_words : Cond.code yX9_words cX9_words 5 (some .int) ∈ mgood := mgood_in (List.mem_of_getElem? (i := 885) (by decide +kernel)) rfl
theorem kc_X9_bits : Cond.code yX9_bits cX9_bits 3 (some .int) ∈ mgood := mgood_in (List.mem_of_getElem? (i := 892) (by decide +kernel)) rfl
theorem kc_X9_arrow : Cond.code yX9_arrow cX9_arrow 5 (some .int) ∈ mgood := mgood_in (List.mem_of_getElem? (i := 875) (by decide +kernel)) rfl
theorem kc_X9_erase : Cond.code yX9_erase cX9_erase 5 (some .int) ∈ mgood := mgood_in (List.mem_of_getElem? (i := 896) (by decide +kernel)) rfl
theorem kc_X9_going : Cond.code yX9_going cX9_going 4 (some .int) ∈ mgood := mgood_in (List.mem_of_getElem? (i := 905) (by decide +kernel)) rfl
theorem kc_X9_copy : Cond.code yX9_copy cX9_copy 4 (some .int) ∈ mgood := mgood_in (List.mem_of_getElem? (i := 901) (by decide +kernel)) rfl
theorem kc_X9_mirror : Cond.code yX9_mirror cX9_mirror 4 (some .int) ∈ mgood := mgood_in (List.mem_of_getElem? (i := 909) (by decide +kernel)) rfl
theorem kc_X9_haveSame : Cond.code yX9_haveSame cX9_haveSame 5 (some .boolean) ∈ mgood := mgood_in (List.mem_of_getElem? (i := 925) (by decide +kernel)) rfl
theorem kc_X9_leadAlike : Cond.code yX9_leadAlike cX9_leadAlike 7 (some .boolean) ∈ mgood := mgood_in (List.mem_of_getElem? (i := 929) (by decide +kernel)) rfl
theorem kc_X9_findAlike : Cond.code yX9_findAlike cX9_findAlike 6 none ∈ mgood := mgood_in (List.mem_of_getElem? (i := 921) (by decide +kernel)) rfl
theorem kc_X9_lowest : Cond.code yX9_lowest cX9_lowest 2 (some .int) ∈ mgood := mgood_in (List.mem_of_getElem? (i := 936) (by decide +kernel)) rfl
theorem kc_X9_alikeTo : Cond.code yX9_alikeTo cX9_alikeTo 3 (some .int) ∈ mgood := mgood_in (List.mem_of_getElem? (i := 917) (by decide +kernel)) rfl
theorem kc_X9_reached : Cond.code yX9_reached cX9_reached 7 (some .int) ∈ mgood := mgood_in (List.mem_of_getElem? (i := 940) (by decide +kernel)) rfl
theorem kc_X9_stateOf : Cond.code yX9_stateOf cX9_stateOf 5 (some .int) ∈ mgood := mgood_in (List.mem_of_getElem? (i := 913) (by decide +kernel)) rfl
theorem kc_X9_unlike : Cond.code yX9_unlike cX9_unlike 5 (some .int) ∈ mgood := mgood_in (List.mem_of_getElem? (i := 945) (by decide +kernel)) rfl
theorem kc_X9_together : Cond.code yX9_together cX9_together 3 (some .boolean) ∈ mgood := mgood_in (List.mem_of_getElem? (i := 967) (by decide +kernel)) rfl
theorem kc_X9_behind : Cond.code yX9_behind cX9_behind 7 (some .int) ∈ mgood := mgood_in (List.mem_of_getElem? (i := 971) (by decide +kernel)) rfl
theorem kc_X9_finds : Cond.code yX9_finds cX9_finds 4 none ∈ mgood := mgood_in (List.mem_of_getElem? (i := 960) (by decide +kernel)) rfl
theorem kc_X9_follows : Cond.code yX9_follows cX9_follows 8 (some .int) ∈ mgood := mgood_in (List.mem_of_getElem? (i := 964) (by decide +kernel)) rfl
theorem kc_X9_goThrough : Cond.code yX9_goThrough cX9_goThrough 7 none ∈ mgood := mgood_in (List.mem_of_getElem? (i := 956) (by decide +kernel)) rfl
theorem kc_X9_wordOf : Cond.code yX9_wordOf cX9_wordOf 4 (some .int) ∈ mgood := mgood_in (List.mem_of_getElem? (i := 990) (by decide +kernel)) rfl
theorem kc_X9_lacking : Cond.code yX9_lacking cX9_lacking 3 (some .int) ∈ mgood := mgood_in (List.mem_of_getElem? (i := 986) (by decide +kernel)) rfl
theorem kc_X9_missing : Cond.code yX9_missing cX9_missing 9 (some .int) ∈ mgood := mgood_in (List.mem_of_getElem? (i := 983) (by decide +kernel)) rfl
theorem kc_X9_why : Cond.code yX9_why cX9_why 7 (some .int) ∈ mgood := mgood_in (List.mem_of_getElem? (i := 979) (by decide +kernel)) rfl
theorem kc_X9_isEnd : Cond.code yX9_isEnd cX9_isEnd 4 (some .boolean) ∈ mgood := mgood_in (List.mem_of_getElem? (i := 1006) (by decide +kernel)) rfl
theorem kc_X9_isRowAsked : Cond.code yX9_isRowAsked cX9_isRowAsked 2 (some .boolean) ∈ mgood := mgood_in (List.mem_of_getElem? (i := 952) (by decide +kernel)) rfl
theorem kc_X9_firstStuck : Cond.code yX9_firstStuck cX9_firstStuck 4 (some .int) ∈ mgood := mgood_in (List.mem_of_getElem? (i := 975) (by decide +kernel)) rfl
theorem kc_X9_pairOf : Cond.code yX9_pairOf cX9_pairOf 6 (some .int) ∈ mgood := mgood_in (List.mem_of_getElem? (i := 949) (by decide +kernel)) rfl
theorem kc_X9_counts : Cond.code yX9_counts cX9_counts 9 (some .boolean) ∈ mgood := mgood_in (List.mem_of_getElem? (i := 1014) (by decide +kernel)) rfl
theorem kc_X9_countsAll : Cond.code yX9_countsAll cX9_countsAll 6 (some .boolean) ∈ mgood := mgood_in (List.mem_of_getElem? (i := 1010) (by decide +kernel)) rfl
theorem kc_X9_stuckOnes : Cond.code yX9_stuckOnes cX9_stuckOnes 5 (some .int) ∈ mgood := mgood_in (List.mem_of_getElem? (i := 998) (by decide +kernel)) rfl
theorem kc_X9_ends : Cond.code yX9_ends cX9_ends 5 (some .int) ∈ mgood := mgood_in (List.mem_of_getElem? (i := 1002) (by decide +kernel)) rfl
theorem kc_X9_fewest : Cond.code yX9_fewest cX9_fewest 4 (some .int) ∈ mgood := mgood_in (List.mem_of_getElem? (i := 1020) (by decide +kernel)) rfl
theorem kc_X9_comeTo : Cond.code yX9_comeTo cX9_comeTo 4 (some .int) ∈ mgood := mgood_in (List.mem_of_getElem? (i := 1024) (by decide +kernel)) rfl
theorem kc_X9_talk : Cond.code yX9_talk cX9_talk 4 (some .int) ∈ mgood := mgood_in (List.mem_of_getElem? (i := 994) (by decide +kernel)) rfl
theorem kc_X9_talks : Cond.code yX9_talks cX9_talks 3 (some .long) ∈ mgood := mgood_in (List.mem_of_getElem? (i := 1028) (by decide +kernel)) rfl
theorem kc_X9_wanted : Cond.code yX9_wanted cX9_wanted 7 (some .int) ∈ mgood := mgood_in (List.mem_of_getElem? (i := 1051) (by decide +kernel)) rfl
theorem kc_X9_whyNot : Cond.code yX9_whyNot cX9_whyNot 5 (some .int) ∈ mgood := mgood_in (List.mem_of_getElem? (i := 1047) (by decide +kernel)) rfl
theorem kc_X9_firstAgainst : Cond.code yX9_firstAgainst cX9_firstAgainst 4 (some .int) ∈ mgood := mgood_in (List.mem_of_getElem? (i := 1043) (by decide +kernel)) rfl
theorem kc_X9_canStand : Cond.code yX9_canStand cX9_canStand 3 (some .int) ∈ mgood := mgood_in (List.mem_of_getElem? (i := 1039) (by decide +kernel)) rfl
theorem kc_X9_standsIn : Cond.code yX9_standsIn cX9_standsIn 3 (some .int) ∈ mgood := mgood_in (List.mem_of_getElem? (i := 1035) (by decide +kernel)) rfl
theorem kc_X9_wantedThen : Cond.code yX9_wantedThen cX9_wantedThen 4 (some .int) ∈ mgood := mgood_in (List.mem_of_getElem? (i := 1059) (by decide +kernel)) rfl
theorem kc_X9_against : Cond.code yX9_against cX9_against 5 (some .int) ∈ mgood := mgood_in (List.mem_of_getElem? (i := 1055) (by decide +kernel)) rfl
theorem kc_X9_arrows : Cond.code yX9_arrows cX9_arrows 3 (some .int) ∈ mgood := mgood_in (List.mem_of_getElem? (i := 1067) (by decide +kernel)) rfl
theorem kc_X9_count : Cond.code yX9_count cX9_count 2 (some .int) ∈ mgood := mgood_in (List.mem_of_getElem? (i := 1063) (by decide +kernel)) rfl
theorem kc_X9_undo : Cond.code yX9_undo cX9_undo 2 (some .int) ∈ mgood := mgood_in (List.mem_of_getElem? (i := 1071) (by decide +kernel)) rfl
theorem kc_X9_type : Cond.code yX9_type cX9_type 2 (some .int) ∈ mgood := mgood_in (List.mem_of_getElem? (i := 1075) (by decide +kernel)) rfl
theorem kc_X9_clearText : Cond.code yX9_clearText cX9_clearText 2 (some .int) ∈ mgood := mgood_in (List.mem_of_getElem? (i := 1080) (by decide +kernel)) rfl
theorem kc_X9_takes : Cond.code yX9_takes cX9_takes 4 (some .boolean) ∈ mgood := mgood_in (List.mem_of_getElem? (i := 1096) (by decide +kernel)) rfl
theorem kc_X9_kindTaken : Cond.code yX9_kindTaken cX9_kindTaken 1 (some .int) ∈ mgood := mgood_in (List.mem_of_getElem? (i := 1104) (by decide +kernel)) rfl
theorem kc_X9_takesArrows : Cond.code yX9_takesArrows cX9_takesArrows 1 (some .boolean) ∈ mgood := mgood_in (List.mem_of_getElem? (i := 1108) (by decide +kernel)) rfl
theorem kc_X9_twice : Cond.code yX9_twice cX9_twice 3 (some .int) ∈ mgood := mgood_in (List.mem_of_getElem? (i := 1112) (by decide +kernel)) rfl
theorem kc_X9_breaksOff : Cond.code yX9_breaksOff cX9_breaksOff 1 (some .int) ∈ mgood := mgood_in (List.mem_of_getElem? (i := 1100) (by decide +kernel)) rfl
theorem kc_X9_readState : Cond.code yX9_readState cX9_readState 4 (some .int) ∈ mgood := mgood_in (List.mem_of_getElem? (i := 1092) (by decide +kernel)) rfl
theorem kc_X9_faulty : Cond.code yX9_faulty cX9_faulty 2 (some .int) ∈ mgood := mgood_in (List.mem_of_getElem? (i := 1088) (by decide +kernel)) rfl
theorem kc_X9_fault : Cond.code yX9_fault cX9_fault 3 (some .int) ∈ mgood := mgood_in (List.mem_of_getElem? (i := 1084) (by decide +kernel)) rfl
theorem kc_X9_read : Cond.code yX9_read cX9_read 3 (some .int) ∈ mgood := mgood_in (List.mem_of_getElem? (i := 1116) (by decide +kernel)) rfl
theorem kc_J9_min_f86c9 : Cond.code yJ9_min_f86c9 cJ9_min_f86c9 4 (some .long) ∈ mgood := mgood_in (List.mem_of_getElem? (i := 595) (by decide +kernel)) rfl
theorem wg_259 : Cond.methodLink RX8 66 yX8_isPlan ∈ mgood := mgood_in (w := Cond.methodLink RX8 66 yX8_isPlan) (List.mem_of_getElem? (i := 259) (by decide +kernel)) rfl
theorem wg_260 : Cond.static yX8_isPlan ∈ mgood := mgood_in (w := Cond.static yX8_isPlan) (List.mem_of_getElem? (i := 260) (by decide +kernel)) rfl
theorem wg_53 : Cond.initialized RX8 ∈ mgood := mgood_in (w := Cond.initialized RX8) (List.mem_of_getElem? (i := 53) (by decide +kernel)) rfl
theorem cs_X8_66 : mcS RX8 66 yX8_isPlan (1) := ⟨wg_259, wg_260, wg_53, by decide +kernel⟩
theorem wg_262 : Cond.methodLink RX8 70 yX8_isState ∈ mgood := mgood_in (w := Cond.methodLink RX8 70 yX8_isState) (List.mem_of_getElem? (i := 262) (by decide +kernel)) rfl
theorem wg_90 : Cond.static yX8_isState ∈ mgood := mgood_in (w := Cond.static yX8_isState) (List.mem_of_getElem? (i := 90) (by decide +kernel)) rfl
theorem cs_X8_70 : mcS RX8 70 yX8_isState (1) := ⟨wg_262, wg_90, wg_53, by decide +kernel⟩
theorem wg_263 : Cond.methodLink RX8 73 yX8_isKind ∈ mgood := mgood_in (w := Cond.methodLink RX8 73 yX8_isKind) (List.mem_of_getElem? (i := 263) (by decide +kernel)) rfl
theorem wg_264 : Cond.static yX8_isKind ∈ mgood := mgood_in (w := Cond.static yX8_isKind) (List.mem_of_getElem? (i := 264) (by decide +kernel)) rfl
theorem cs_X8_73 : mcS RX8 73 yX8_isKind (1) := ⟨wg_263, wg_264, wg_53, by decide +kernel⟩
theorem wg_267 : Cond.methodLink RX8 77 yX8_remember ∈ mgood := mgood_in (w := Cond.methodLink RX8 77 yX8_remember) (List.mem_of_getElem? (i := 267) (by decide +kernel)) rfl
theorem wg_269 : Cond.instanceMethod yX8_remember ∈ mgood := mgood_in (w := Cond.instanceMethod yX8_remember) (List.mem_of_getElem? (i := 269) (by decide +kernel)) rfl
theorem wg_0 : Cond.selects RX8 yX8_remember yX8_remember ∈ mgood := mgood_in (w := Cond.selects RX8 yX8_remember yX8_remember) (List.mem_of_getElem? (i := 0) (by decide +kernel)) rfl
theorem cv_X8_77 : mcV RX8 77 yX8_remember 0 := ⟨wg_267, wg_269, wg_0, wg_53, by decide +kernel⟩
theorem wg_283 : Cond.methodLink RX8 80 yX8_planAt ∈ mgood := mgood_in (w := Cond.methodLink RX8 80 yX8_planAt) (List.mem_of_getElem? (i := 283) (by decide +kernel)) rfl
theorem wg_285 : Cond.instanceMethod yX8_planAt ∈ mgood := mgood_in (w := Cond.instanceMethod yX8_planAt) (List.mem_of_getElem? (i := 285) (by decide +kernel)) rfl
theorem wg_1 : Cond.selects RX8 yX8_planAt yX8_planAt ∈ mgood := mgood_in (w := Cond.selects RX8 yX8_planAt yX8_planAt) (List.mem_of_getElem? (i := 1) (by decide +kernel)) rfl
theorem cv_X8_80 : mcV RX8 80 yX8_planAt 1 := ⟨wg_283, wg_285, wg_1, wg_53, by decide +kernel⟩
theorem wg_287 : Cond.methodLink RX8 84 yX3_kindOf ∈ mgood := mgood_in (w := Cond.methodLink RX8 84 yX3_kindOf) (List.mem_of_getElem? (i := 287) (by decide +kernel)) rfl
theorem wg_288 : Cond.instanceMethod yX3_kindOf ∈ mgood := mgood_in (w := Cond.instanceMethod yX3_kindOf) (List.mem_of_getElem? (i := 288) (by decide +kernel)) rfl
theorem wg_289 : Cond.selects RX3 yX3_kindOf yX3_kindOf ∈ mgood := mgood_in (w := Cond.selects RX3 yX3_kindOf yX3_kindOf) (List.mem_of_getElem? (i := 289) (by decide +kernel)) rfl
theorem wg_54 : Cond.initialized RX3 ∈ mgood := mgood_in (w := Cond.initialized RX3) (List.mem_of_getElem? (i := 54) (by decide +kernel)) rfl
theorem cv_X8_84 : mcV RX8 84 yX3_kindOf 1 := ⟨wg_287, wg_288, wg_289, wg_54, by decide +kernel⟩
theorem wg_291 : Cond.methodLink RX8 88 yX3_setKind ∈ mgood := mgood_in (w := Cond.methodLink RX8 88 yX3_setKind) (List.mem_of_getElem? (i := 291) (by decide +kernel)) rfl
theorem wg_86 : Cond.instanceMethod yX3_setKind ∈ mgood := mgood_in (w := Cond.instanceMethod yX3_setKind) (List.mem_of_getElem? (i := 86) (by decide +kernel)) rfl
theorem wg_87 : Cond.selects RX3 yX3_setKind yX3_setKind ∈ mgood := mgood_in (w := Cond.selects RX3 yX3_setKind yX3_setKind) (List.mem_of_getElem? (i := 87) (by decide +kernel)) rfl
theorem cv_X8_88 : mcV RX8 88 yX3_setKind 2 := ⟨wg_291, wg_86, wg_87, wg_54, by decide +kernel⟩
theorem wg_296 : Cond.methodLink RX8 92 yX8_isWord ∈ mgood := mgood_in (w := Cond.methodLink RX8 92 yX8_isWord) (List.mem_of_getElem? (i := 296) (by decide +kernel)) rfl
theorem wg_97 : Cond.static yX8_isWord ∈ mgood := mgood_in (w := Cond.static yX8_isWord) (List.mem_of_getElem? (i := 97) (by decide +kernel)) rfl
theorem cs_X8_92 : mcS RX8 92 yX8_isWord (1) := ⟨wg_296, wg_97, wg_53, by decide +kernel⟩
theorem wg_297 : Cond.methodLink RX8 95 yX3_setTarget ∈ mgood := mgood_in (w := Cond.methodLink RX8 95 yX3_setTarget) (List.mem_of_getElem? (i := 297) (by decide +kernel)) rfl
theorem wg_93 : Cond.instanceMethod yX3_setTarget ∈ mgood := mgood_in (w := Cond.instanceMethod yX3_setTarget) (List.mem_of_getElem? (i := 93) (by decide +kernel)) rfl
theorem wg_94 : Cond.selects RX3 yX3_setTarget yX3_setTarget ∈ mgood := mgood_in (w := Cond.selects RX3 yX3_setTarget yX3_setTarget) (List.mem_of_getElem? (i := 94) (by decide +kernel)) rfl
theorem cv_X8_95 : mcV RX8 95 yX3_setTarget 3 := ⟨wg_297, wg_93, wg_94, wg_54, by decide +kernel⟩
theorem wg_298 : Cond.methodLink RX8 99 yX3_wordsOf ∈ mgood := mgood_in (w := Cond.methodLink RX8 99 yX3_wordsOf) (List.mem_of_getElem? (i := 298) (by decide +kernel)) rfl
theorem wg_299 : Cond.instanceMethod yX3_wordsOf ∈ mgood := mgood_in (w := Cond.instanceMethod yX3_wordsOf) (List.mem_of_getElem? (i := 299) (by decide +kernel)) rfl
theorem wg_300 : Cond.selects RX3 yX3_wordsOf yX3_wordsOf ∈ mgood := mgood_in (w := Cond.selects RX3 yX3_wordsOf yX3_wordsOf) (List.mem_of_getElem? (i := 300) (by decide +kernel)) rfl
theorem cv_X8_99 : mcV RX8 99 yX3_wordsOf 1 := ⟨wg_298, wg_299, wg_300, wg_54, by decide +kernel⟩
theorem wg_306 : Cond.methodLink RX8 102 yJ6_bitCount_0f7a4 ∈ mgood := mgood_in (w := Cond.methodLink RX8 102 yJ6_bitCount_0f7a4) (List.mem_of_getElem? (i := 306) (by decide +kernel)) rfl
theorem wg_307 : Cond.static yJ6_bitCount_0f7a4 ∈ mgood := mgood_in (w := Cond.static yJ6_bitCount_0f7a4) (List.mem_of_getElem? (i := 307) (by decide +kernel)) rfl
theorem wg_64 : Cond.initialized RJ6 ∈ mgood := mgood_in (w := Cond.initialized RJ6) (List.mem_of_getElem? (i := 64) (by decide +kernel)) rfl
theorem cs_X8_102 : mcS RX8 102 yJ6_bitCount_0f7a4 (1) := ⟨wg_306, wg_307, wg_64, by decide +kernel⟩
theorem wg_316 : Cond.methodLink RX8 107 yX3_targetOf ∈ mgood := mgood_in (w := Cond.methodLink RX8 107 yX3_targetOf) (List.mem_of_getElem? (i := 316) (by decide +kernel)) rfl
theorem wg_303 : Cond.instanceMethod yX3_targetOf ∈ mgood := mgood_in (w := Cond.instanceMethod yX3_targetOf) (List.mem_of_getElem? (i := 303) (by decide +kernel)) rfl
theorem wg_304 : Cond.selects RX3 yX3_targetOf yX3_targetOf ∈ mgood := mgood_in (w := Cond.selects RX3 yX3_targetOf yX3_targetOf) (List.mem_of_getElem? (i := 304) (by decide +kernel)) rfl
theorem cv_X8_107 : mcV RX8 107 yX3_targetOf 2 := ⟨wg_316, wg_303, wg_304, wg_54, by decide +kernel⟩
theorem wg_322 : Cond.methodLink RX8 112 yX3_take ∈ mgood := mgood_in (w := Cond.methodLink RX8 112 yX3_take) (List.mem_of_getElem? (i := 322) (by decide +kernel)) rfl
theorem wg_323 : Cond.instanceMethod yX3_take ∈ mgood := mgood_in (w := Cond.instanceMethod yX3_take) (List.mem_of_getElem? (i := 323) (by decide +kernel)) rfl
theorem wg_324 : Cond.selects RX3 yX3_take yX3_take ∈ mgood := mgood_in (w := Cond.selects RX3 yX3_take yX3_take) (List.mem_of_getElem? (i := 324) (by decide +kernel)) rfl
theorem cv_X8_112 : mcV RX8 112 yX3_take 1 := ⟨wg_322, wg_323, wg_324, wg_54, by decide +kernel⟩
theorem wg_326 : Cond.methodLink RX8 115 yX3_lastingStates ∈ mgood := mgood_in (w := Cond.methodLink RX8 115 yX3_lastingStates) (List.mem_of_getElem? (i := 326) (by decide +kernel)) rfl
theorem wg_327 : Cond.instanceMethod yX3_lastingStates ∈ mgood := mgood_in (w := Cond.instanceMethod yX3_lastingStates) (List.mem_of_getElem? (i := 327) (by decide +kernel)) rfl
theorem wg_328 : Cond.selects RX3 yX3_lastingStates yX3_lastingStates ∈ mgood := mgood_in (w := Cond.selects RX3 yX3_lastingStates yX3_lastingStates) (List.mem_of_getElem? (i := 328) (by decide +kernel)) rfl
theorem cv_X8_115 : mcV RX8 115 yX3_lastingStates 0 := ⟨wg_326, wg_327, wg_328, wg_54, by decide +kernel⟩
theorem wg_335 : Cond.methodLink RX8 119 yX3_swapSides ∈ mgood := mgood_in (w := Cond.methodLink RX8 119 yX3_swapSides) (List.mem_of_getElem? (i := 335) (by decide +kernel)) rfl
theorem wg_336 : Cond.instanceMethod yX3_swapSides ∈ mgood := mgood_in (w := Cond.instanceMethod yX3_swapSides) (List.mem_of_getElem? (i := 336) (by decide +kernel)) rfl
theorem wg_337 : Cond.selects RX3 yX3_swapSides yX3_swapSides ∈ mgood := mgood_in (w := Cond.selects RX3 yX3_swapSides yX3_swapSides) (List.mem_of_getElem? (i := 337) (by decide +kernel)) rfl
theorem cv_X8_119 : mcV RX8 119 yX3_swapSides 0 := ⟨wg_335, wg_336, wg_337, wg_54, by decide +kernel⟩
theorem wg_343 : Cond.methodLink RX8 122 yX1_compare ∈ mgood := mgood_in (w := Cond.methodLink RX8 122 yX1_compare) (List.mem_of_getElem? (i := 343) (by decide +kernel)) rfl
theorem wg_344 : Cond.instanceMethod yX1_compare ∈ mgood := mgood_in (w := Cond.instanceMethod yX1_compare) (List.mem_of_getElem? (i := 344) (by decide +kernel)) rfl
theorem wg_345 : Cond.selects RX1 yX1_compare yX1_compare ∈ mgood := mgood_in (w := Cond.selects RX1 yX1_compare yX1_compare) (List.mem_of_getElem? (i := 345) (by decide +kernel)) rfl
theorem wg_57 : Cond.initialized RX1 ∈ mgood := mgood_in (w := Cond.initialized RX1) (List.mem_of_getElem? (i := 57) (by decide +kernel)) rfl
theorem cv_X8_122 : mcV RX8 122 yX1_compare 1 := ⟨wg_343, wg_344, wg_345, wg_57, by decide +kernel⟩
theorem wg_366 : Cond.methodLink RX8 125 yX1_lowestAlike ∈ mgood := mgood_in (w := Cond.methodLink RX8 125 yX1_lowestAlike) (List.mem_of_getElem? (i := 366) (by decide +kernel)) rfl
theorem wg_367 : Cond.instanceMethod yX1_lowestAlike ∈ mgood := mgood_in (w := Cond.instanceMethod yX1_lowestAlike) (List.mem_of_getElem? (i := 367) (by decide +kernel)) rfl
theorem wg_368 : Cond.selects RX1 yX1_lowestAlike yX1_lowestAlike ∈ mgood := mgood_in (w := Cond.selects RX1 yX1_lowestAlike yX1_lowestAlike) (List.mem_of_getElem? (i := 368) (by decide +kernel)) rfl
theorem cv_X8_125 : mcV RX8 125 yX1_lowestAlike 1 := ⟨wg_366, wg_367, wg_368, wg_57, by decide +kernel⟩
theorem wg_370 : Cond.methodLink RX8 128 yX3_comesTo ∈ mgood := mgood_in (w := Cond.methodLink RX8 128 yX3_comesTo) (List.mem_of_getElem? (i := 370) (by decide +kernel)) rfl
theorem wg_371 : Cond.instanceMethod yX3_comesTo ∈ mgood := mgood_in (w := Cond.instanceMethod yX3_comesTo) (List.mem_of_getElem? (i := 371) (by decide +kernel)) rfl
theorem wg_372 : Cond.selects RX3 yX3_comesTo yX3_comesTo ∈ mgood := mgood_in (w := Cond.selects RX3 yX3_comesTo yX3_comesTo) (List.mem_of_getElem? (i := 372) (by decide +kernel)) rfl
theorem cv_X8_128 : mcV RX8 128 yX3_comesTo 1 := ⟨wg_370, wg_371, wg_372, wg_54, by decide +kernel⟩
theorem wg_381 : Cond.methodLink RX8 131 yX8_foundOr ∈ mgood := mgood_in (w := Cond.methodLink RX8 131 yX8_foundOr) (List.mem_of_getElem? (i := 381) (by decide +kernel)) rfl
theorem wg_382 : Cond.static yX8_foundOr ∈ mgood := mgood_in (w := Cond.static yX8_foundOr) (List.mem_of_getElem? (i := 382) (by decide +kernel)) rfl
theorem cs_X8_131 : mcS RX8 131 yX8_foundOr (1) := ⟨wg_381, wg_382, wg_53, by decide +kernel⟩
theorem wg_389 : Cond.methodLink RX8 134 yX8_holds ∈ mgood := mgood_in (w := Cond.methodLink RX8 134 yX8_holds) (List.mem_of_getElem? (i := 389) (by decide +kernel)) rfl
theorem wg_375 : Cond.static yX8_holds ∈ mgood := mgood_in (w := Cond.static yX8_holds) (List.mem_of_getElem? (i := 375) (by decide +kernel)) rfl
theorem cs_X8_134 : mcS RX8 134 yX8_holds (2) := ⟨wg_389, wg_375, wg_53, by decide +kernel⟩
theorem wg_394 : Cond.methodLink RX8 138 yX8_isPairQuestion ∈ mgood := mgood_in (w := Cond.methodLink RX8 138 yX8_isPairQuestion) (List.mem_of_getElem? (i := 394) (by decide +kernel)) rfl
theorem wg_395 : Cond.static yX8_isPairQuestion ∈ mgood := mgood_in (w := Cond.static yX8_isPairQuestion) (List.mem_of_getElem? (i := 395) (by decide +kernel)) rfl
theorem cs_X8_138 : mcS RX8 138 yX8_isPairQuestion (1) := ⟨wg_394, wg_395, wg_53, by decide +kernel⟩
theorem wg_397 : Cond.methodLink RX8 141 ⟨"MirroredTalks$TalkPairs", "walk", "(LMirroredTalks$Plan;LMirroredTalks$Plan;)V"⟩ ∈ mgood := mgood_in (w := Cond.methodLink RX8 141 ⟨"MirroredTalks$TalkPairs", "walk", "(LMirroredTalks$Plan;LMirroredTalks$Plan;)V"⟩) (List.mem_of_getElem? (i := 397) (by decide +kernel)) rfl
theorem wg_398 : Cond.sameMethod "MirroredTalks$TalkPairs" "MirroredTalks$Pairs" "walk" "(LMirroredTalks$Plan;LMirroredTalks$Plan;)V" ∈ mgood := mgood_in (w := Cond.sameMethod "MirroredTalks$TalkPairs" "MirroredTalks$Pairs" "walk" "(LMirroredTalks$Plan;LMirroredTalks$Plan;)V") (List.mem_of_getElem? (i := 398) (by decide +kernel)) rfl
theorem wg_400 : Cond.selects RX7 ⟨"MirroredTalks$TalkPairs", "walk", "(LMirroredTalks$Plan;LMirroredTalks$Plan;)V"⟩ yX2_walk ∈ mgood := mgood_in (w := Cond.selects RX7 ⟨"MirroredTalks$TalkPairs", "walk", "(LMirroredTalks$Plan;LMirroredTalks$Plan;)V"⟩ yX2_walk) (List.mem_of_getElem? (i := 400) (by decide +kernel)) rfl
theorem wg_401 : Cond.instanceMethod yX2_walk ∈ mgood := mgood_in (w := Cond.instanceMethod yX2_walk) (List.mem_of_getElem? (i := 401) (by decide +kernel)) rfl
theorem wg_58 : Cond.initialized RX2 ∈ mgood := mgood_in (w := Cond.initialized RX2) (List.mem_of_getElem? (i := 58) (by decide +kernel)) rfl
theorem cu_X8_141_X7 : mcU RX8 141 RX7 "MirroredTalks$Pairs" ⟨"MirroredTalks$TalkPairs", "walk", "(LMirroredTalks$Plan;LMirroredTalks$Plan;)V"⟩ yX2_walk 2 := ⟨List.forall_mem_cons.mpr ⟨wg_397, List.forall_mem_cons.mpr ⟨wg_398, List.forall_mem_cons.mpr ⟨wg_400, List.forall_mem_cons.mpr ⟨wg_401, List.forall_mem_cons.mpr ⟨wg_58, fun _ h => absurd h List.not_mem_nil⟩⟩⟩⟩⟩, Or.inl rfl, by decide +kernel⟩
theorem wg_446 : Cond.methodLink RX8 145 ⟨"MirroredTalks$TalkPairs", "firstFaulty", "()I"⟩ ∈ mgood := mgood_in (w := Cond.methodLink RX8 145 ⟨"MirroredTalks$TalkPairs", "firstFaulty", "()I"⟩) (List.mem_of_getElem? (i := 446) (by decide +kernel)) rfl
theorem wg_447 : Cond.sameMethod "MirroredTalks$TalkPairs" "MirroredTalks$Pairs" "firstFaulty" "()I" ∈ mgood := mgood_in (w := Cond.sameMethod "MirroredTalks$TalkPairs" "MirroredTalks$Pairs" "firstFaulty" "()I") (List.mem_of_getElem? (i := 447) (by decide +kernel)) rfl
theorem wg_449 : Cond.selects RX7 ⟨"MirroredTalks$TalkPairs", "firstFaulty", "()I"⟩ yX2_firstFaulty ∈ mgood := mgood_in (w := Cond.selects RX7 ⟨"MirroredTalks$TalkPairs", "firstFaulty", "()I"⟩ yX2_firstFaulty) (List.mem_of_getElem? (i := 449) (by decide +kernel)) rfl
theorem wg_450 : Cond.instanceMethod yX2_firstFaulty ∈ mgood := mgood_in (w := Cond.instanceMethod yX2_firstFaulty) (List.mem_of_getElem? (i := 450) (by decide +kernel)) rfl
theorem cu_X8_145_X7 : mcU RX8 145 RX7 "MirroredTalks$Pairs" ⟨"MirroredTalks$TalkPairs", "firstFaulty", "()I"⟩ yX2_firstFaulty 0 := ⟨List.forall_mem_cons.mpr ⟨wg_446, List.forall_mem_cons.mpr ⟨wg_447, List.forall_mem_cons.mpr ⟨wg_449, List.forall_mem_cons.mpr ⟨wg_450, List.forall_mem_cons.mpr ⟨wg_58, fun _ h => absurd h List.not_mem_nil⟩⟩⟩⟩⟩, Or.inl rfl, by decide +kernel⟩
theorem wg_474 : Cond.methodLink RX8 148 ⟨"MirroredTalks$TalkPairs", "has", "(I)Z"⟩ ∈ mgood := mgood_in (w := Cond.methodLink RX8 148 ⟨"MirroredTalks$TalkPairs", "has", "(I)Z"⟩) (List.mem_of_getElem? (i := 474) (by decide +kernel)) rfl
theorem wg_475 : Cond.sameMethod "MirroredTalks$TalkPairs" "MirroredTalks$Pairs" "has" "(I)Z" ∈ mgood := mgood_in (w := Cond.sameMethod "MirroredTalks$TalkPairs" "MirroredTalks$Pairs" "has" "(I)Z") (List.mem_of_getElem? (i := 475) (by decide +kernel)) rfl
theorem wg_477 : Cond.selects RX7 ⟨"MirroredTalks$TalkPairs", "has", "(I)Z"⟩ yX2_has ∈ mgood := mgood_in (w := Cond.selects RX7 ⟨"MirroredTalks$TalkPairs", "has", "(I)Z"⟩ yX2_has) (List.mem_of_getElem? (i := 477) (by decide +kernel)) rfl
theorem wg_478 : Cond.instanceMethod yX2_has ∈ mgood := mgood_in (w := Cond.instanceMethod yX2_has) (List.mem_of_getElem? (i := 478) (by decide +kernel)) rfl
theorem cu_X8_148_X7 : mcU RX8 148 RX7 "MirroredTalks$Pairs" ⟨"MirroredTalks$TalkPairs", "has", "(I)Z"⟩ yX2_has 1 := ⟨List.forall_mem_cons.mpr ⟨wg_474, List.forall_mem_cons.mpr ⟨wg_475, List.forall_mem_cons.mpr ⟨wg_477, List.forall_mem_cons.mpr ⟨wg_478, List.forall_mem_cons.mpr ⟨wg_58, fun _ h => absurd h List.not_mem_nil⟩⟩⟩⟩⟩, Or.inl rfl, by decide +kernel⟩
theorem wg_480 : Cond.methodLink RX8 152 ⟨"MirroredTalks$TalkPairs", "stateOfOne", "(I)I"⟩ ∈ mgood := mgood_in (w := Cond.methodLink RX8 152 ⟨"MirroredTalks$TalkPairs", "stateOfOne", "(I)I"⟩) (List.mem_of_getElem? (i := 480) (by decide +kernel)) rfl
theorem wg_481 : Cond.sameMethod "MirroredTalks$TalkPairs" "MirroredTalks$Pairs" "stateOfOne" "(I)I" ∈ mgood := mgood_in (w := Cond.sameMethod "MirroredTalks$TalkPairs" "MirroredTalks$Pairs" "stateOfOne" "(I)I") (List.mem_of_getElem? (i := 481) (by decide +kernel)) rfl
theorem wg_483 : Cond.selects RX7 ⟨"MirroredTalks$TalkPairs", "stateOfOne", "(I)I"⟩ yX2_stateOfOne ∈ mgood := mgood_in (w := Cond.selects RX7 ⟨"MirroredTalks$TalkPairs", "stateOfOne", "(I)I"⟩ yX2_stateOfOne) (List.mem_of_getElem? (i := 483) (by decide +kernel)) rfl
theorem wg_415 : Cond.instanceMethod yX2_stateOfOne ∈ mgood := mgood_in (w := Cond.instanceMethod yX2_stateOfOne) (List.mem_of_getElem? (i := 415) (by decide +kernel)) rfl
theorem cu_X8_152_X7 : mcU RX8 152 RX7 "MirroredTalks$Pairs" ⟨"MirroredTalks$TalkPairs", "stateOfOne", "(I)I"⟩ yX2_stateOfOne 1 := ⟨List.forall_mem_cons.mpr ⟨wg_480, List.forall_mem_cons.mpr ⟨wg_481, List.forall_mem_cons.mpr ⟨wg_483, List.forall_mem_cons.mpr ⟨wg_415, List.forall_mem_cons.mpr ⟨wg_58, fun _ h => absurd h List.not_mem_nil⟩⟩⟩⟩⟩, Or.inl rfl, by decide +kernel⟩
theorem wg_484 : Cond.methodLink RX8 155 ⟨"MirroredTalks$TalkPairs", "stateOfOther", "(I)I"⟩ ∈ mgood := mgood_in (w := Cond.methodLink RX8 155 ⟨"MirroredTalks$TalkPairs", "stateOfOther", "(I)I"⟩) (List.mem_of_getElem? (i := 484) (by decide +kernel)) rfl
theorem wg_485 : Cond.sameMethod "MirroredTalks$TalkPairs" "MirroredTalks$Pairs" "stateOfOther" "(I)I" ∈ mgood := mgood_in (w := Cond.sameMethod "MirroredTalks$TalkPairs" "MirroredTalks$Pairs" "stateOfOther" "(I)I") (List.mem_of_getElem? (i := 485) (by decide +kernel)) rfl
theorem wg_487 : Cond.selects RX7 ⟨"MirroredTalks$TalkPairs", "stateOfOther", "(I)I"⟩ yX2_stateOfOther ∈ mgood := mgood_in (w := Cond.selects RX7 ⟨"MirroredTalks$TalkPairs", "stateOfOther", "(I)I"⟩ yX2_stateOfOther) (List.mem_of_getElem? (i := 487) (by decide +kernel)) rfl
theorem wg_424 : Cond.instanceMethod yX2_stateOfOther ∈ mgood := mgood_in (w := Cond.instanceMethod yX2_stateOfOther) (List.mem_of_getElem? (i := 424) (by decide +kernel)) rfl
theorem cu_X8_155_X7 : mcU RX8 155 RX7 "MirroredTalks$Pairs" ⟨"MirroredTalks$TalkPairs", "stateOfOther", "(I)I"⟩ yX2_stateOfOther 1 := ⟨List.forall_mem_cons.mpr ⟨wg_484, List.forall_mem_cons.mpr ⟨wg_485, List.forall_mem_cons.mpr ⟨wg_487, List.forall_mem_cons.mpr ⟨wg_424, List.forall_mem_cons.mpr ⟨wg_58, fun _ h => absurd h List.not_mem_nil⟩⟩⟩⟩⟩, Or.inl rfl, by decide +kernel⟩
theorem wg_488 : Cond.methodLink RX8 158 ⟨"MirroredTalks$TalkPairs", "lengthOf", "(I)I"⟩ ∈ mgood := mgood_in (w := Cond.methodLink RX8 158 ⟨"MirroredTalks$TalkPairs", "lengthOf", "(I)I"⟩) (List.mem_of_getElem? (i := 488) (by decide +kernel)) rfl
theorem wg_489 : Cond.sameMethod "MirroredTalks$TalkPairs" "MirroredTalks$Pairs" "lengthOf" "(I)I" ∈ mgood := mgood_in (w := Cond.sameMethod "MirroredTalks$TalkPairs" "MirroredTalks$Pairs" "lengthOf" "(I)I") (List.mem_of_getElem? (i := 489) (by decide +kernel)) rfl
theorem wg_491 : Cond.selects RX7 ⟨"MirroredTalks$TalkPairs", "lengthOf", "(I)I"⟩ yX2_lengthOf ∈ mgood := mgood_in (w := Cond.selects RX7 ⟨"MirroredTalks$TalkPairs", "lengthOf", "(I)I"⟩ yX2_lengthOf) (List.mem_of_getElem? (i := 491) (by decide +kernel)) rfl
theorem wg_441 : Cond.instanceMethod yX2_lengthOf ∈ mgood := mgood_in (w := Cond.instanceMethod yX2_lengthOf) (List.mem_of_getElem? (i := 441) (by decide +kernel)) rfl
theorem cu_X8_158_X7 : mcU RX8 158 RX7 "MirroredTalks$Pairs" ⟨"MirroredTalks$TalkPairs", "lengthOf", "(I)I"⟩ yX2_lengthOf 1 := ⟨List.forall_mem_cons.mpr ⟨wg_488, List.forall_mem_cons.mpr ⟨wg_489, List.forall_mem_cons.mpr ⟨wg_491, List.forall_mem_cons.mpr ⟨wg_441, List.forall_mem_cons.mpr ⟨wg_58, fun _ h => absurd h List.not_mem_nil⟩⟩⟩⟩⟩, Or.inl rfl, by decide +kernel⟩
theorem wg_492 : Cond.methodLink RX8 161 ⟨"MirroredTalks$TalkPairs", "tellMore", "(II)I"⟩ ∈ mgood := mgood_in (w := Cond.methodLink RX8 161 ⟨"MirroredTalks$TalkPairs", "tellMore", "(II)I"⟩) (List.mem_of_getElem? (i := 492) (by decide +kernel)) rfl
theorem wg_493 : Cond.sameMethod "MirroredTalks$TalkPairs" "MirroredTalks$Pairs" "tellMore" "(II)I" ∈ mgood := mgood_in (w := Cond.sameMethod "MirroredTalks$TalkPairs" "MirroredTalks$Pairs" "tellMore" "(II)I") (List.mem_of_getElem? (i := 493) (by decide +kernel)) rfl
theorem wg_495 : Cond.selects RX7 ⟨"MirroredTalks$TalkPairs", "tellMore", "(II)I"⟩ yX2_tellMore ∈ mgood := mgood_in (w := Cond.selects RX7 ⟨"MirroredTalks$TalkPairs", "tellMore", "(II)I"⟩ yX2_tellMore) (List.mem_of_getElem? (i := 495) (by decide +kernel)) rfl
theorem wg_496 : Cond.instanceMethod yX2_tellMore ∈ mgood := mgood_in (w := Cond.instanceMethod yX2_tellMore) (List.mem_of_getElem? (i := 496) (by decide +kernel)) rfl
theorem cu_X8_161_X7 : mcU RX8 161 RX7 "MirroredTalks$Pairs" ⟨"MirroredTalks$TalkPairs", "tellMore", "(II)I"⟩ yX2_tellMore 2 := ⟨List.forall_mem_cons.mpr ⟨wg_492, List.forall_mem_cons.mpr ⟨wg_493, List.forall_mem_cons.mpr ⟨wg_495, List.forall_mem_cons.mpr ⟨wg_496, List.forall_mem_cons.mpr ⟨wg_58, fun _ h => absurd h List.not_mem_nil⟩⟩⟩⟩⟩, Or.inl rfl, by decide +kernel⟩
theorem wg_527 : Cond.methodLink RX8 164 ⟨"MirroredTalks$TalkPairs", "size", "()I"⟩ ∈ mgood := mgood_in (w := Cond.methodLink RX8 164 ⟨"MirroredTalks$TalkPairs", "size", "()I"⟩) (List.mem_of_getElem? (i := 527) (by decide +kernel)) rfl
theorem wg_528 : Cond.sameMethod "MirroredTalks$TalkPairs" "MirroredTalks$Pairs" "size" "()I" ∈ mgood := mgood_in (w := Cond.sameMethod "MirroredTalks$TalkPairs" "MirroredTalks$Pairs" "size" "()I") (List.mem_of_getElem? (i := 528) (by decide +kernel)) rfl
theorem wg_530 : Cond.selects RX7 ⟨"MirroredTalks$TalkPairs", "size", "()I"⟩ yX2_size ∈ mgood := mgood_in (w := Cond.selects RX7 ⟨"MirroredTalks$TalkPairs", "size", "()I"⟩ yX2_size) (List.mem_of_getElem? (i := 530) (by decide +kernel)) rfl
theorem wg_531 : Cond.instanceMethod yX2_size ∈ mgood := mgood_in (w := Cond.instanceMethod yX2_size) (List.mem_of_getElem? (i := 531) (by decide +kernel)) rfl
theorem cu_X8_164_X7 : mcU RX8 164 RX7 "MirroredTalks$Pairs" ⟨"MirroredTalks$TalkPairs", "size", "()I"⟩ yX2_size 0 := ⟨List.forall_mem_cons.mpr ⟨wg_527, List.forall_mem_cons.mpr ⟨wg_528, List.forall_mem_cons.mpr ⟨wg_530, List.forall_mem_cons.mpr ⟨wg_531, List.forall_mem_cons.mpr ⟨wg_58, fun _ h => absurd h List.not_mem_nil⟩⟩⟩⟩⟩, Or.inl rfl, by decide +kernel⟩
theorem wg_533 : Cond.methodLink RX8 167 yX7_stuckPairs ∈ mgood := mgood_in (w := Cond.methodLink RX8 167 yX7_stuckPairs) (List.mem_of_getElem? (i := 533) (by decide +kernel)) rfl
theorem wg_534 : Cond.instanceMethod yX7_stuckPairs ∈ mgood := mgood_in (w := Cond.instanceMethod yX7_stuckPairs) (List.mem_of_getElem? (i := 534) (by decide +kernel)) rfl
theorem wg_535 : Cond.selects RX7 yX7_stuckPairs yX7_stuckPairs ∈ mgood := mgood_in (w := Cond.selects RX7 yX7_stuckPairs yX7_stuckPairs) (List.mem_of_getElem? (i := 535) (by decide +kernel)) rfl
theorem wg_59 : Cond.initialized RX7 ∈ mgood := mgood_in (w := Cond.initialized RX7) (List.mem_of_getElem? (i := 59) (by decide +kernel)) rfl
theorem cv_X8_167 : mcV RX8 167 yX7_stuckPairs 0 := ⟨wg_533, wg_534, wg_535, wg_59, by decide +kernel⟩
theorem wg_542 : Cond.methodLink RX8 170 yX7_ends ∈ mgood := mgood_in (w := Cond.methodLink RX8 170 yX7_ends) (List.mem_of_getElem? (i := 542) (by decide +kernel)) rfl
theorem wg_543 : Cond.instanceMethod yX7_ends ∈ mgood := mgood_in (w := Cond.instanceMethod yX7_ends) (List.mem_of_getElem? (i := 543) (by decide +kernel)) rfl
theorem wg_544 : Cond.selects RX7 yX7_ends yX7_ends ∈ mgood := mgood_in (w := Cond.selects RX7 yX7_ends yX7_ends) (List.mem_of_getElem? (i := 544) (by decide +kernel)) rfl
theorem cv_X8_170 : mcV RX8 170 yX7_ends 0 := ⟨wg_542, wg_543, wg_544, wg_59, by decide +kernel⟩
theorem wg_558 : Cond.methodLink RX8 173 yX5_rowsToEnds ∈ mgood := mgood_in (w := Cond.methodLink RX8 173 yX5_rowsToEnds) (List.mem_of_getElem? (i := 558) (by decide +kernel)) rfl
theorem wg_559 : Cond.instanceMethod yX5_rowsToEnds ∈ mgood := mgood_in (w := Cond.instanceMethod yX5_rowsToEnds) (List.mem_of_getElem? (i := 559) (by decide +kernel)) rfl
theorem wg_560 : Cond.selects RX5 yX5_rowsToEnds yX5_rowsToEnds ∈ mgood := mgood_in (w := Cond.selects RX5 yX5_rowsToEnds yX5_rowsToEnds) (List.mem_of_getElem? (i := 560) (by decide +kernel)) rfl
theorem wg_60 : Cond.initialized RX5 ∈ mgood := mgood_in (w := Cond.initialized RX5) (List.mem_of_getElem? (i := 60) (by decide +kernel)) rfl
theorem cv_X8_173 : mcV RX8 173 yX5_rowsToEnds 1 := ⟨wg_558, wg_559, wg_560, wg_60, by decide +kernel⟩
theorem wg_602 : Cond.methodLink RX8 179 yX7_fewestWordsToEnd ∈ mgood := mgood_in (w := Cond.methodLink RX8 179 yX7_fewestWordsToEnd) (List.mem_of_getElem? (i := 602) (by decide +kernel)) rfl
theorem wg_603 : Cond.instanceMethod yX7_fewestWordsToEnd ∈ mgood := mgood_in (w := Cond.instanceMethod yX7_fewestWordsToEnd) (List.mem_of_getElem? (i := 603) (by decide +kernel)) rfl
theorem wg_604 : Cond.selects RX7 yX7_fewestWordsToEnd yX7_fewestWordsToEnd ∈ mgood := mgood_in (w := Cond.selects RX7 yX7_fewestWordsToEnd yX7_fewestWordsToEnd) (List.mem_of_getElem? (i := 604) (by decide +kernel)) rfl
theorem cv_X8_179 : mcV RX8 179 yX7_fewestWordsToEnd 0 := ⟨wg_602, wg_603, wg_604, wg_59, by decide +kernel⟩
theorem wg_607 : Cond.methodLink RX8 182 yX7_statesOfOne ∈ mgood := mgood_in (w := Cond.methodLink RX8 182 yX7_statesOfOne) (List.mem_of_getElem? (i := 607) (by decide +kernel)) rfl
theorem wg_608 : Cond.instanceMethod yX7_statesOfOne ∈ mgood := mgood_in (w := Cond.instanceMethod yX7_statesOfOne) (List.mem_of_getElem? (i := 608) (by decide +kernel)) rfl
theorem wg_609 : Cond.selects RX7 yX7_statesOfOne yX7_statesOfOne ∈ mgood := mgood_in (w := Cond.selects RX7 yX7_statesOfOne yX7_statesOfOne) (List.mem_of_getElem? (i := 609) (by decide +kernel)) rfl
theorem cv_X8_182 : mcV RX8 182 yX7_statesOfOne 0 := ⟨wg_607, wg_608, wg_609, wg_59, by decide +kernel⟩
theorem wg_612 : Cond.methodLink RX8 185 yX7_statesOfOther ∈ mgood := mgood_in (w := Cond.methodLink RX8 185 yX7_statesOfOther) (List.mem_of_getElem? (i := 612) (by decide +kernel)) rfl
theorem wg_613 : Cond.instanceMethod yX7_statesOfOther ∈ mgood := mgood_in (w := Cond.instanceMethod yX7_statesOfOther) (List.mem_of_getElem? (i := 613) (by decide +kernel)) rfl
theorem wg_614 : Cond.selects RX7 yX7_statesOfOther yX7_statesOfOther ∈ mgood := mgood_in (w := Cond.selects RX7 yX7_statesOfOther yX7_statesOfOther) (List.mem_of_getElem? (i := 614) (by decide +kernel)) rfl
theorem cv_X8_185 : mcV RX8 185 yX7_statesOfOther 0 := ⟨wg_612, wg_613, wg_614, wg_59, by decide +kernel⟩
theorem wg_629 : Cond.methodLink RX8 196 ⟨"MirroredTalks$StandInPairs", "walk", "(LMirroredTalks$Plan;LMirroredTalks$Plan;)V"⟩ ∈ mgood := mgood_in (w := Cond.methodLink RX8 196 ⟨"MirroredTalks$StandInPairs", "walk", "(LMirroredTalks$Plan;LMirroredTalks$Plan;)V"⟩) (List.mem_of_getElem? (i := 629) (by decide +kernel)) rfl
theorem wg_630 : Cond.sameMethod "MirroredTalks$StandInPairs" "MirroredTalks$Pairs" "walk" "(LMirroredTalks$Plan;LMirroredTalks$Plan;)V" ∈ mgood := mgood_in (w := Cond.sameMethod "MirroredTalks$StandInPairs" "MirroredTalks$Pairs" "walk" "(LMirroredTalks$Plan;LMirroredTalks$Plan;)V") (List.mem_of_getElem? (i := 630) (by decide +kernel)) rfl
theorem wg_631 : Cond.selects RX6 ⟨"MirroredTalks$StandInPairs", "walk", "(LMirroredTalks$Plan;LMirroredTalks$Plan;)V"⟩ yX2_walk ∈ mgood := mgood_in (w := Cond.selects RX6 ⟨"MirroredTalks$StandInPairs", "walk", "(LMirroredTalks$Plan;LMirroredTalks$Plan;)V"⟩ yX2_walk) (List.mem_of_getElem? (i := 631) (by decide +kernel)) rfl
theorem cu_X8_196_X6 : mcU RX8 196 RX6 "MirroredTalks$Pairs" ⟨"MirroredTalks$StandInPairs", "walk", "(LMirroredTalks$Plan;LMirroredTalks$Plan;)V"⟩ yX2_walk 2 := ⟨List.forall_mem_cons.mpr ⟨wg_629, List.forall_mem_cons.mpr ⟨wg_630, List.forall_mem_cons.mpr ⟨wg_631, List.forall_mem_cons.mpr ⟨wg_401, List.forall_mem_cons.mpr ⟨wg_58, fun _ h => absurd h List.not_mem_nil⟩⟩⟩⟩⟩, Or.inl rfl, by decide +kernel⟩
theorem wg_632 : Cond.methodLink RX8 197 ⟨"MirroredTalks$StandInPairs", "firstFaulty", "()I"⟩ ∈ mgood := mgood_in (w := Cond.methodLink RX8 197 ⟨"MirroredTalks$StandInPairs", "firstFaulty", "()I"⟩) (List.mem_of_getElem? (i := 632) (by decide +kernel)) rfl
theorem wg_633 : Cond.sameMethod "MirroredTalks$StandInPairs" "MirroredTalks$Pairs" "firstFaulty" "()I" ∈ mgood := mgood_in (w := Cond.sameMethod "MirroredTalks$StandInPairs" "MirroredTalks$Pairs" "firstFaulty" "()I") (List.mem_of_getElem? (i := 633) (by decide +kernel)) rfl
theorem wg_634 : Cond.selects RX6 ⟨"MirroredTalks$StandInPairs", "firstFaulty", "()I"⟩ yX2_firstFaulty ∈ mgood := mgood_in (w := Cond.selects RX6 ⟨"MirroredTalks$StandInPairs", "firstFaulty", "()I"⟩ yX2_firstFaulty) (List.mem_of_getElem? (i := 634) (by decide +kernel)) rfl
theorem cu_X8_197_X6 : mcU RX8 197 RX6 "MirroredTalks$Pairs" ⟨"MirroredTalks$StandInPairs", "firstFaulty", "()I"⟩ yX2_firstFaulty 0 := ⟨List.forall_mem_cons.mpr ⟨wg_632, List.forall_mem_cons.mpr ⟨wg_633, List.forall_mem_cons.mpr ⟨wg_634, List.forall_mem_cons.mpr ⟨wg_450, List.forall_mem_cons.mpr ⟨wg_58, fun _ h => absurd h List.not_mem_nil⟩⟩⟩⟩⟩, Or.inl rfl, by decide +kernel⟩
theorem wg_639 : Cond.methodLink RX8 198 ⟨"MirroredTalks$StandInPairs", "has", "(I)Z"⟩ ∈ mgood := mgood_in (w := Cond.methodLink RX8 198 ⟨"MirroredTalks$StandInPairs", "has", "(I)Z"⟩) (List.mem_of_getElem? (i := 639) (by decide +kernel)) rfl
theorem wg_640 : Cond.sameMethod "MirroredTalks$StandInPairs" "MirroredTalks$Pairs" "has" "(I)Z" ∈ mgood := mgood_in (w := Cond.sameMethod "MirroredTalks$StandInPairs" "MirroredTalks$Pairs" "has" "(I)Z") (List.mem_of_getElem? (i := 640) (by decide +kernel)) rfl
theorem wg_641 : Cond.selects RX6 ⟨"MirroredTalks$StandInPairs", "has", "(I)Z"⟩ yX2_has ∈ mgood := mgood_in (w := Cond.selects RX6 ⟨"MirroredTalks$StandInPairs", "has", "(I)Z"⟩ yX2_has) (List.mem_of_getElem? (i := 641) (by decide +kernel)) rfl
theorem cu_X8_198_X6 : mcU RX8 198 RX6 "MirroredTalks$Pairs" ⟨"MirroredTalks$StandInPairs", "has", "(I)Z"⟩ yX2_has 1 := ⟨List.forall_mem_cons.mpr ⟨wg_639, List.forall_mem_cons.mpr ⟨wg_640, List.forall_mem_cons.mpr ⟨wg_641, List.forall_mem_cons.mpr ⟨wg_478, List.forall_mem_cons.mpr ⟨wg_58, fun _ h => absurd h List.not_mem_nil⟩⟩⟩⟩⟩, Or.inl rfl, by decide +kernel⟩
theorem wg_642 : Cond.methodLink RX8 199 ⟨"MirroredTalks$StandInPairs", "lengthOf", "(I)I"⟩ ∈ mgood := mgood_in (w := Cond.methodLink RX8 199 ⟨"MirroredTalks$StandInPairs", "lengthOf", "(I)I"⟩) (List.mem_of_getElem? (i := 642) (by decide +kernel)) rfl
theorem wg_643 : Cond.sameMethod "MirroredTalks$StandInPairs" "MirroredTalks$Pairs" "lengthOf" "(I)I" ∈ mgood := mgood_in (w := Cond.sameMethod "MirroredTalks$StandInPairs" "MirroredTalks$Pairs" "lengthOf" "(I)I") (List.mem_of_getElem? (i := 643) (by decide +kernel)) rfl
theorem wg_644 : Cond.selects RX6 ⟨"MirroredTalks$StandInPairs", "lengthOf", "(I)I"⟩ yX2_lengthOf ∈ mgood := mgood_in (w := Cond.selects RX6 ⟨"MirroredTalks$StandInPairs", "lengthOf", "(I)I"⟩ yX2_lengthOf) (List.mem_of_getElem? (i := 644) (by decide +kernel)) rfl
theorem cu_X8_199_X6 : mcU RX8 199 RX6 "MirroredTalks$Pairs" ⟨"MirroredTalks$StandInPairs", "lengthOf", "(I)I"⟩ yX2_lengthOf 1 := ⟨List.forall_mem_cons.mpr ⟨wg_642, List.forall_mem_cons.mpr ⟨wg_643, List.forall_mem_cons.mpr ⟨wg_644, List.forall_mem_cons.mpr ⟨wg_441, List.forall_mem_cons.mpr ⟨wg_58, fun _ h => absurd h List.not_mem_nil⟩⟩⟩⟩⟩, Or.inl rfl, by decide +kernel⟩
theorem wg_645 : Cond.methodLink RX8 200 ⟨"MirroredTalks$StandInPairs", "stateOfOne", "(I)I"⟩ ∈ mgood := mgood_in (w := Cond.methodLink RX8 200 ⟨"MirroredTalks$StandInPairs", "stateOfOne", "(I)I"⟩) (List.mem_of_getElem? (i := 645) (by decide +kernel)) rfl
theorem wg_646 : Cond.sameMethod "MirroredTalks$StandInPairs" "MirroredTalks$Pairs" "stateOfOne" "(I)I" ∈ mgood := mgood_in (w := Cond.sameMethod "MirroredTalks$StandInPairs" "MirroredTalks$Pairs" "stateOfOne" "(I)I") (List.mem_of_getElem? (i := 646) (by decide +kernel)) rfl
theorem wg_647 : Cond.selects RX6 ⟨"MirroredTalks$StandInPairs", "stateOfOne", "(I)I"⟩ yX2_stateOfOne ∈ mgood := mgood_in (w := Cond.selects RX6 ⟨"MirroredTalks$StandInPairs", "stateOfOne", "(I)I"⟩ yX2_stateOfOne) (List.mem_of_getElem? (i := 647) (by decide +kernel)) rfl
theorem cu_X8_200_X6 : mcU RX8 200 RX6 "MirroredTalks$Pairs" ⟨"MirroredTalks$StandInPairs", "stateOfOne", "(I)I"⟩ yX2_stateOfOne 1 := ⟨List.forall_mem_cons.mpr ⟨wg_645, List.forall_mem_cons.mpr ⟨wg_646, List.forall_mem_cons.mpr ⟨wg_647, List.forall_mem_cons.mpr ⟨wg_415, List.forall_mem_cons.mpr ⟨wg_58, fun _ h => absurd h List.not_mem_nil⟩⟩⟩⟩⟩, Or.inl rfl, by decide +kernel⟩
theorem wg_648 : Cond.methodLink RX8 201 ⟨"MirroredTalks$StandInPairs", "stateOfOther", "(I)I"⟩ ∈ mgood := mgood_in (w := Cond.methodLink RX8 201 ⟨"MirroredTalks$StandInPairs", "stateOfOther", "(I)I"⟩) (List.mem_of_getElem? (i := 648) (by decide +kernel)) rfl
theorem wg_649 : Cond.sameMethod "MirroredTalks$StandInPairs" "MirroredTalks$Pairs" "stateOfOther" "(I)I" ∈ mgood := mgood_in (w := Cond.sameMethod "MirroredTalks$StandInPairs" "MirroredTalks$Pairs" "stateOfOther" "(I)I") (List.mem_of_getElem? (i := 649) (by decide +kernel)) rfl
theorem wg_650 : Cond.selects RX6 ⟨"MirroredTalks$StandInPairs", "stateOfOther", "(I)I"⟩ yX2_stateOfOther ∈ mgood := mgood_in (w := Cond.selects RX6 ⟨"MirroredTalks$StandInPairs", "stateOfOther", "(I)I"⟩ yX2_stateOfOther) (List.mem_of_getElem? (i := 650) (by decide +kernel)) rfl
theorem cu_X8_201_X6 : mcU RX8 201 RX6 "MirroredTalks$Pairs" ⟨"MirroredTalks$StandInPairs", "stateOfOther", "(I)I"⟩ yX2_stateOfOther 1 := ⟨List.forall_mem_cons.mpr ⟨wg_648, List.forall_mem_cons.mpr ⟨wg_649, List.forall_mem_cons.mpr ⟨wg_650, List.forall_mem_cons.mpr ⟨wg_424, List.forall_mem_cons.mpr ⟨wg_58, fun _ h => absurd h List.not_mem_nil⟩⟩⟩⟩⟩, Or.inl rfl, by decide +kernel⟩
theorem wg_651 : Cond.methodLink RX8 202 ⟨"MirroredTalks$StandInPairs", "tellMore", "(II)I"⟩ ∈ mgood := mgood_in (w := Cond.methodLink RX8 202 ⟨"MirroredTalks$StandInPairs", "tellMore", "(II)I"⟩) (List.mem_of_getElem? (i := 651) (by decide +kernel)) rfl
theorem wg_652 : Cond.sameMethod "MirroredTalks$StandInPairs" "MirroredTalks$Pairs" "tellMore" "(II)I" ∈ mgood := mgood_in (w := Cond.sameMethod "MirroredTalks$StandInPairs" "MirroredTalks$Pairs" "tellMore" "(II)I") (List.mem_of_getElem? (i := 652) (by decide +kernel)) rfl
theorem wg_653 : Cond.selects RX6 ⟨"MirroredTalks$StandInPairs", "tellMore", "(II)I"⟩ yX2_tellMore ∈ mgood := mgood_in (w := Cond.selects RX6 ⟨"MirroredTalks$StandInPairs", "tellMore", "(II)I"⟩ yX2_tellMore) (List.mem_of_getElem? (i := 653) (by decide +kernel)) rfl
theorem cu_X8_202_X6 : mcU RX8 202 RX6 "MirroredTalks$Pairs" ⟨"MirroredTalks$StandInPairs", "tellMore", "(II)I"⟩ yX2_tellMore 2 := ⟨List.forall_mem_cons.mpr ⟨wg_651, List.forall_mem_cons.mpr ⟨wg_652, List.forall_mem_cons.mpr ⟨wg_653, List.forall_mem_cons.mpr ⟨wg_496, List.forall_mem_cons.mpr ⟨wg_58, fun _ h => absurd h List.not_mem_nil⟩⟩⟩⟩⟩, Or.inl rfl, by decide +kernel⟩
theorem wg_658 : Cond.methodLink RX8 203 yX8_standsIn ∈ mgood := mgood_in (w := Cond.methodLink RX8 203 yX8_standsIn) (List.mem_of_getElem? (i := 658) (by decide +kernel)) rfl
theorem wg_626 : Cond.instanceMethod yX8_standsIn ∈ mgood := mgood_in (w := Cond.instanceMethod yX8_standsIn) (List.mem_of_getElem? (i := 626) (by decide +kernel)) rfl
theorem wg_627 : Cond.selects RX8 yX8_standsIn yX8_standsIn ∈ mgood := mgood_in (w := Cond.selects RX8 yX8_standsIn yX8_standsIn) (List.mem_of_getElem? (i := 627) (by decide +kernel)) rfl
theorem cv_X8_203 : mcV RX8 203 yX8_standsIn 2 := ⟨wg_658, wg_626, wg_627, wg_53, by decide +kernel⟩
theorem wg_659 : Cond.methodLink RX8 206 yX3_arrows ∈ mgood := mgood_in (w := Cond.methodLink RX8 206 yX3_arrows) (List.mem_of_getElem? (i := 659) (by decide +kernel)) rfl
theorem wg_660 : Cond.instanceMethod yX3_arrows ∈ mgood := mgood_in (w := Cond.instanceMethod yX3_arrows) (List.mem_of_getElem? (i := 660) (by decide +kernel)) rfl
theorem wg_661 : Cond.selects RX3 yX3_arrows yX3_arrows ∈ mgood := mgood_in (w := Cond.selects RX3 yX3_arrows yX3_arrows) (List.mem_of_getElem? (i := 661) (by decide +kernel)) rfl
theorem cv_X8_206 : mcV RX8 206 yX3_arrows 0 := ⟨wg_659, wg_660, wg_661, wg_54, by decide +kernel⟩
theorem wg_665 : Cond.methodLink RX8 209 yX0_size ∈ mgood := mgood_in (w := Cond.methodLink RX8 209 yX0_size) (List.mem_of_getElem? (i := 665) (by decide +kernel)) rfl
theorem wg_666 : Cond.instanceMethod yX0_size ∈ mgood := mgood_in (w := Cond.instanceMethod yX0_size) (List.mem_of_getElem? (i := 666) (by decide +kernel)) rfl
theorem wg_667 : Cond.selects RX0 yX0_size yX0_size ∈ mgood := mgood_in (w := Cond.selects RX0 yX0_size yX0_size) (List.mem_of_getElem? (i := 667) (by decide +kernel)) rfl
theorem wg_55 : Cond.initialized RX0 ∈ mgood := mgood_in (w := Cond.initialized RX0) (List.mem_of_getElem? (i := 55) (by decide +kernel)) rfl
theorem cv_X8_209 : mcV RX8 209 yX0_size 0 := ⟨wg_665, wg_666, wg_667, wg_55, by decide +kernel⟩
theorem wg_669 : Cond.methodLink RX8 210 yX4_length ∈ mgood := mgood_in (w := Cond.methodLink RX8 210 yX4_length) (List.mem_of_getElem? (i := 669) (by decide +kernel)) rfl
theorem wg_670 : Cond.instanceMethod yX4_length ∈ mgood := mgood_in (w := Cond.instanceMethod yX4_length) (List.mem_of_getElem? (i := 670) (by decide +kernel)) rfl
theorem wg_671 : Cond.selects RX4 yX4_length yX4_length ∈ mgood := mgood_in (w := Cond.selects RX4 yX4_length yX4_length) (List.mem_of_getElem? (i := 671) (by decide +kernel)) rfl
theorem wg_56 : Cond.initialized RX4 ∈ mgood := mgood_in (w := Cond.initialized RX4) (List.mem_of_getElem? (i := 56) (by decide +kernel)) rfl
theorem cv_X8_210 : mcV RX8 210 yX4_length 0 := ⟨wg_669, wg_670, wg_671, wg_56, by decide +kernel⟩
theorem wg_677 : Cond.methodLink RX8 213 yX0_restore ∈ mgood := mgood_in (w := Cond.methodLink RX8 213 yX0_restore) (List.mem_of_getElem? (i := 677) (by decide +kernel)) rfl
theorem wg_678 : Cond.instanceMethod yX0_restore ∈ mgood := mgood_in (w := Cond.instanceMethod yX0_restore) (List.mem_of_getElem? (i := 678) (by decide +kernel)) rfl
theorem wg_679 : Cond.selects RX0 yX0_restore yX0_restore ∈ mgood := mgood_in (w := Cond.selects RX0 yX0_restore yX0_restore) (List.mem_of_getElem? (i := 679) (by decide +kernel)) rfl
theorem cv_X8_213 : mcV RX8 213 yX0_restore 3 := ⟨wg_677, wg_678, wg_679, wg_55, by decide +kernel⟩
theorem wg_689 : Cond.methodLink RX8 217 yX4_isFull ∈ mgood := mgood_in (w := Cond.methodLink RX8 217 yX4_isFull) (List.mem_of_getElem? (i := 689) (by decide +kernel)) rfl
theorem wg_690 : Cond.instanceMethod yX4_isFull ∈ mgood := mgood_in (w := Cond.instanceMethod yX4_isFull) (List.mem_of_getElem? (i := 690) (by decide +kernel)) rfl
theorem wg_691 : Cond.selects RX4 yX4_isFull yX4_isFull ∈ mgood := mgood_in (w := Cond.selects RX4 yX4_isFull yX4_isFull) (List.mem_of_getElem? (i := 691) (by decide +kernel)) rfl
theorem cv_X8_217 : mcV RX8 217 yX4_isFull 0 := ⟨wg_689, wg_690, wg_691, wg_56, by decide +kernel⟩
theorem wg_694 : Cond.methodLink RX8 222 yX4_append ∈ mgood := mgood_in (w := Cond.methodLink RX8 222 yX4_append) (List.mem_of_getElem? (i := 694) (by decide +kernel)) rfl
theorem wg_695 : Cond.instanceMethod yX4_append ∈ mgood := mgood_in (w := Cond.instanceMethod yX4_append) (List.mem_of_getElem? (i := 695) (by decide +kernel)) rfl
theorem wg_696 : Cond.selects RX4 yX4_append yX4_append ∈ mgood := mgood_in (w := Cond.selects RX4 yX4_append yX4_append) (List.mem_of_getElem? (i := 696) (by decide +kernel)) rfl
theorem cv_X8_222 : mcV RX8 222 yX4_append 1 := ⟨wg_694, wg_695, wg_696, wg_56, by decide +kernel⟩
theorem wg_702 : Cond.methodLink RX8 226 yX4_clear ∈ mgood := mgood_in (w := Cond.methodLink RX8 226 yX4_clear) (List.mem_of_getElem? (i := 702) (by decide +kernel)) rfl
theorem wg_703 : Cond.instanceMethod yX4_clear ∈ mgood := mgood_in (w := Cond.instanceMethod yX4_clear) (List.mem_of_getElem? (i := 703) (by decide +kernel)) rfl
theorem wg_704 : Cond.selects RX4 yX4_clear yX4_clear ∈ mgood := mgood_in (w := Cond.selects RX4 yX4_clear yX4_clear) (List.mem_of_getElem? (i := 704) (by decide +kernel)) rfl
theorem cv_X8_226 : mcV RX8 226 yX4_clear 0 := ⟨wg_702, wg_703, wg_704, wg_56, by decide +kernel⟩
theorem wg_710 : Cond.methodLink RX8 229 yX4_parse ∈ mgood := mgood_in (w := Cond.methodLink RX8 229 yX4_parse) (List.mem_of_getElem? (i := 710) (by decide +kernel)) rfl
theorem wg_711 : Cond.instanceMethod yX4_parse ∈ mgood := mgood_in (w := Cond.instanceMethod yX4_parse) (List.mem_of_getElem? (i := 711) (by decide +kernel)) rfl
theorem wg_712 : Cond.selects RX4 yX4_parse yX4_parse ∈ mgood := mgood_in (w := Cond.selects RX4 yX4_parse yX4_parse) (List.mem_of_getElem? (i := 712) (by decide +kernel)) rfl
theorem cv_X8_229 : mcV RX8 229 yX4_parse 0 := ⟨wg_710, wg_711, wg_712, wg_56, by decide +kernel⟩
theorem wg_741 : Cond.methodLink RX8 232 yX4_isFaulty ∈ mgood := mgood_in (w := Cond.methodLink RX8 232 yX4_isFaulty) (List.mem_of_getElem? (i := 741) (by decide +kernel)) rfl
theorem wg_720 : Cond.instanceMethod yX4_isFaulty ∈ mgood := mgood_in (w := Cond.instanceMethod yX4_isFaulty) (List.mem_of_getElem? (i := 720) (by decide +kernel)) rfl
theorem wg_721 : Cond.selects RX4 yX4_isFaulty yX4_isFaulty ∈ mgood := mgood_in (w := Cond.selects RX4 yX4_isFaulty yX4_isFaulty) (List.mem_of_getElem? (i := 721) (by decide +kernel)) rfl
theorem cv_X8_232 : mcV RX8 232 yX4_isFaulty 0 := ⟨wg_741, wg_720, wg_721, wg_56, by decide +kernel⟩
theorem wg_742 : Cond.methodLink RX8 235 yX4_faultPosition ∈ mgood := mgood_in (w := Cond.methodLink RX8 235 yX4_faultPosition) (List.mem_of_getElem? (i := 742) (by decide +kernel)) rfl
theorem wg_743 : Cond.instanceMethod yX4_faultPosition ∈ mgood := mgood_in (w := Cond.instanceMethod yX4_faultPosition) (List.mem_of_getElem? (i := 743) (by decide +kernel)) rfl
theorem wg_744 : Cond.selects RX4 yX4_faultPosition yX4_faultPosition ∈ mgood := mgood_in (w := Cond.selects RX4 yX4_faultPosition yX4_faultPosition) (List.mem_of_getElem? (i := 744) (by decide +kernel)) rfl
theorem cv_X8_235 : mcV RX8 235 yX4_faultPosition 0 := ⟨wg_742, wg_743, wg_744, wg_56, by decide +kernel⟩
theorem wg_746 : Cond.methodLink RX8 238 yX4_faultReason ∈ mgood := mgood_in (w := Cond.methodLink RX8 238 yX4_faultReason) (List.mem_of_getElem? (i := 746) (by decide +kernel)) rfl
theorem wg_747 : Cond.instanceMethod yX4_faultReason ∈ mgood := mgood_in (w := Cond.instanceMethod yX4_faultReason) (List.mem_of_getElem? (i := 747) (by decide +kernel)) rfl
theorem wg_748 : Cond.selects RX4 yX4_faultReason yX4_faultReason ∈ mgood := mgood_in (w := Cond.selects RX4 yX4_faultReason yX4_faultReason) (List.mem_of_getElem? (i := 748) (by decide +kernel)) rfl
theorem cv_X8_238 : mcV RX8 238 yX4_faultReason 0 := ⟨wg_746, wg_747, wg_748, wg_56, by decide +kernel⟩
theorem wg_750 : Cond.methodLink RX8 241 yX4_faultCause ∈ mgood := mgood_in (w := Cond.methodLink RX8 241 yX4_faultCause) (List.mem_of_getElem? (i := 750) (by decide +kernel)) rfl
theorem wg_751 : Cond.instanceMethod yX4_faultCause ∈ mgood := mgood_in (w := Cond.instanceMethod yX4_faultCause) (List.mem_of_getElem? (i := 751) (by decide +kernel)) rfl
theorem wg_752 : Cond.selects RX4 yX4_faultCause yX4_faultCause ∈ mgood := mgood_in (w := Cond.selects RX4 yX4_faultCause yX4_faultCause) (List.mem_of_getElem? (i := 752) (by decide +kernel)) rfl
theorem cv_X8_241 : mcV RX8 241 yX4_faultCause 0 := ⟨wg_750, wg_751, wg_752, wg_56, by decide +kernel⟩
theorem wg_758 : Cond.methodLink RX8 244 yX4_draft ∈ mgood := mgood_in (w := Cond.methodLink RX8 244 yX4_draft) (List.mem_of_getElem? (i := 758) (by decide +kernel)) rfl
theorem wg_759 : Cond.instanceMethod yX4_draft ∈ mgood := mgood_in (w := Cond.instanceMethod yX4_draft) (List.mem_of_getElem? (i := 759) (by decide +kernel)) rfl
theorem wg_760 : Cond.selects RX4 yX4_draft yX4_draft ∈ mgood := mgood_in (w := Cond.selects RX4 yX4_draft yX4_draft) (List.mem_of_getElem? (i := 760) (by decide +kernel)) rfl
theorem cv_X8_244 : mcV RX8 244 yX4_draft 0 := ⟨wg_758, wg_759, wg_760, wg_56, by decide +kernel⟩
theorem wg_762 : Cond.methodLink RX8 248 yX4_toldStates ∈ mgood := mgood_in (w := Cond.methodLink RX8 248 yX4_toldStates) (List.mem_of_getElem? (i := 762) (by decide +kernel)) rfl
theorem wg_763 : Cond.instanceMethod yX4_toldStates ∈ mgood := mgood_in (w := Cond.instanceMethod yX4_toldStates) (List.mem_of_getElem? (i := 763) (by decide +kernel)) rfl
theorem wg_764 : Cond.selects RX4 yX4_toldStates yX4_toldStates ∈ mgood := mgood_in (w := Cond.selects RX4 yX4_toldStates yX4_toldStates) (List.mem_of_getElem? (i := 764) (by decide +kernel)) rfl
theorem cv_X8_248 : mcV RX8 248 yX4_toldStates 0 := ⟨wg_762, wg_763, wg_764, wg_56, by decide +kernel⟩
theorem wg_271 : Cond.methodLink RX8 251 yX0_record ∈ mgood := mgood_in (w := Cond.methodLink RX8 251 yX0_record) (List.mem_of_getElem? (i := 271) (by decide +kernel)) rfl
theorem wg_272 : Cond.instanceMethod yX0_record ∈ mgood := mgood_in (w := Cond.instanceMethod yX0_record) (List.mem_of_getElem? (i := 272) (by decide +kernel)) rfl
theorem wg_273 : Cond.selects RX0 yX0_record yX0_record ∈ mgood := mgood_in (w := Cond.selects RX0 yX0_record yX0_record) (List.mem_of_getElem? (i := 273) (by decide +kernel)) rfl
theorem cv_X8_251 : mcV RX8 251 yX0_record 3 := ⟨wg_271, wg_272, wg_273, wg_55, by decide +kernel⟩
theorem wg_857 : Cond.methodLink RX9 59 yX9_in ∈ mgood := mgood_in (w := Cond.methodLink RX9 59 yX9_in) (List.mem_of_getElem? (i := 857) (by decide +kernel)) rfl
theorem wg_858 : Cond.static yX9_in ∈ mgood := mgood_in (w := Cond.static yX9_in) (List.mem_of_getElem? (i := 858) (by decide +kernel)) rfl
theorem wg_62 : Cond.initialized RX9 ∈ mgood := mgood_in (w := Cond.initialized RX9) (List.mem_of_getElem? (i := 62) (by decide +kernel)) rfl
theorem cs_X9_59 : mcS RX9 59 yX9_in (3) := ⟨wg_857, wg_858, wg_62, by decide +kernel⟩
theorem wg_879 : Cond.methodLink RX9 63 yX9_placeOf ∈ mgood := mgood_in (w := Cond.methodLink RX9 63 yX9_placeOf) (List.mem_of_getElem? (i := 879) (by decide +kernel)) rfl
theorem wg_880 : Cond.static yX9_placeOf ∈ mgood := mgood_in (w := Cond.static yX9_placeOf) (List.mem_of_getElem? (i := 880) (by decide +kernel)) rfl
theorem cs_X9_63 : mcS RX9 63 yX9_placeOf (3) := ⟨wg_879, wg_880, wg_62, by decide +kernel⟩
theorem wg_868 : Cond.methodLink RX9 67 yX9_kindOf ∈ mgood := mgood_in (w := Cond.methodLink RX9 67 yX9_kindOf) (List.mem_of_getElem? (i := 868) (by decide +kernel)) rfl
theorem wg_870 : Cond.instanceMethod yX9_kindOf ∈ mgood := mgood_in (w := Cond.instanceMethod yX9_kindOf) (List.mem_of_getElem? (i := 870) (by decide +kernel)) rfl
theorem wg_14 : Cond.selects RX9 yX9_kindOf yX9_kindOf ∈ mgood := mgood_in (w := Cond.selects RX9 yX9_kindOf yX9_kindOf) (List.mem_of_getElem? (i := 14) (by decide +kernel)) rfl
theorem cv_X9_67 : mcV RX9 67 yX9_kindOf 2 := ⟨wg_868, wg_870, wg_14, wg_62, by decide +kernel⟩
theorem wg_886 : Cond.methodLink RX9 71 yX9_led ∈ mgood := mgood_in (w := Cond.methodLink RX9 71 yX9_led) (List.mem_of_getElem? (i := 886) (by decide +kernel)) rfl
theorem wg_888 : Cond.instanceMethod yX9_led ∈ mgood := mgood_in (w := Cond.instanceMethod yX9_led) (List.mem_of_getElem? (i := 888) (by decide +kernel)) rfl
theorem wg_16 : Cond.selects RX9 yX9_led yX9_led ∈ mgood := mgood_in (w := Cond.selects RX9 yX9_led yX9_led) (List.mem_of_getElem? (i := 16) (by decide +kernel)) rfl
theorem cv_X9_71 : mcV RX9 71 yX9_led 3 := ⟨wg_886, wg_888, wg_16, wg_62, by decide +kernel⟩
theorem wg_854 : Cond.methodLink RX9 74 yX9_isPlan ∈ mgood := mgood_in (w := Cond.methodLink RX9 74 yX9_isPlan) (List.mem_of_getElem? (i := 854) (by decide +kernel)) rfl
theorem wg_855 : Cond.static yX9_isPlan ∈ mgood := mgood_in (w := Cond.static yX9_isPlan) (List.mem_of_getElem? (i := 855) (by decide +kernel)) rfl
theorem cs_X9_74 : mcS RX9 74 yX9_isPlan (1) := ⟨wg_854, wg_855, wg_62, by decide +kernel⟩
theorem wg_860 : Cond.methodLink RX9 78 yX9_isState ∈ mgood := mgood_in (w := Cond.methodLink RX9 78 yX9_isState) (List.mem_of_getElem? (i := 860) (by decide +kernel)) rfl
theorem wg_861 : Cond.static yX9_isState ∈ mgood := mgood_in (w := Cond.static yX9_isState) (List.mem_of_getElem? (i := 861) (by decide +kernel)) rfl
theorem cs_X9_78 : mcS RX9 78 yX9_isState (1) := ⟨wg_860, wg_861, wg_62, by decide +kernel⟩
theorem wg_864 : Cond.methodLink RX9 82 yX9_records ∈ mgood := mgood_in (w := Cond.methodLink RX9 82 yX9_records) (List.mem_of_getElem? (i := 864) (by decide +kernel)) rfl
theorem wg_866 : Cond.instanceMethod yX9_records ∈ mgood := mgood_in (w := Cond.instanceMethod yX9_records) (List.mem_of_getElem? (i := 866) (by decide +kernel)) rfl
theorem wg_13 : Cond.selects RX9 yX9_records yX9_records ∈ mgood := mgood_in (w := Cond.selects RX9 yX9_records yX9_records) (List.mem_of_getElem? (i := 13) (by decide +kernel)) rfl
theorem cv_X9_82 : mcV RX9 82 yX9_records 0 := ⟨wg_864, wg_866, wg_13, wg_62, by decide +kernel⟩
theorem wg_876 : Cond.methodLink RX9 85 yX9_isWord ∈ mgood := mgood_in (w := Cond.methodLink RX9 85 yX9_isWord) (List.mem_of_getElem? (i := 876) (by decide +kernel)) rfl
theorem wg_877 : Cond.static yX9_isWord ∈ mgood := mgood_in (w := Cond.static yX9_isWord) (List.mem_of_getElem? (i := 877) (by decide +kernel)) rfl
theorem cs_X9_85 : mcS RX9 85 yX9_isWord (1) := ⟨wg_876, wg_877, wg_62, by decide +kernel⟩
theorem wg_882 : Cond.methodLink RX9 88 yX9_words ∈ mgood := mgood_in (w := Cond.methodLink RX9 88 yX9_words) (List.mem_of_getElem? (i := 882) (by decide +kernel)) rfl
theorem wg_884 : Cond.instanceMethod yX9_words ∈ mgood := mgood_in (w := Cond.instanceMethod yX9_words) (List.mem_of_getElem? (i := 884) (by decide +kernel)) rfl
theorem wg_15 : Cond.selects RX9 yX9_words yX9_words ∈ mgood := mgood_in (w := Cond.selects RX9 yX9_words yX9_words) (List.mem_of_getElem? (i := 15) (by decide +kernel)) rfl
theorem cv_X9_88 : mcV RX9 88 yX9_words 2 := ⟨wg_882, wg_884, wg_15, wg_62, by decide +kernel⟩
theorem wg_890 : Cond.methodLink RX9 91 yX9_bits ∈ mgood := mgood_in (w := Cond.methodLink RX9 91 yX9_bits) (List.mem_of_getElem? (i := 890) (by decide +kernel)) rfl
theorem wg_891 : Cond.static yX9_bits ∈ mgood := mgood_in (w := Cond.static yX9_bits) (List.mem_of_getElem? (i := 891) (by decide +kernel)) rfl
theorem cs_X9_91 : mcS RX9 91 yX9_bits (1) := ⟨wg_890, wg_891, wg_62, by decide +kernel⟩
theorem wg_902 : Cond.methodLink RX9 96 yX9_going ∈ mgood := mgood_in (w := Cond.methodLink RX9 96 yX9_going) (List.mem_of_getElem? (i := 902) (by decide +kernel)) rfl
theorem wg_904 : Cond.instanceMethod yX9_going ∈ mgood := mgood_in (w := Cond.instanceMethod yX9_going) (List.mem_of_getElem? (i := 904) (by decide +kernel)) rfl
theorem wg_17 : Cond.selects RX9 yX9_going yX9_going ∈ mgood := mgood_in (w := Cond.selects RX9 yX9_going yX9_going) (List.mem_of_getElem? (i := 17) (by decide +kernel)) rfl
theorem cv_X9_96 : mcV RX9 96 yX9_going 1 := ⟨wg_902, wg_904, wg_17, wg_62, by decide +kernel⟩
theorem wg_930 : Cond.methodLink RX9 99 yX9_leads ∈ mgood := mgood_in (w := Cond.methodLink RX9 99 yX9_leads) (List.mem_of_getElem? (i := 930) (by decide +kernel)) rfl
theorem wg_932 : Cond.instanceMethod yX9_leads ∈ mgood := mgood_in (w := Cond.instanceMethod yX9_leads) (List.mem_of_getElem? (i := 932) (by decide +kernel)) rfl
theorem wg_22 : Cond.selects RX9 yX9_leads yX9_leads ∈ mgood := mgood_in (w := Cond.selects RX9 yX9_leads yX9_leads) (List.mem_of_getElem? (i := 22) (by decide +kernel)) rfl
theorem cv_X9_99 : mcV RX9 99 yX9_leads 3 := ⟨wg_930, wg_932, wg_22, wg_62, by decide +kernel⟩
theorem wg_922 : Cond.methodLink RX9 102 yX9_haveSame ∈ mgood := mgood_in (w := Cond.methodLink RX9 102 yX9_haveSame) (List.mem_of_getElem? (i := 922) (by decide +kernel)) rfl
theorem wg_924 : Cond.instanceMethod yX9_haveSame ∈ mgood := mgood_in (w := Cond.instanceMethod yX9_haveSame) (List.mem_of_getElem? (i := 924) (by decide +kernel)) rfl
theorem wg_20 : Cond.selects RX9 yX9_haveSame yX9_haveSame ∈ mgood := mgood_in (w := Cond.selects RX9 yX9_haveSame yX9_haveSame) (List.mem_of_getElem? (i := 20) (by decide +kernel)) rfl
theorem cv_X9_102 : mcV RX9 102 yX9_haveSame 3 := ⟨wg_922, wg_924, wg_20, wg_62, by decide +kernel⟩
theorem wg_926 : Cond.methodLink RX9 105 yX9_leadAlike ∈ mgood := mgood_in (w := Cond.methodLink RX9 105 yX9_leadAlike) (List.mem_of_getElem? (i := 926) (by decide +kernel)) rfl
theorem wg_928 : Cond.instanceMethod yX9_leadAlike ∈ mgood := mgood_in (w := Cond.instanceMethod yX9_leadAlike) (List.mem_of_getElem? (i := 928) (by decide +kernel)) rfl
theorem wg_21 : Cond.selects RX9 yX9_leadAlike yX9_leadAlike ∈ mgood := mgood_in (w := Cond.selects RX9 yX9_leadAlike yX9_leadAlike) (List.mem_of_getElem? (i := 21) (by decide +kernel)) rfl
theorem cv_X9_105 : mcV RX9 105 yX9_leadAlike 3 := ⟨wg_926, wg_928, wg_21, wg_62, by decide +kernel⟩
theorem wg_918 : Cond.methodLink RX9 108 yX9_findAlike ∈ mgood := mgood_in (w := Cond.methodLink RX9 108 yX9_findAlike) (List.mem_of_getElem? (i := 918) (by decide +kernel)) rfl
theorem wg_920 : Cond.instanceMethod yX9_findAlike ∈ mgood := mgood_in (w := Cond.instanceMethod yX9_findAlike) (List.mem_of_getElem? (i := 920) (by decide +kernel)) rfl
theorem wg_19 : Cond.selects RX9 yX9_findAlike yX9_findAlike ∈ mgood := mgood_in (w := Cond.selects RX9 yX9_findAlike yX9_findAlike) (List.mem_of_getElem? (i := 19) (by decide +kernel)) rfl
theorem cv_X9_108 : mcV RX9 108 yX9_findAlike 1 := ⟨wg_918, wg_920, wg_19, wg_62, by decide +kernel⟩
theorem wg_934 : Cond.methodLink RX9 112 yX9_lowest ∈ mgood := mgood_in (w := Cond.methodLink RX9 112 yX9_lowest) (List.mem_of_getElem? (i := 934) (by decide +kernel)) rfl
theorem wg_935 : Cond.static yX9_lowest ∈ mgood := mgood_in (w := Cond.static yX9_lowest) (List.mem_of_getElem? (i := 935) (by decide +kernel)) rfl
theorem cs_X9_112 : mcS RX9 112 yX9_lowest (1) := ⟨wg_934, wg_935, wg_62, by decide +kernel⟩
theorem wg_914 : Cond.methodLink RX9 115 yX9_alikeTo ∈ mgood := mgood_in (w := Cond.methodLink RX9 115 yX9_alikeTo) (List.mem_of_getElem? (i := 914) (by decide +kernel)) rfl
theorem wg_916 : Cond.instanceMethod yX9_alikeTo ∈ mgood := mgood_in (w := Cond.instanceMethod yX9_alikeTo) (List.mem_of_getElem? (i := 916) (by decide +kernel)) rfl
theorem wg_18 : Cond.selects RX9 yX9_alikeTo yX9_alikeTo ∈ mgood := mgood_in (w := Cond.selects RX9 yX9_alikeTo yX9_alikeTo) (List.mem_of_getElem? (i := 18) (by decide +kernel)) rfl
theorem cv_X9_115 : mcV RX9 115 yX9_alikeTo 2 := ⟨wg_914, wg_916, wg_18, wg_62, by decide +kernel⟩
theorem wg_937 : Cond.methodLink RX9 118 yX9_reached ∈ mgood := mgood_in (w := Cond.methodLink RX9 118 yX9_reached) (List.mem_of_getElem? (i := 937) (by decide +kernel)) rfl
theorem wg_939 : Cond.instanceMethod yX9_reached ∈ mgood := mgood_in (w := Cond.instanceMethod yX9_reached) (List.mem_of_getElem? (i := 939) (by decide +kernel)) rfl
theorem wg_23 : Cond.selects RX9 yX9_reached yX9_reached ∈ mgood := mgood_in (w := Cond.selects RX9 yX9_reached yX9_reached) (List.mem_of_getElem? (i := 23) (by decide +kernel)) rfl
theorem cv_X9_118 : mcV RX9 118 yX9_reached 2 := ⟨wg_937, wg_939, wg_23, wg_62, by decide +kernel⟩
theorem wg_965 : Cond.methodLink RX9 125 yX9_together ∈ mgood := mgood_in (w := Cond.methodLink RX9 125 yX9_together) (List.mem_of_getElem? (i := 965) (by decide +kernel)) rfl
theorem wg_966 : Cond.static yX9_together ∈ mgood := mgood_in (w := Cond.static yX9_together) (List.mem_of_getElem? (i := 966) (by decide +kernel)) rfl
theorem cs_X9_125 : mcS RX9 125 yX9_together (3) := ⟨wg_965, wg_966, wg_62, by decide +kernel⟩
theorem wg_968 : Cond.methodLink RX9 129 yX9_behind ∈ mgood := mgood_in (w := Cond.methodLink RX9 129 yX9_behind) (List.mem_of_getElem? (i := 968) (by decide +kernel)) rfl
theorem wg_970 : Cond.instanceMethod yX9_behind ∈ mgood := mgood_in (w := Cond.instanceMethod yX9_behind) (List.mem_of_getElem? (i := 970) (by decide +kernel)) rfl
theorem wg_27 : Cond.selects RX9 yX9_behind yX9_behind ∈ mgood := mgood_in (w := Cond.selects RX9 yX9_behind yX9_behind) (List.mem_of_getElem? (i := 27) (by decide +kernel)) rfl
theorem cv_X9_129 : mcV RX9 129 yX9_behind 4 := ⟨wg_968, wg_970, wg_27, wg_62, by decide +kernel⟩
theorem wg_957 : Cond.methodLink RX9 133 yX9_finds ∈ mgood := mgood_in (w := Cond.methodLink RX9 133 yX9_finds) (List.mem_of_getElem? (i := 957) (by decide +kernel)) rfl
theorem wg_959 : Cond.instanceMethod yX9_finds ∈ mgood := mgood_in (w := Cond.instanceMethod yX9_finds) (List.mem_of_getElem? (i := 959) (by decide +kernel)) rfl
theorem wg_25 : Cond.selects RX9 yX9_finds yX9_finds ∈ mgood := mgood_in (w := Cond.selects RX9 yX9_finds yX9_finds) (List.mem_of_getElem? (i := 25) (by decide +kernel)) rfl
theorem cv_X9_133 : mcV RX9 133 yX9_finds 3 := ⟨wg_957, wg_959, wg_25, wg_62, by decide +kernel⟩
theorem wg_961 : Cond.methodLink RX9 137 yX9_follows ∈ mgood := mgood_in (w := Cond.methodLink RX9 137 yX9_follows) (List.mem_of_getElem? (i := 961) (by decide +kernel)) rfl
theorem wg_963 : Cond.instanceMethod yX9_follows ∈ mgood := mgood_in (w := Cond.instanceMethod yX9_follows) (List.mem_of_getElem? (i := 963) (by decide +kernel)) rfl
theorem wg_26 : Cond.selects RX9 yX9_follows yX9_follows ∈ mgood := mgood_in (w := Cond.selects RX9 yX9_follows yX9_follows) (List.mem_of_getElem? (i := 26) (by decide +kernel)) rfl
theorem cv_X9_137 : mcV RX9 137 yX9_follows 5 := ⟨wg_961, wg_963, wg_26, wg_62, by decide +kernel⟩
theorem wg_984 : Cond.methodLink RX9 141 yX9_lacking ∈ mgood := mgood_in (w := Cond.methodLink RX9 141 yX9_lacking) (List.mem_of_getElem? (i := 984) (by decide +kernel)) rfl
theorem wg_985 : Cond.static yX9_lacking ∈ mgood := mgood_in (w := Cond.static yX9_lacking) (List.mem_of_getElem? (i := 985) (by decide +kernel)) rfl
theorem cs_X9_141 : mcS RX9 141 yX9_lacking (2) := ⟨wg_984, wg_985, wg_62, by decide +kernel⟩
theorem wg_980 : Cond.methodLink RX9 144 yX9_missing ∈ mgood := mgood_in (w := Cond.methodLink RX9 144 yX9_missing) (List.mem_of_getElem? (i := 980) (by decide +kernel)) rfl
theorem wg_982 : Cond.instanceMethod yX9_missing ∈ mgood := mgood_in (w := Cond.instanceMethod yX9_missing) (List.mem_of_getElem? (i := 982) (by decide +kernel)) rfl
theorem wg_30 : Cond.selects RX9 yX9_missing yX9_missing ∈ mgood := mgood_in (w := Cond.selects RX9 yX9_missing yX9_missing) (List.mem_of_getElem? (i := 30) (by decide +kernel)) rfl
theorem cv_X9_144 : mcV RX9 144 yX9_missing 3 := ⟨wg_980, wg_982, wg_30, wg_62, by decide +kernel⟩
theorem wg_976 : Cond.methodLink RX9 147 yX9_why ∈ mgood := mgood_in (w := Cond.methodLink RX9 147 yX9_why) (List.mem_of_getElem? (i := 976) (by decide +kernel)) rfl
theorem wg_978 : Cond.instanceMethod yX9_why ∈ mgood := mgood_in (w := Cond.instanceMethod yX9_why) (List.mem_of_getElem? (i := 978) (by decide +kernel)) rfl
theorem wg_29 : Cond.selects RX9 yX9_why yX9_why ∈ mgood := mgood_in (w := Cond.selects RX9 yX9_why yX9_why) (List.mem_of_getElem? (i := 29) (by decide +kernel)) rfl
theorem cv_X9_147 : mcV RX9 147 yX9_why 3 := ⟨wg_976, wg_978, wg_29, wg_62, by decide +kernel⟩
theorem wg_950 : Cond.methodLink RX9 150 yX9_isRowAsked ∈ mgood := mgood_in (w := Cond.methodLink RX9 150 yX9_isRowAsked) (List.mem_of_getElem? (i := 950) (by decide +kernel)) rfl
theorem wg_951 : Cond.static yX9_isRowAsked ∈ mgood := mgood_in (w := Cond.static yX9_isRowAsked) (List.mem_of_getElem? (i := 951) (by decide +kernel)) rfl
theorem cs_X9_150 : mcS RX9 150 yX9_isRowAsked (2) := ⟨wg_950, wg_951, wg_62, by decide +kernel⟩
theorem wg_953 : Cond.methodLink RX9 154 yX9_goThrough ∈ mgood := mgood_in (w := Cond.methodLink RX9 154 yX9_goThrough) (List.mem_of_getElem? (i := 953) (by decide +kernel)) rfl
theorem wg_955 : Cond.instanceMethod yX9_goThrough ∈ mgood := mgood_in (w := Cond.instanceMethod yX9_goThrough) (List.mem_of_getElem? (i := 955) (by decide +kernel)) rfl
theorem wg_24 : Cond.selects RX9 yX9_goThrough yX9_goThrough ∈ mgood := mgood_in (w := Cond.selects RX9 yX9_goThrough yX9_goThrough) (List.mem_of_getElem? (i := 24) (by decide +kernel)) rfl
theorem cv_X9_154 : mcV RX9 154 yX9_goThrough 3 := ⟨wg_953, wg_955, wg_24, wg_62, by decide +kernel⟩
theorem wg_972 : Cond.methodLink RX9 158 yX9_firstStuck ∈ mgood := mgood_in (w := Cond.methodLink RX9 158 yX9_firstStuck) (List.mem_of_getElem? (i := 972) (by decide +kernel)) rfl
theorem wg_974 : Cond.instanceMethod yX9_firstStuck ∈ mgood := mgood_in (w := Cond.instanceMethod yX9_firstStuck) (List.mem_of_getElem? (i := 974) (by decide +kernel)) rfl
theorem wg_28 : Cond.selects RX9 yX9_firstStuck yX9_firstStuck ∈ mgood := mgood_in (w := Cond.selects RX9 yX9_firstStuck yX9_firstStuck) (List.mem_of_getElem? (i := 28) (by decide +kernel)) rfl
theorem cv_X9_158 : mcV RX9 158 yX9_firstStuck 2 := ⟨wg_972, wg_974, wg_28, wg_62, by decide +kernel⟩
theorem wg_987 : Cond.methodLink RX9 161 yX9_wordOf ∈ mgood := mgood_in (w := Cond.methodLink RX9 161 yX9_wordOf) (List.mem_of_getElem? (i := 987) (by decide +kernel)) rfl
theorem wg_989 : Cond.instanceMethod yX9_wordOf ∈ mgood := mgood_in (w := Cond.instanceMethod yX9_wordOf) (List.mem_of_getElem? (i := 989) (by decide +kernel)) rfl
theorem wg_31 : Cond.selects RX9 yX9_wordOf yX9_wordOf ∈ mgood := mgood_in (w := Cond.selects RX9 yX9_wordOf yX9_wordOf) (List.mem_of_getElem? (i := 31) (by decide +kernel)) rfl
theorem cv_X9_161 : mcV RX9 161 yX9_wordOf 2 := ⟨wg_987, wg_989, wg_31, wg_62, by decide +kernel⟩
theorem wg_1003 : Cond.methodLink RX9 164 yX9_isEnd ∈ mgood := mgood_in (w := Cond.methodLink RX9 164 yX9_isEnd) (List.mem_of_getElem? (i := 1003) (by decide +kernel)) rfl
theorem wg_1005 : Cond.instanceMethod yX9_isEnd ∈ mgood := mgood_in (w := Cond.instanceMethod yX9_isEnd) (List.mem_of_getElem? (i := 1005) (by decide +kernel)) rfl
theorem wg_34 : Cond.selects RX9 yX9_isEnd yX9_isEnd ∈ mgood := mgood_in (w := Cond.selects RX9 yX9_isEnd yX9_isEnd) (List.mem_of_getElem? (i := 34) (by decide +kernel)) rfl
theorem cv_X9_164 : mcV RX9 164 yX9_isEnd 3 := ⟨wg_1003, wg_1005, wg_34, wg_62, by decide +kernel⟩
theorem wg_1011 : Cond.methodLink RX9 171 yX9_counts ∈ mgood := mgood_in (w := Cond.methodLink RX9 171 yX9_counts) (List.mem_of_getElem? (i := 1011) (by decide +kernel)) rfl
theorem wg_1013 : Cond.instanceMethod yX9_counts ∈ mgood := mgood_in (w := Cond.instanceMethod yX9_counts) (List.mem_of_getElem? (i := 1013) (by decide +kernel)) rfl
theorem wg_36 : Cond.selects RX9 yX9_counts yX9_counts ∈ mgood := mgood_in (w := Cond.selects RX9 yX9_counts yX9_counts) (List.mem_of_getElem? (i := 36) (by decide +kernel)) rfl
theorem cv_X9_171 : mcV RX9 171 yX9_counts 3 := ⟨wg_1011, wg_1013, wg_36, wg_62, by decide +kernel⟩
theorem wg_995 : Cond.methodLink RX9 174 yX9_stuckOnes ∈ mgood := mgood_in (w := Cond.methodLink RX9 174 yX9_stuckOnes) (List.mem_of_getElem? (i := 995) (by decide +kernel)) rfl
theorem wg_997 : Cond.instanceMethod yX9_stuckOnes ∈ mgood := mgood_in (w := Cond.instanceMethod yX9_stuckOnes) (List.mem_of_getElem? (i := 997) (by decide +kernel)) rfl
theorem wg_32 : Cond.selects RX9 yX9_stuckOnes yX9_stuckOnes ∈ mgood := mgood_in (w := Cond.selects RX9 yX9_stuckOnes yX9_stuckOnes) (List.mem_of_getElem? (i := 32) (by decide +kernel)) rfl
theorem cv_X9_174 : mcV RX9 174 yX9_stuckOnes 2 := ⟨wg_995, wg_997, wg_32, wg_62, by decide +kernel⟩
theorem wg_999 : Cond.methodLink RX9 177 yX9_ends ∈ mgood := mgood_in (w := Cond.methodLink RX9 177 yX9_ends) (List.mem_of_getElem? (i := 999) (by decide +kernel)) rfl
theorem wg_1001 : Cond.instanceMethod yX9_ends ∈ mgood := mgood_in (w := Cond.instanceMethod yX9_ends) (List.mem_of_getElem? (i := 1001) (by decide +kernel)) rfl
theorem wg_33 : Cond.selects RX9 yX9_ends yX9_ends ∈ mgood := mgood_in (w := Cond.selects RX9 yX9_ends yX9_ends) (List.mem_of_getElem? (i := 33) (by decide +kernel)) rfl
theorem cv_X9_177 : mcV RX9 177 yX9_ends 2 := ⟨wg_999, wg_1001, wg_33, wg_62, by decide +kernel⟩
theorem wg_1007 : Cond.methodLink RX9 180 yX9_countsAll ∈ mgood := mgood_in (w := Cond.methodLink RX9 180 yX9_countsAll) (List.mem_of_getElem? (i := 1007) (by decide +kernel)) rfl
theorem wg_1009 : Cond.instanceMethod yX9_countsAll ∈ mgood := mgood_in (w := Cond.instanceMethod yX9_countsAll) (List.mem_of_getElem? (i := 1009) (by decide +kernel)) rfl
theorem wg_35 : Cond.selects RX9 yX9_countsAll yX9_countsAll ∈ mgood := mgood_in (w := Cond.selects RX9 yX9_countsAll yX9_countsAll) (List.mem_of_getElem? (i := 35) (by decide +kernel)) rfl
theorem cv_X9_180 : mcV RX9 180 yX9_countsAll 2 := ⟨wg_1007, wg_1009, wg_35, wg_62, by decide +kernel⟩
theorem wg_1017 : Cond.methodLink RX9 183 yX9_fewest ∈ mgood := mgood_in (w := Cond.methodLink RX9 183 yX9_fewest) (List.mem_of_getElem? (i := 1017) (by decide +kernel)) rfl
theorem wg_1019 : Cond.instanceMethod yX9_fewest ∈ mgood := mgood_in (w := Cond.instanceMethod yX9_fewest) (List.mem_of_getElem? (i := 1019) (by decide +kernel)) rfl
theorem wg_37 : Cond.selects RX9 yX9_fewest yX9_fewest ∈ mgood := mgood_in (w := Cond.selects RX9 yX9_fewest yX9_fewest) (List.mem_of_getElem? (i := 37) (by decide +kernel)) rfl
theorem cv_X9_183 : mcV RX9 183 yX9_fewest 2 := ⟨wg_1017, wg_1019, wg_37, wg_62, by decide +kernel⟩
theorem wg_1021 : Cond.methodLink RX9 186 yX9_comeTo ∈ mgood := mgood_in (w := Cond.methodLink RX9 186 yX9_comeTo) (List.mem_of_getElem? (i := 1021) (by decide +kernel)) rfl
theorem wg_1023 : Cond.instanceMethod yX9_comeTo ∈ mgood := mgood_in (w := Cond.instanceMethod yX9_comeTo) (List.mem_of_getElem? (i := 1023) (by decide +kernel)) rfl
theorem wg_38 : Cond.selects RX9 yX9_comeTo yX9_comeTo ∈ mgood := mgood_in (w := Cond.selects RX9 yX9_comeTo yX9_comeTo) (List.mem_of_getElem? (i := 38) (by decide +kernel)) rfl
theorem cv_X9_186 : mcV RX9 186 yX9_comeTo 1 := ⟨wg_1021, wg_1023, wg_38, wg_62, by decide +kernel⟩
theorem wg_1048 : Cond.methodLink RX9 196 yX9_wanted ∈ mgood := mgood_in (w := Cond.methodLink RX9 196 yX9_wanted) (List.mem_of_getElem? (i := 1048) (by decide +kernel)) rfl
theorem wg_1050 : Cond.instanceMethod yX9_wanted ∈ mgood := mgood_in (w := Cond.instanceMethod yX9_wanted) (List.mem_of_getElem? (i := 1050) (by decide +kernel)) rfl
theorem wg_42 : Cond.selects RX9 yX9_wanted yX9_wanted ∈ mgood := mgood_in (w := Cond.selects RX9 yX9_wanted yX9_wanted) (List.mem_of_getElem? (i := 42) (by decide +kernel)) rfl
theorem cv_X9_196 : mcV RX9 196 yX9_wanted 3 := ⟨wg_1048, wg_1050, wg_42, wg_62, by decide +kernel⟩
theorem wg_1044 : Cond.methodLink RX9 199 yX9_whyNot ∈ mgood := mgood_in (w := Cond.methodLink RX9 199 yX9_whyNot) (List.mem_of_getElem? (i := 1044) (by decide +kernel)) rfl
theorem wg_1046 : Cond.instanceMethod yX9_whyNot ∈ mgood := mgood_in (w := Cond.instanceMethod yX9_whyNot) (List.mem_of_getElem? (i := 1046) (by decide +kernel)) rfl
theorem wg_41 : Cond.selects RX9 yX9_whyNot yX9_whyNot ∈ mgood := mgood_in (w := Cond.selects RX9 yX9_whyNot yX9_whyNot) (List.mem_of_getElem? (i := 41) (by decide +kernel)) rfl
theorem cv_X9_199 : mcV RX9 199 yX9_whyNot 3 := ⟨wg_1044, wg_1046, wg_41, wg_62, by decide +kernel⟩
theorem wg_1040 : Cond.methodLink RX9 202 yX9_firstAgainst ∈ mgood := mgood_in (w := Cond.methodLink RX9 202 yX9_firstAgainst) (List.mem_of_getElem? (i := 1040) (by decide +kernel)) rfl
theorem wg_1042 : Cond.instanceMethod yX9_firstAgainst ∈ mgood := mgood_in (w := Cond.instanceMethod yX9_firstAgainst) (List.mem_of_getElem? (i := 1042) (by decide +kernel)) rfl
theorem wg_40 : Cond.selects RX9 yX9_firstAgainst yX9_firstAgainst ∈ mgood := mgood_in (w := Cond.selects RX9 yX9_firstAgainst yX9_firstAgainst) (List.mem_of_getElem? (i := 40) (by decide +kernel)) rfl
theorem cv_X9_202 : mcV RX9 202 yX9_firstAgainst 2 := ⟨wg_1040, wg_1042, wg_40, wg_62, by decide +kernel⟩
theorem wg_1036 : Cond.methodLink RX9 205 yX9_canStand ∈ mgood := mgood_in (w := Cond.methodLink RX9 205 yX9_canStand) (List.mem_of_getElem? (i := 1036) (by decide +kernel)) rfl
theorem wg_1038 : Cond.instanceMethod yX9_canStand ∈ mgood := mgood_in (w := Cond.instanceMethod yX9_canStand) (List.mem_of_getElem? (i := 1038) (by decide +kernel)) rfl
theorem wg_39 : Cond.selects RX9 yX9_canStand yX9_canStand ∈ mgood := mgood_in (w := Cond.selects RX9 yX9_canStand yX9_canStand) (List.mem_of_getElem? (i := 39) (by decide +kernel)) rfl
theorem cv_X9_205 : mcV RX9 205 yX9_canStand 2 := ⟨wg_1036, wg_1038, wg_39, wg_62, by decide +kernel⟩
theorem wg_1056 : Cond.methodLink RX9 208 yX9_wantedThen ∈ mgood := mgood_in (w := Cond.methodLink RX9 208 yX9_wantedThen) (List.mem_of_getElem? (i := 1056) (by decide +kernel)) rfl
theorem wg_1058 : Cond.instanceMethod yX9_wantedThen ∈ mgood := mgood_in (w := Cond.instanceMethod yX9_wantedThen) (List.mem_of_getElem? (i := 1058) (by decide +kernel)) rfl
theorem wg_43 : Cond.selects RX9 yX9_wantedThen yX9_wantedThen ∈ mgood := mgood_in (w := Cond.selects RX9 yX9_wantedThen yX9_wantedThen) (List.mem_of_getElem? (i := 43) (by decide +kernel)) rfl
theorem cv_X9_208 : mcV RX9 208 yX9_wantedThen 3 := ⟨wg_1056, wg_1058, wg_43, wg_62, by decide +kernel⟩
theorem wg_1064 : Cond.methodLink RX9 211 yX9_arrows ∈ mgood := mgood_in (w := Cond.methodLink RX9 211 yX9_arrows) (List.mem_of_getElem? (i := 1064) (by decide +kernel)) rfl
theorem wg_1066 : Cond.instanceMethod yX9_arrows ∈ mgood := mgood_in (w := Cond.instanceMethod yX9_arrows) (List.mem_of_getElem? (i := 1066) (by decide +kernel)) rfl
theorem wg_44 : Cond.selects RX9 yX9_arrows yX9_arrows ∈ mgood := mgood_in (w := Cond.selects RX9 yX9_arrows yX9_arrows) (List.mem_of_getElem? (i := 44) (by decide +kernel)) rfl
theorem cv_X9_211 : mcV RX9 211 yX9_arrows 0 := ⟨wg_1064, wg_1066, wg_44, wg_62, by decide +kernel⟩
theorem wg_1093 : Cond.methodLink RX9 225 yX9_takes ∈ mgood := mgood_in (w := Cond.methodLink RX9 225 yX9_takes) (List.mem_of_getElem? (i := 1093) (by decide +kernel)) rfl
theorem wg_1095 : Cond.instanceMethod yX9_takes ∈ mgood := mgood_in (w := Cond.instanceMethod yX9_takes) (List.mem_of_getElem? (i := 1095) (by decide +kernel)) rfl
theorem wg_47 : Cond.selects RX9 yX9_takes yX9_takes ∈ mgood := mgood_in (w := Cond.selects RX9 yX9_takes yX9_takes) (List.mem_of_getElem? (i := 47) (by decide +kernel)) rfl
theorem cv_X9_225 : mcV RX9 225 yX9_takes 2 := ⟨wg_1093, wg_1095, wg_47, wg_62, by decide +kernel⟩
theorem wg_1097 : Cond.methodLink RX9 237 yX9_breaksOff ∈ mgood := mgood_in (w := Cond.methodLink RX9 237 yX9_breaksOff) (List.mem_of_getElem? (i := 1097) (by decide +kernel)) rfl
theorem wg_1099 : Cond.instanceMethod yX9_breaksOff ∈ mgood := mgood_in (w := Cond.instanceMethod yX9_breaksOff) (List.mem_of_getElem? (i := 1099) (by decide +kernel)) rfl
theorem wg_48 : Cond.selects RX9 yX9_breaksOff yX9_breaksOff ∈ mgood := mgood_in (w := Cond.selects RX9 yX9_breaksOff yX9_breaksOff) (List.mem_of_getElem? (i := 48) (by decide +kernel)) rfl
theorem cv_X9_237 : mcV RX9 237 yX9_breaksOff 0 := ⟨wg_1097, wg_1099, wg_48, wg_62, by decide +kernel⟩
theorem wg_1101 : Cond.methodLink RX9 240 yX9_kindTaken ∈ mgood := mgood_in (w := Cond.methodLink RX9 240 yX9_kindTaken) (List.mem_of_getElem? (i := 1101) (by decide +kernel)) rfl
theorem wg_1103 : Cond.instanceMethod yX9_kindTaken ∈ mgood := mgood_in (w := Cond.instanceMethod yX9_kindTaken) (List.mem_of_getElem? (i := 1103) (by decide +kernel)) rfl
theorem wg_49 : Cond.selects RX9 yX9_kindTaken yX9_kindTaken ∈ mgood := mgood_in (w := Cond.selects RX9 yX9_kindTaken yX9_kindTaken) (List.mem_of_getElem? (i := 49) (by decide +kernel)) rfl
theorem cv_X9_240 : mcV RX9 240 yX9_kindTaken 0 := ⟨wg_1101, wg_1103, wg_49, wg_62, by decide +kernel⟩
theorem wg_1105 : Cond.methodLink RX9 243 yX9_takesArrows ∈ mgood := mgood_in (w := Cond.methodLink RX9 243 yX9_takesArrows) (List.mem_of_getElem? (i := 1105) (by decide +kernel)) rfl
theorem wg_1107 : Cond.instanceMethod yX9_takesArrows ∈ mgood := mgood_in (w := Cond.instanceMethod yX9_takesArrows) (List.mem_of_getElem? (i := 1107) (by decide +kernel)) rfl
theorem wg_50 : Cond.selects RX9 yX9_takesArrows yX9_takesArrows ∈ mgood := mgood_in (w := Cond.selects RX9 yX9_takesArrows yX9_takesArrows) (List.mem_of_getElem? (i := 50) (by decide +kernel)) rfl
theorem cv_X9_243 : mcV RX9 243 yX9_takesArrows 0 := ⟨wg_1105, wg_1107, wg_50, wg_62, by decide +kernel⟩
theorem wg_1109 : Cond.methodLink RX9 250 yX9_twice ∈ mgood := mgood_in (w := Cond.methodLink RX9 250 yX9_twice) (List.mem_of_getElem? (i := 1109) (by decide +kernel)) rfl
theorem wg_1111 : Cond.instanceMethod yX9_twice ∈ mgood := mgood_in (w := Cond.instanceMethod yX9_twice) (List.mem_of_getElem? (i := 1111) (by decide +kernel)) rfl
theorem wg_51 : Cond.selects RX9 yX9_twice yX9_twice ∈ mgood := mgood_in (w := Cond.selects RX9 yX9_twice yX9_twice) (List.mem_of_getElem? (i := 51) (by decide +kernel)) rfl
theorem cv_X9_250 : mcV RX9 250 yX9_twice 0 := ⟨wg_1109, wg_1111, wg_51, wg_62, by decide +kernel⟩
theorem wg_1089 : Cond.methodLink RX9 259 yX9_readState ∈ mgood := mgood_in (w := Cond.methodLink RX9 259 yX9_readState) (List.mem_of_getElem? (i := 1089) (by decide +kernel)) rfl
theorem wg_1091 : Cond.instanceMethod yX9_readState ∈ mgood := mgood_in (w := Cond.instanceMethod yX9_readState) (List.mem_of_getElem? (i := 1091) (by decide +kernel)) rfl
theorem wg_46 : Cond.selects RX9 yX9_readState yX9_readState ∈ mgood := mgood_in (w := Cond.selects RX9 yX9_readState yX9_readState) (List.mem_of_getElem? (i := 46) (by decide +kernel)) rfl
theorem cv_X9_259 : mcV RX9 259 yX9_readState 0 := ⟨wg_1089, wg_1091, wg_46, wg_62, by decide +kernel⟩
theorem wg_1085 : Cond.methodLink RX9 262 yX9_faulty ∈ mgood := mgood_in (w := Cond.methodLink RX9 262 yX9_faulty) (List.mem_of_getElem? (i := 1085) (by decide +kernel)) rfl
theorem wg_1087 : Cond.instanceMethod yX9_faulty ∈ mgood := mgood_in (w := Cond.instanceMethod yX9_faulty) (List.mem_of_getElem? (i := 1087) (by decide +kernel)) rfl
theorem wg_45 : Cond.selects RX9 yX9_faulty yX9_faulty ∈ mgood := mgood_in (w := Cond.selects RX9 yX9_faulty yX9_faulty) (List.mem_of_getElem? (i := 45) (by decide +kernel)) rfl
theorem cv_X9_262 : mcV RX9 262 yX9_faulty 0 := ⟨wg_1085, wg_1087, wg_45, wg_62, by decide +kernel⟩
theorem wg_278 : Cond.methodLink RX0 25 yX3_saveTo ∈ mgood := mgood_in (w := Cond.methodLink RX0 25 yX3_saveTo) (List.mem_of_getElem? (i := 278) (by decide +kernel)) rfl
theorem wg_279 : Cond.instanceMethod yX3_saveTo ∈ mgood := mgood_in (w := Cond.instanceMethod yX3_saveTo) (List.mem_of_getElem? (i := 279) (by decide +kernel)) rfl
theorem wg_280 : Cond.selects RX3 yX3_saveTo yX3_saveTo ∈ mgood := mgood_in (w := Cond.selects RX3 yX3_saveTo yX3_saveTo) (List.mem_of_getElem? (i := 280) (by decide +kernel)) rfl
theorem cv_X0_25 : mcV RX0 25 yX3_saveTo 2 := ⟨wg_278, wg_279, wg_280, wg_54, by decide +kernel⟩
theorem wg_681 : Cond.methodLink RX0 29 yX3_loadFrom ∈ mgood := mgood_in (w := Cond.methodLink RX0 29 yX3_loadFrom) (List.mem_of_getElem? (i := 681) (by decide +kernel)) rfl
theorem wg_682 : Cond.instanceMethod yX3_loadFrom ∈ mgood := mgood_in (w := Cond.instanceMethod yX3_loadFrom) (List.mem_of_getElem? (i := 682) (by decide +kernel)) rfl
theorem wg_683 : Cond.selects RX3 yX3_loadFrom yX3_loadFrom ∈ mgood := mgood_in (w := Cond.selects RX3 yX3_loadFrom yX3_loadFrom) (List.mem_of_getElem? (i := 683) (by decide +kernel)) rfl
theorem cv_X0_29 : mcV RX0 29 yX3_loadFrom 2 := ⟨wg_681, wg_682, wg_683, wg_54, by decide +kernel⟩
theorem wg_347 : Cond.methodLink RX1 15 yX1_looksAlike ∈ mgood := mgood_in (w := Cond.methodLink RX1 15 yX1_looksAlike) (List.mem_of_getElem? (i := 347) (by decide +kernel)) rfl
theorem wg_348 : Cond.static yX1_looksAlike ∈ mgood := mgood_in (w := Cond.static yX1_looksAlike) (List.mem_of_getElem? (i := 348) (by decide +kernel)) rfl
theorem cs_X1_15 : mcS RX1 15 yX1_looksAlike (3) := ⟨wg_347, wg_348, wg_57, by decide +kernel⟩
theorem wg_352 : Cond.methodLink RX1 19 yX1_part ∈ mgood := mgood_in (w := Cond.methodLink RX1 19 yX1_part) (List.mem_of_getElem? (i := 352) (by decide +kernel)) rfl
theorem wg_354 : Cond.instanceMethod yX1_part ∈ mgood := mgood_in (w := Cond.instanceMethod yX1_part) (List.mem_of_getElem? (i := 354) (by decide +kernel)) rfl
theorem wg_2 : Cond.selects RX1 yX1_part yX1_part ∈ mgood := mgood_in (w := Cond.selects RX1 yX1_part yX1_part) (List.mem_of_getElem? (i := 2) (by decide +kernel)) rfl
theorem cv_X1_19 : mcV RX1 19 yX1_part 1 := ⟨wg_352, wg_354, wg_2, wg_57, by decide +kernel⟩
theorem wg_356 : Cond.methodLink RX1 23 yX1_leadsAlike ∈ mgood := mgood_in (w := Cond.methodLink RX1 23 yX1_leadsAlike) (List.mem_of_getElem? (i := 356) (by decide +kernel)) rfl
theorem wg_358 : Cond.instanceMethod yX1_leadsAlike ∈ mgood := mgood_in (w := Cond.instanceMethod yX1_leadsAlike) (List.mem_of_getElem? (i := 358) (by decide +kernel)) rfl
theorem wg_3 : Cond.selects RX1 yX1_leadsAlike yX1_leadsAlike ∈ mgood := mgood_in (w := Cond.selects RX1 yX1_leadsAlike yX1_leadsAlike) (List.mem_of_getElem? (i := 3) (by decide +kernel)) rfl
theorem cv_X1_23 : mcV RX1 23 yX1_leadsAlike 3 := ⟨wg_356, wg_358, wg_3, wg_57, by decide +kernel⟩
theorem wg_350 : Cond.methodLink RX1 26 yX3_kindOf ∈ mgood := mgood_in (w := Cond.methodLink RX1 26 yX3_kindOf) (List.mem_of_getElem? (i := 350) (by decide +kernel)) rfl
theorem cv_X1_26 : mcV RX1 26 yX3_kindOf 1 := ⟨wg_350, wg_288, wg_289, wg_54, by decide +kernel⟩
theorem wg_351 : Cond.methodLink RX1 32 yX3_wordsOf ∈ mgood := mgood_in (w := Cond.methodLink RX1 32 yX3_wordsOf) (List.mem_of_getElem? (i := 351) (by decide +kernel)) rfl
theorem cv_X1_32 : mcV RX1 32 yX3_wordsOf 1 := ⟨wg_351, wg_299, wg_300, wg_54, by decide +kernel⟩
theorem wg_360 : Cond.methodLink RX1 35 yX3_targetOf ∈ mgood := mgood_in (w := Cond.methodLink RX1 35 yX3_targetOf) (List.mem_of_getElem? (i := 360) (by decide +kernel)) rfl
theorem cv_X1_35 : mcV RX1 35 yX3_targetOf 2 := ⟨wg_360, wg_303, wg_304, wg_54, by decide +kernel⟩
theorem wg_361 : Cond.methodLink RX1 39 yX1_areAlike ∈ mgood := mgood_in (w := Cond.methodLink RX1 39 yX1_areAlike) (List.mem_of_getElem? (i := 361) (by decide +kernel)) rfl
theorem wg_363 : Cond.instanceMethod yX1_areAlike ∈ mgood := mgood_in (w := Cond.instanceMethod yX1_areAlike) (List.mem_of_getElem? (i := 363) (by decide +kernel)) rfl
theorem wg_4 : Cond.selects RX1 yX1_areAlike yX1_areAlike ∈ mgood := mgood_in (w := Cond.selects RX1 yX1_areAlike yX1_areAlike) (List.mem_of_getElem? (i := 4) (by decide +kernel)) rfl
theorem cv_X1_39 : mcV RX1 39 yX1_areAlike 2 := ⟨wg_361, wg_363, wg_4, wg_57, by decide +kernel⟩
theorem wn_365 : Cond.methodLinkNest RX1 43 yX8_isState "MirroredTalks" ∈ mnest := mnest_in (w := Cond.methodLinkNest RX1 43 yX8_isState "MirroredTalks") (List.mem_of_getElem? (i := 365) (by decide +kernel)) rfl
theorem cn_X1_43 : mcN RX1 43 yX8_isState (1) := ⟨⟨_, wn_365⟩, wg_90, wg_53, by decide +kernel⟩
theorem wg_403 : Cond.methodLink RX2 34 yJ7_fill_53178 ∈ mgood := mgood_in (w := Cond.methodLink RX2 34 yJ7_fill_53178) (List.mem_of_getElem? (i := 403) (by decide +kernel)) rfl
theorem wg_404 : Cond.static yJ7_fill_53178 ∈ mgood := mgood_in (w := Cond.static yJ7_fill_53178) (List.mem_of_getElem? (i := 404) (by decide +kernel)) rfl
theorem wg_65 : Cond.initialized RJ7 ∈ mgood := mgood_in (w := Cond.initialized RJ7) (List.mem_of_getElem? (i := 65) (by decide +kernel)) rfl
theorem cs_X2_34 : mcS RX2 34 yJ7_fill_53178 (2) := ⟨wg_403, wg_404, wg_65, by decide +kernel⟩
theorem wx_0 : Cond.selects RX6 yX2_add yX2_add ∈ mgood := mgood_inx (List.mem_of_getElem? (i := 0) rfl) rfl
theorem wg_406 : Cond.methodLink RX2 44 ⟨"MirroredTalks$Pairs", "add", "(IIII)V"⟩ ∈ mgood := mgood_in (w := Cond.methodLink RX2 44 ⟨"MirroredTalks$Pairs", "add", "(IIII)V"⟩) (List.mem_of_getElem? (i := 406) (by decide +kernel)) rfl
theorem wg_1117 : Cond.sameMethod "MirroredTalks$Pairs" "MirroredTalks$Pairs" "add" "(IIII)V" ∈ mgood := mgood_in (w := Cond.sameMethod "MirroredTalks$Pairs" "MirroredTalks$Pairs" "add" "(IIII)V") (List.mem_of_getElem? (i := 1117) (by decide +kernel)) rfl
theorem wg_408 : Cond.instanceMethod yX2_add ∈ mgood := mgood_in (w := Cond.instanceMethod yX2_add) (List.mem_of_getElem? (i := 408) (by decide +kernel)) rfl
theorem cu_X2_44_X6 : mcU RX2 44 RX6 "MirroredTalks$Pairs" ⟨"MirroredTalks$Pairs", "add", "(IIII)V"⟩ yX2_add 4 := ⟨List.forall_mem_cons.mpr ⟨wg_406, List.forall_mem_cons.mpr ⟨wg_1117, List.forall_mem_cons.mpr ⟨wx_0, List.forall_mem_cons.mpr ⟨wg_408, List.forall_mem_cons.mpr ⟨wg_58, fun _ h => absurd h List.not_mem_nil⟩⟩⟩⟩⟩, Or.inl rfl, by decide +kernel⟩
theorem wx_1 : Cond.selects RX7 yX2_add yX2_add ∈ mgood := mgood_inx (List.mem_of_getElem? (i := 1) rfl) rfl
theorem cu_X2_44_X7 : mcU RX2 44 RX7 "MirroredTalks$Pairs" ⟨"MirroredTalks$Pairs", "add", "(IIII)V"⟩ yX2_add 4 := ⟨List.forall_mem_cons.mpr ⟨wg_406, List.forall_mem_cons.mpr ⟨wg_1117, List.forall_mem_cons.mpr ⟨wx_1, List.forall_mem_cons.mpr ⟨wg_408, List.forall_mem_cons.mpr ⟨wg_58, fun _ h => absurd h List.not_mem_nil⟩⟩⟩⟩⟩, Or.inl rfl, by decide +kernel⟩
theorem wx_2 : Cond.selects RX6 yX2_pairBehind yX2_pairBehind ∈ mgood := mgood_inx (List.mem_of_getElem? (i := 2) rfl) rfl
theorem wg_410 : Cond.methodLink RX2 48 ⟨"MirroredTalks$Pairs", "pairBehind", "(II)I"⟩ ∈ mgood := mgood_in (w := Cond.methodLink RX2 48 ⟨"MirroredTalks$Pairs", "pairBehind", "(II)I"⟩) (List.mem_of_getElem? (i := 410) (by decide +kernel)) rfl
theorem wg_1118 : Cond.sameMethod "MirroredTalks$Pairs" "MirroredTalks$Pairs" "pairBehind" "(II)I" ∈ mgood := mgood_in (w := Cond.sameMethod "MirroredTalks$Pairs" "MirroredTalks$Pairs" "pairBehind" "(II)I") (List.mem_of_getElem? (i := 1118) (by decide +kernel)) rfl
theorem wg_412 : Cond.instanceMethod yX2_pairBehind ∈ mgood := mgood_in (w := Cond.instanceMethod yX2_pairBehind) (List.mem_of_getElem? (i := 412) (by decide +kernel)) rfl
theorem cu_X2_48_X6 : mcU RX2 48 RX6 "MirroredTalks$Pairs" ⟨"MirroredTalks$Pairs", "pairBehind", "(II)I"⟩ yX2_pairBehind 2 := ⟨List.forall_mem_cons.mpr ⟨wg_410, List.forall_mem_cons.mpr ⟨wg_1118, List.forall_mem_cons.mpr ⟨wx_2, List.forall_mem_cons.mpr ⟨wg_412, List.forall_mem_cons.mpr ⟨wg_58, fun _ h => absurd h List.not_mem_nil⟩⟩⟩⟩⟩, Or.inl rfl, by decide +kernel⟩
theorem wx_3 : Cond.selects RX7 yX2_pairBehind yX2_pairBehind ∈ mgood := mgood_inx (List.mem_of_getElem? (i := 3) rfl) rfl
theorem cu_X2_48_X7 : mcU RX2 48 RX7 "MirroredTalks$Pairs" ⟨"MirroredTalks$Pairs", "pairBehind", "(II)I"⟩ yX2_pairBehind 2 := ⟨List.forall_mem_cons.mpr ⟨wg_410, List.forall_mem_cons.mpr ⟨wg_1118, List.forall_mem_cons.mpr ⟨wx_3, List.forall_mem_cons.mpr ⟨wg_412, List.forall_mem_cons.mpr ⟨wg_58, fun _ h => absurd h List.not_mem_nil⟩⟩⟩⟩⟩, Or.inl rfl, by decide +kernel⟩
theorem wn_420 : Cond.methodLinkNest RX2 52 yX8_cellOf "MirroredTalks" ∈ mnest := mnest_in (w := Cond.methodLinkNest RX2 52 yX8_cellOf "MirroredTalks") (List.mem_of_getElem? (i := 420) (by decide +kernel)) rfl
theorem wg_421 : Cond.static yX8_cellOf ∈ mgood := mgood_in (w := Cond.static yX8_cellOf) (List.mem_of_getElem? (i := 421) (by decide +kernel)) rfl
theorem cn_X2_52 : mcN RX2 52 yX8_cellOf (2) := ⟨⟨_, wn_420⟩, wg_421, wg_53, by decide +kernel⟩
theorem wg_440 : Cond.methodLink RX2 56 ⟨"MirroredTalks$Pairs", "lengthOf", "(I)I"⟩ ∈ mgood := mgood_in (w := Cond.methodLink RX2 56 ⟨"MirroredTalks$Pairs", "lengthOf", "(I)I"⟩) (List.mem_of_getElem? (i := 440) (by decide +kernel)) rfl
theorem wg_442 : Cond.sameMethod "MirroredTalks$Pairs" "MirroredTalks$Pairs" "lengthOf" "(I)I" ∈ mgood := mgood_in (w := Cond.sameMethod "MirroredTalks$Pairs" "MirroredTalks$Pairs" "lengthOf" "(I)I") (List.mem_of_getElem? (i := 442) (by decide +kernel)) rfl
theorem wg_443 : Cond.selects RX6 ⟨"MirroredTalks$Pairs", "lengthOf", "(I)I"⟩ yX2_lengthOf ∈ mgood := mgood_in (w := Cond.selects RX6 ⟨"MirroredTalks$Pairs", "lengthOf", "(I)I"⟩ yX2_lengthOf) (List.mem_of_getElem? (i := 443) (by decide +kernel)) rfl
theorem cu_X2_56_X6 : mcU RX2 56 RX6 "MirroredTalks$Pairs" ⟨"MirroredTalks$Pairs", "lengthOf", "(I)I"⟩ yX2_lengthOf 1 := ⟨List.forall_mem_cons.mpr ⟨wg_440, List.forall_mem_cons.mpr ⟨wg_442, List.forall_mem_cons.mpr ⟨wg_443, List.forall_mem_cons.mpr ⟨wg_441, List.forall_mem_cons.mpr ⟨wg_58, fun _ h => absurd h List.not_mem_nil⟩⟩⟩⟩⟩, Or.inl rfl, by decide +kernel⟩
theorem wg_444 : Cond.selects RX7 ⟨"MirroredTalks$Pairs", "lengthOf", "(I)I"⟩ yX2_lengthOf ∈ mgood := mgood_in (w := Cond.selects RX7 ⟨"MirroredTalks$Pairs", "lengthOf", "(I)I"⟩ yX2_lengthOf) (List.mem_of_getElem? (i := 444) (by decide +kernel)) rfl
theorem cu_X2_56_X7 : mcU RX2 56 RX7 "MirroredTalks$Pairs" ⟨"MirroredTalks$Pairs", "lengthOf", "(I)I"⟩ yX2_lengthOf 1 := ⟨List.forall_mem_cons.mpr ⟨wg_440, List.forall_mem_cons.mpr ⟨wg_442, List.forall_mem_cons.mpr ⟨wg_444, List.forall_mem_cons.mpr ⟨wg_441, List.forall_mem_cons.mpr ⟨wg_58, fun _ h => absurd h List.not_mem_nil⟩⟩⟩⟩⟩, Or.inl rfl, by decide +kernel⟩
theorem wg_414 : Cond.methodLink RX2 60 ⟨"MirroredTalks$Pairs", "stateOfOne", "(I)I"⟩ ∈ mgood := mgood_in (w := Cond.methodLink RX2 60 ⟨"MirroredTalks$Pairs", "stateOfOne", "(I)I"⟩) (List.mem_of_getElem? (i := 414) (by decide +kernel)) rfl
theorem wg_416 : Cond.sameMethod "MirroredTalks$Pairs" "MirroredTalks$Pairs" "stateOfOne" "(I)I" ∈ mgood := mgood_in (w := Cond.sameMethod "MirroredTalks$Pairs" "MirroredTalks$Pairs" "stateOfOne" "(I)I") (List.mem_of_getElem? (i := 416) (by decide +kernel)) rfl
theorem wg_417 : Cond.selects RX6 ⟨"MirroredTalks$Pairs", "stateOfOne", "(I)I"⟩ yX2_stateOfOne ∈ mgood := mgood_in (w := Cond.selects RX6 ⟨"MirroredTalks$Pairs", "stateOfOne", "(I)I"⟩ yX2_stateOfOne) (List.mem_of_getElem? (i := 417) (by decide +kernel)) rfl
theorem cu_X2_60_X6 : mcU RX2 60 RX6 "MirroredTalks$Pairs" ⟨"MirroredTalks$Pairs", "stateOfOne", "(I)I"⟩ yX2_stateOfOne 1 := ⟨List.forall_mem_cons.mpr ⟨wg_414, List.forall_mem_cons.mpr ⟨wg_416, List.forall_mem_cons.mpr ⟨wg_417, List.forall_mem_cons.mpr ⟨wg_415, List.forall_mem_cons.mpr ⟨wg_58, fun _ h => absurd h List.not_mem_nil⟩⟩⟩⟩⟩, Or.inl rfl, by decide +kernel⟩
theorem wg_418 : Cond.selects RX7 ⟨"MirroredTalks$Pairs", "stateOfOne", "(I)I"⟩ yX2_stateOfOne ∈ mgood := mgood_in (w := Cond.selects RX7 ⟨"MirroredTalks$Pairs", "stateOfOne", "(I)I"⟩ yX2_stateOfOne) (List.mem_of_getElem? (i := 418) (by decide +kernel)) rfl
theorem cu_X2_60_X7 : mcU RX2 60 RX7 "MirroredTalks$Pairs" ⟨"MirroredTalks$Pairs", "stateOfOne", "(I)I"⟩ yX2_stateOfOne 1 := ⟨List.forall_mem_cons.mpr ⟨wg_414, List.forall_mem_cons.mpr ⟨wg_416, List.forall_mem_cons.mpr ⟨wg_418, List.forall_mem_cons.mpr ⟨wg_415, List.forall_mem_cons.mpr ⟨wg_58, fun _ h => absurd h List.not_mem_nil⟩⟩⟩⟩⟩, Or.inl rfl, by decide +kernel⟩
theorem wg_423 : Cond.methodLink RX2 63 ⟨"MirroredTalks$Pairs", "stateOfOther", "(I)I"⟩ ∈ mgood := mgood_in (w := Cond.methodLink RX2 63 ⟨"MirroredTalks$Pairs", "stateOfOther", "(I)I"⟩) (List.mem_of_getElem? (i := 423) (by decide +kernel)) rfl
theorem wg_425 : Cond.sameMethod "MirroredTalks$Pairs" "MirroredTalks$Pairs" "stateOfOther" "(I)I" ∈ mgood := mgood_in (w := Cond.sameMethod "MirroredTalks$Pairs" "MirroredTalks$Pairs" "stateOfOther" "(I)I") (List.mem_of_getElem? (i := 425) (by decide +kernel)) rfl
theorem wg_426 : Cond.selects RX6 ⟨"MirroredTalks$Pairs", "stateOfOther", "(I)I"⟩ yX2_stateOfOther ∈ mgood := mgood_in (w := Cond.selects RX6 ⟨"MirroredTalks$Pairs", "stateOfOther", "(I)I"⟩ yX2_stateOfOther) (List.mem_of_getElem? (i := 426) (by decide +kernel)) rfl
theorem cu_X2_63_X6 : mcU RX2 63 RX6 "MirroredTalks$Pairs" ⟨"MirroredTalks$Pairs", "stateOfOther", "(I)I"⟩ yX2_stateOfOther 1 := ⟨List.forall_mem_cons.mpr ⟨wg_423, List.forall_mem_cons.mpr ⟨wg_425, List.forall_mem_cons.mpr ⟨wg_426, List.forall_mem_cons.mpr ⟨wg_424, List.forall_mem_cons.mpr ⟨wg_58, fun _ h => absurd h List.not_mem_nil⟩⟩⟩⟩⟩, Or.inl rfl, by decide +kernel⟩
theorem wg_427 : Cond.selects RX7 ⟨"MirroredTalks$Pairs", "stateOfOther", "(I)I"⟩ yX2_stateOfOther ∈ mgood := mgood_in (w := Cond.selects RX7 ⟨"MirroredTalks$Pairs", "stateOfOther", "(I)I"⟩ yX2_stateOfOther) (List.mem_of_getElem? (i := 427) (by decide +kernel)) rfl
theorem cu_X2_63_X7 : mcU RX2 63 RX7 "MirroredTalks$Pairs" ⟨"MirroredTalks$Pairs", "stateOfOther", "(I)I"⟩ yX2_stateOfOther 1 := ⟨List.forall_mem_cons.mpr ⟨wg_423, List.forall_mem_cons.mpr ⟨wg_425, List.forall_mem_cons.mpr ⟨wg_427, List.forall_mem_cons.mpr ⟨wg_424, List.forall_mem_cons.mpr ⟨wg_58, fun _ h => absurd h List.not_mem_nil⟩⟩⟩⟩⟩, Or.inl rfl, by decide +kernel⟩
theorem wg_429 : Cond.methodLink RX2 66 yX3_targetOf ∈ mgood := mgood_in (w := Cond.methodLink RX2 66 yX3_targetOf) (List.mem_of_getElem? (i := 429) (by decide +kernel)) rfl
theorem cv_X2_66 : mcV RX2 66 yX3_targetOf 2 := ⟨wg_429, wg_303, wg_304, wg_54, by decide +kernel⟩
theorem wg_430 : Cond.methodLink RX2 71 yX3_kindOf ∈ mgood := mgood_in (w := Cond.methodLink RX2 71 yX3_kindOf) (List.mem_of_getElem? (i := 430) (by decide +kernel)) rfl
theorem cv_X2_71 : mcV RX2 71 yX3_kindOf 1 := ⟨wg_430, wg_288, wg_289, wg_54, by decide +kernel⟩
theorem wg_431 : Cond.methodLink RX2 74 ⟨"MirroredTalks$Pairs", "goTogether", "(II)Z"⟩ ∈ mgood := mgood_in (w := Cond.methodLink RX2 74 ⟨"MirroredTalks$Pairs", "goTogether", "(II)Z"⟩) (List.mem_of_getElem? (i := 431) (by decide +kernel)) rfl
theorem wg_433 : Cond.sameMethod "MirroredTalks$Pairs" "MirroredTalks$Pairs" "goTogether" "(II)Z" ∈ mgood := mgood_in (w := Cond.sameMethod "MirroredTalks$Pairs" "MirroredTalks$Pairs" "goTogether" "(II)Z") (List.mem_of_getElem? (i := 433) (by decide +kernel)) rfl
theorem wg_434 : Cond.selects RX6 ⟨"MirroredTalks$Pairs", "goTogether", "(II)Z"⟩ yX6_goTogether ∈ mgood := mgood_in (w := Cond.selects RX6 ⟨"MirroredTalks$Pairs", "goTogether", "(II)Z"⟩ yX6_goTogether) (List.mem_of_getElem? (i := 434) (by decide +kernel)) rfl
theorem wg_435 : Cond.instanceMethod yX6_goTogether ∈ mgood := mgood_in (w := Cond.instanceMethod yX6_goTogether) (List.mem_of_getElem? (i := 435) (by decide +kernel)) rfl
theorem wg_61 : Cond.initialized RX6 ∈ mgood := mgood_in (w := Cond.initialized RX6) (List.mem_of_getElem? (i := 61) (by decide +kernel)) rfl
theorem wn_432 : Cond.declares ⟨"MirroredTalks$Pairs", "goTogether", "(II)Z"⟩ ∈ mnest := mnest_in (w := Cond.declares ⟨"MirroredTalks$Pairs", "goTogether", "(II)Z"⟩) (List.mem_of_getElem? (i := 432) (by decide +kernel)) rfl
theorem cu_X2_74_X6 : mcU RX2 74 RX6 "MirroredTalks$Pairs" ⟨"MirroredTalks$Pairs", "goTogether", "(II)Z"⟩ yX6_goTogether 2 := ⟨List.forall_mem_cons.mpr ⟨wg_431, List.forall_mem_cons.mpr ⟨wg_433, List.forall_mem_cons.mpr ⟨wg_434, List.forall_mem_cons.mpr ⟨wg_435, List.forall_mem_cons.mpr ⟨wg_61, fun _ h => absurd h List.not_mem_nil⟩⟩⟩⟩⟩, Or.inr wn_432, by decide +kernel⟩
theorem wg_437 : Cond.selects RX7 ⟨"MirroredTalks$Pairs", "goTogether", "(II)Z"⟩ yX7_goTogether ∈ mgood := mgood_in (w := Cond.selects RX7 ⟨"MirroredTalks$Pairs", "goTogether", "(II)Z"⟩ yX7_goTogether) (List.mem_of_getElem? (i := 437) (by decide +kernel)) rfl
theorem wg_438 : Cond.instanceMethod yX7_goTogether ∈ mgood := mgood_in (w := Cond.instanceMethod yX7_goTogether) (List.mem_of_getElem? (i := 438) (by decide +kernel)) rfl
theorem cu_X2_74_X7 : mcU RX2 74 RX7 "MirroredTalks$Pairs" ⟨"MirroredTalks$Pairs", "goTogether", "(II)Z"⟩ yX7_goTogether 2 := ⟨List.forall_mem_cons.mpr ⟨wg_431, List.forall_mem_cons.mpr ⟨wg_433, List.forall_mem_cons.mpr ⟨wg_437, List.forall_mem_cons.mpr ⟨wg_438, List.forall_mem_cons.mpr ⟨wg_59, fun _ h => absurd h List.not_mem_nil⟩⟩⟩⟩⟩, Or.inr wn_432, by decide +kernel⟩
theorem wg_458 : Cond.methodLink RX2 78 yX3_wordsOf ∈ mgood := mgood_in (w := Cond.methodLink RX2 78 yX3_wordsOf) (List.mem_of_getElem? (i := 458) (by decide +kernel)) rfl
theorem cv_X2_78 : mcV RX2 78 yX3_wordsOf 1 := ⟨wg_458, wg_299, wg_300, wg_54, by decide +kernel⟩
theorem wg_459 : Cond.methodLink RX2 81 ⟨"MirroredTalks$Pairs", "reasonFor", "(IIII)I"⟩ ∈ mgood := mgood_in (w := Cond.methodLink RX2 81 ⟨"MirroredTalks$Pairs", "reasonFor", "(IIII)I"⟩) (List.mem_of_getElem? (i := 459) (by decide +kernel)) rfl
theorem wg_461 : Cond.sameMethod "MirroredTalks$Pairs" "MirroredTalks$Pairs" "reasonFor" "(IIII)I" ∈ mgood := mgood_in (w := Cond.sameMethod "MirroredTalks$Pairs" "MirroredTalks$Pairs" "reasonFor" "(IIII)I") (List.mem_of_getElem? (i := 461) (by decide +kernel)) rfl
theorem wg_462 : Cond.selects RX6 ⟨"MirroredTalks$Pairs", "reasonFor", "(IIII)I"⟩ yX6_reasonFor ∈ mgood := mgood_in (w := Cond.selects RX6 ⟨"MirroredTalks$Pairs", "reasonFor", "(IIII)I"⟩ yX6_reasonFor) (List.mem_of_getElem? (i := 462) (by decide +kernel)) rfl
theorem wg_463 : Cond.instanceMethod yX6_reasonFor ∈ mgood := mgood_in (w := Cond.instanceMethod yX6_reasonFor) (List.mem_of_getElem? (i := 463) (by decide +kernel)) rfl
theorem wn_460 : Cond.declares ⟨"MirroredTalks$Pairs", "reasonFor", "(IIII)I"⟩ ∈ mnest := mnest_in (w := Cond.declares ⟨"MirroredTalks$Pairs", "reasonFor", "(IIII)I"⟩) (List.mem_of_getElem? (i := 460) (by decide +kernel)) rfl
theorem cu_X2_81_X6 : mcU RX2 81 RX6 "MirroredTalks$Pairs" ⟨"MirroredTalks$Pairs", "reasonFor", "(IIII)I"⟩ yX6_reasonFor 4 := ⟨List.forall_mem_cons.mpr ⟨wg_459, List.forall_mem_cons.mpr ⟨wg_461, List.forall_mem_cons.mpr ⟨wg_462, List.forall_mem_cons.mpr ⟨wg_463, List.forall_mem_cons.mpr ⟨wg_61, fun _ h => absurd h List.not_mem_nil⟩⟩⟩⟩⟩, Or.inr wn_460, by decide +kernel⟩
theorem wg_469 : Cond.selects RX7 ⟨"MirroredTalks$Pairs", "reasonFor", "(IIII)I"⟩ yX7_reasonFor ∈ mgood := mgood_in (w := Cond.selects RX7 ⟨"MirroredTalks$Pairs", "reasonFor", "(IIII)I"⟩ yX7_reasonFor) (List.mem_of_getElem? (i := 469) (by decide +kernel)) rfl
theorem wg_470 : Cond.instanceMethod yX7_reasonFor ∈ mgood := mgood_in (w := Cond.instanceMethod yX7_reasonFor) (List.mem_of_getElem? (i := 470) (by decide +kernel)) rfl
theorem cu_X2_81_X7 : mcU RX2 81 RX7 "MirroredTalks$Pairs" ⟨"MirroredTalks$Pairs", "reasonFor", "(IIII)I"⟩ yX7_reasonFor 4 := ⟨List.forall_mem_cons.mpr ⟨wg_459, List.forall_mem_cons.mpr ⟨wg_461, List.forall_mem_cons.mpr ⟨wg_469, List.forall_mem_cons.mpr ⟨wg_470, List.forall_mem_cons.mpr ⟨wg_59, fun _ h => absurd h List.not_mem_nil⟩⟩⟩⟩⟩, Or.inr wn_460, by decide +kernel⟩
theorem wg_502 : Cond.methodLink RX2 85 ⟨"MirroredTalks$Pairs", "kindOfOne", "(I)I"⟩ ∈ mgood := mgood_in (w := Cond.methodLink RX2 85 ⟨"MirroredTalks$Pairs", "kindOfOne", "(I)I"⟩) (List.mem_of_getElem? (i := 502) (by decide +kernel)) rfl
theorem wg_504 : Cond.sameMethod "MirroredTalks$Pairs" "MirroredTalks$Pairs" "kindOfOne" "(I)I" ∈ mgood := mgood_in (w := Cond.sameMethod "MirroredTalks$Pairs" "MirroredTalks$Pairs" "kindOfOne" "(I)I") (List.mem_of_getElem? (i := 504) (by decide +kernel)) rfl
theorem wg_505 : Cond.selects RX6 ⟨"MirroredTalks$Pairs", "kindOfOne", "(I)I"⟩ yX2_kindOfOne ∈ mgood := mgood_in (w := Cond.selects RX6 ⟨"MirroredTalks$Pairs", "kindOfOne", "(I)I"⟩ yX2_kindOfOne) (List.mem_of_getElem? (i := 505) (by decide +kernel)) rfl
theorem wg_503 : Cond.instanceMethod yX2_kindOfOne ∈ mgood := mgood_in (w := Cond.instanceMethod yX2_kindOfOne) (List.mem_of_getElem? (i := 503) (by decide +kernel)) rfl
theorem cu_X2_85_X6 : mcU RX2 85 RX6 "MirroredTalks$Pairs" ⟨"MirroredTalks$Pairs", "kindOfOne", "(I)I"⟩ yX2_kindOfOne 1 := ⟨List.forall_mem_cons.mpr ⟨wg_502, List.forall_mem_cons.mpr ⟨wg_504, List.forall_mem_cons.mpr ⟨wg_505, List.forall_mem_cons.mpr ⟨wg_503, List.forall_mem_cons.mpr ⟨wg_58, fun _ h => absurd h List.not_mem_nil⟩⟩⟩⟩⟩, Or.inl rfl, by decide +kernel⟩
theorem wg_506 : Cond.selects RX7 ⟨"MirroredTalks$Pairs", "kindOfOne", "(I)I"⟩ yX2_kindOfOne ∈ mgood := mgood_in (w := Cond.selects RX7 ⟨"MirroredTalks$Pairs", "kindOfOne", "(I)I"⟩ yX2_kindOfOne) (List.mem_of_getElem? (i := 506) (by decide +kernel)) rfl
theorem cu_X2_85_X7 : mcU RX2 85 RX7 "MirroredTalks$Pairs" ⟨"MirroredTalks$Pairs", "kindOfOne", "(I)I"⟩ yX2_kindOfOne 1 := ⟨List.forall_mem_cons.mpr ⟨wg_502, List.forall_mem_cons.mpr ⟨wg_504, List.forall_mem_cons.mpr ⟨wg_506, List.forall_mem_cons.mpr ⟨wg_503, List.forall_mem_cons.mpr ⟨wg_58, fun _ h => absurd h List.not_mem_nil⟩⟩⟩⟩⟩, Or.inl rfl, by decide +kernel⟩
theorem wg_508 : Cond.methodLink RX2 88 ⟨"MirroredTalks$Pairs", "kindOfOther", "(I)I"⟩ ∈ mgood := mgood_in (w := Cond.methodLink RX2 88 ⟨"MirroredTalks$Pairs", "kindOfOther", "(I)I"⟩) (List.mem_of_getElem? (i := 508) (by decide +kernel)) rfl
theorem wg_510 : Cond.sameMethod "MirroredTalks$Pairs" "MirroredTalks$Pairs" "kindOfOther" "(I)I" ∈ mgood := mgood_in (w := Cond.sameMethod "MirroredTalks$Pairs" "MirroredTalks$Pairs" "kindOfOther" "(I)I") (List.mem_of_getElem? (i := 510) (by decide +kernel)) rfl
theorem wg_511 : Cond.selects RX6 ⟨"MirroredTalks$Pairs", "kindOfOther", "(I)I"⟩ yX2_kindOfOther ∈ mgood := mgood_in (w := Cond.selects RX6 ⟨"MirroredTalks$Pairs", "kindOfOther", "(I)I"⟩ yX2_kindOfOther) (List.mem_of_getElem? (i := 511) (by decide +kernel)) rfl
theorem wg_509 : Cond.instanceMethod yX2_kindOfOther ∈ mgood := mgood_in (w := Cond.instanceMethod yX2_kindOfOther) (List.mem_of_getElem? (i := 509) (by decide +kernel)) rfl
theorem cu_X2_88_X6 : mcU RX2 88 RX6 "MirroredTalks$Pairs" ⟨"MirroredTalks$Pairs", "kindOfOther", "(I)I"⟩ yX2_kindOfOther 1 := ⟨List.forall_mem_cons.mpr ⟨wg_508, List.forall_mem_cons.mpr ⟨wg_510, List.forall_mem_cons.mpr ⟨wg_511, List.forall_mem_cons.mpr ⟨wg_509, List.forall_mem_cons.mpr ⟨wg_58, fun _ h => absurd h List.not_mem_nil⟩⟩⟩⟩⟩, Or.inl rfl, by decide +kernel⟩
theorem wg_512 : Cond.selects RX7 ⟨"MirroredTalks$Pairs", "kindOfOther", "(I)I"⟩ yX2_kindOfOther ∈ mgood := mgood_in (w := Cond.selects RX7 ⟨"MirroredTalks$Pairs", "kindOfOther", "(I)I"⟩ yX2_kindOfOther) (List.mem_of_getElem? (i := 512) (by decide +kernel)) rfl
theorem cu_X2_88_X7 : mcU RX2 88 RX7 "MirroredTalks$Pairs" ⟨"MirroredTalks$Pairs", "kindOfOther", "(I)I"⟩ yX2_kindOfOther 1 := ⟨List.forall_mem_cons.mpr ⟨wg_508, List.forall_mem_cons.mpr ⟨wg_510, List.forall_mem_cons.mpr ⟨wg_512, List.forall_mem_cons.mpr ⟨wg_509, List.forall_mem_cons.mpr ⟨wg_58, fun _ h => absurd h List.not_mem_nil⟩⟩⟩⟩⟩, Or.inl rfl, by decide +kernel⟩
theorem wg_514 : Cond.methodLink RX2 91 yX2_lackedWords ∈ mgood := mgood_in (w := Cond.methodLink RX2 91 yX2_lackedWords) (List.mem_of_getElem? (i := 514) (by decide +kernel)) rfl
theorem wg_467 : Cond.static yX2_lackedWords ∈ mgood := mgood_in (w := Cond.static yX2_lackedWords) (List.mem_of_getElem? (i := 467) (by decide +kernel)) rfl
theorem cs_X2_91 : mcS RX2 91 yX2_lackedWords (3) := ⟨wg_514, wg_467, wg_58, by decide +kernel⟩
theorem wn_515 : Cond.methodLinkNest RX2 95 yX8_firstWordIn "MirroredTalks" ∈ mnest := mnest_in (w := Cond.methodLinkNest RX2 95 yX8_firstWordIn "MirroredTalks") (List.mem_of_getElem? (i := 515) (by decide +kernel)) rfl
theorem wg_516 : Cond.static yX8_firstWordIn ∈ mgood := mgood_in (w := Cond.static yX8_firstWordIn) (List.mem_of_getElem? (i := 516) (by decide +kernel)) rfl
theorem cn_X2_95 : mcN RX2 95 yX8_firstWordIn (1) := ⟨⟨_, wn_515⟩, wg_516, wg_53, by decide +kernel⟩
theorem wg_452 : Cond.methodLink RX2 98 ⟨"MirroredTalks$Pairs", "reasonOf", "(I)I"⟩ ∈ mgood := mgood_in (w := Cond.methodLink RX2 98 ⟨"MirroredTalks$Pairs", "reasonOf", "(I)I"⟩) (List.mem_of_getElem? (i := 452) (by decide +kernel)) rfl
theorem wg_454 : Cond.sameMethod "MirroredTalks$Pairs" "MirroredTalks$Pairs" "reasonOf" "(I)I" ∈ mgood := mgood_in (w := Cond.sameMethod "MirroredTalks$Pairs" "MirroredTalks$Pairs" "reasonOf" "(I)I") (List.mem_of_getElem? (i := 454) (by decide +kernel)) rfl
theorem wg_455 : Cond.selects RX6 ⟨"MirroredTalks$Pairs", "reasonOf", "(I)I"⟩ yX2_reasonOf ∈ mgood := mgood_in (w := Cond.selects RX6 ⟨"MirroredTalks$Pairs", "reasonOf", "(I)I"⟩ yX2_reasonOf) (List.mem_of_getElem? (i := 455) (by decide +kernel)) rfl
theorem wg_453 : Cond.instanceMethod yX2_reasonOf ∈ mgood := mgood_in (w := Cond.instanceMethod yX2_reasonOf) (List.mem_of_getElem? (i := 453) (by decide +kernel)) rfl
theorem cu_X2_98_X6 : mcU RX2 98 RX6 "MirroredTalks$Pairs" ⟨"MirroredTalks$Pairs", "reasonOf", "(I)I"⟩ yX2_reasonOf 1 := ⟨List.forall_mem_cons.mpr ⟨wg_452, List.forall_mem_cons.mpr ⟨wg_454, List.forall_mem_cons.mpr ⟨wg_455, List.forall_mem_cons.mpr ⟨wg_453, List.forall_mem_cons.mpr ⟨wg_58, fun _ h => absurd h List.not_mem_nil⟩⟩⟩⟩⟩, Or.inl rfl, by decide +kernel⟩
theorem wg_456 : Cond.selects RX7 ⟨"MirroredTalks$Pairs", "reasonOf", "(I)I"⟩ yX2_reasonOf ∈ mgood := mgood_in (w := Cond.selects RX7 ⟨"MirroredTalks$Pairs", "reasonOf", "(I)I"⟩ yX2_reasonOf) (List.mem_of_getElem? (i := 456) (by decide +kernel)) rfl
theorem cu_X2_98_X7 : mcU RX2 98 RX7 "MirroredTalks$Pairs" ⟨"MirroredTalks$Pairs", "reasonOf", "(I)I"⟩ yX2_reasonOf 1 := ⟨List.forall_mem_cons.mpr ⟨wg_452, List.forall_mem_cons.mpr ⟨wg_454, List.forall_mem_cons.mpr ⟨wg_456, List.forall_mem_cons.mpr ⟨wg_453, List.forall_mem_cons.mpr ⟨wg_58, fun _ h => absurd h List.not_mem_nil⟩⟩⟩⟩⟩, Or.inl rfl, by decide +kernel⟩
theorem wx_4 : Cond.selects RX6 yX2_firstLackedWord yX2_firstLackedWord ∈ mgood := mgood_inx (List.mem_of_getElem? (i := 4) rfl) rfl
theorem wg_498 : Cond.methodLink RX2 101 ⟨"MirroredTalks$Pairs", "firstLackedWord", "(I)I"⟩ ∈ mgood := mgood_in (w := Cond.methodLink RX2 101 ⟨"MirroredTalks$Pairs", "firstLackedWord", "(I)I"⟩) (List.mem_of_getElem? (i := 498) (by decide +kernel)) rfl
theorem wg_1119 : Cond.sameMethod "MirroredTalks$Pairs" "MirroredTalks$Pairs" "firstLackedWord" "(I)I" ∈ mgood := mgood_in (w := Cond.sameMethod "MirroredTalks$Pairs" "MirroredTalks$Pairs" "firstLackedWord" "(I)I") (List.mem_of_getElem? (i := 1119) (by decide +kernel)) rfl
theorem wg_500 : Cond.instanceMethod yX2_firstLackedWord ∈ mgood := mgood_in (w := Cond.instanceMethod yX2_firstLackedWord) (List.mem_of_getElem? (i := 500) (by decide +kernel)) rfl
theorem cu_X2_101_X6 : mcU RX2 101 RX6 "MirroredTalks$Pairs" ⟨"MirroredTalks$Pairs", "firstLackedWord", "(I)I"⟩ yX2_firstLackedWord 1 := ⟨List.forall_mem_cons.mpr ⟨wg_498, List.forall_mem_cons.mpr ⟨wg_1119, List.forall_mem_cons.mpr ⟨wx_4, List.forall_mem_cons.mpr ⟨wg_500, List.forall_mem_cons.mpr ⟨wg_58, fun _ h => absurd h List.not_mem_nil⟩⟩⟩⟩⟩, Or.inl rfl, by decide +kernel⟩
theorem wx_5 : Cond.selects RX7 yX2_firstLackedWord yX2_firstLackedWord ∈ mgood := mgood_inx (List.mem_of_getElem? (i := 5) rfl) rfl
theorem cu_X2_101_X7 : mcU RX2 101 RX7 "MirroredTalks$Pairs" ⟨"MirroredTalks$Pairs", "firstLackedWord", "(I)I"⟩ yX2_firstLackedWord 1 := ⟨List.forall_mem_cons.mpr ⟨wg_498, List.forall_mem_cons.mpr ⟨wg_1119, List.forall_mem_cons.mpr ⟨wx_5, List.forall_mem_cons.mpr ⟨wg_500, List.forall_mem_cons.mpr ⟨wg_58, fun _ h => absurd h List.not_mem_nil⟩⟩⟩⟩⟩, Or.inl rfl, by decide +kernel⟩
theorem wn_518 : Cond.methodLinkNest RX2 104 yX8_foundOr "MirroredTalks" ∈ mnest := mnest_in (w := Cond.methodLinkNest RX2 104 yX8_foundOr "MirroredTalks") (List.mem_of_getElem? (i := 518) (by decide +kernel)) rfl
theorem cn_X2_104 : mcN RX2 104 yX8_foundOr (1) := ⟨⟨_, wn_518⟩, wg_382, wg_53, by decide +kernel⟩
theorem wx_6 : Cond.selects RX6 yX2_wordOfRow yX2_wordOfRow ∈ mgood := mgood_inx (List.mem_of_getElem? (i := 6) rfl) rfl
theorem wg_519 : Cond.methodLink RX2 107 ⟨"MirroredTalks$Pairs", "wordOfRow", "(II)I"⟩ ∈ mgood := mgood_in (w := Cond.methodLink RX2 107 ⟨"MirroredTalks$Pairs", "wordOfRow", "(II)I"⟩) (List.mem_of_getElem? (i := 519) (by decide +kernel)) rfl
theorem wg_1120 : Cond.sameMethod "MirroredTalks$Pairs" "MirroredTalks$Pairs" "wordOfRow" "(II)I" ∈ mgood := mgood_in (w := Cond.sameMethod "MirroredTalks$Pairs" "MirroredTalks$Pairs" "wordOfRow" "(II)I") (List.mem_of_getElem? (i := 1120) (by decide +kernel)) rfl
theorem wg_521 : Cond.instanceMethod yX2_wordOfRow ∈ mgood := mgood_in (w := Cond.instanceMethod yX2_wordOfRow) (List.mem_of_getElem? (i := 521) (by decide +kernel)) rfl
theorem cu_X2_107_X6 : mcU RX2 107 RX6 "MirroredTalks$Pairs" ⟨"MirroredTalks$Pairs", "wordOfRow", "(II)I"⟩ yX2_wordOfRow 2 := ⟨List.forall_mem_cons.mpr ⟨wg_519, List.forall_mem_cons.mpr ⟨wg_1120, List.forall_mem_cons.mpr ⟨wx_6, List.forall_mem_cons.mpr ⟨wg_521, List.forall_mem_cons.mpr ⟨wg_58, fun _ h => absurd h List.not_mem_nil⟩⟩⟩⟩⟩, Or.inl rfl, by decide +kernel⟩
theorem wx_7 : Cond.selects RX7 yX2_wordOfRow yX2_wordOfRow ∈ mgood := mgood_inx (List.mem_of_getElem? (i := 7) rfl) rfl
theorem cu_X2_107_X7 : mcU RX2 107 RX7 "MirroredTalks$Pairs" ⟨"MirroredTalks$Pairs", "wordOfRow", "(II)I"⟩ yX2_wordOfRow 2 := ⟨List.forall_mem_cons.mpr ⟨wg_519, List.forall_mem_cons.mpr ⟨wg_1120, List.forall_mem_cons.mpr ⟨wx_7, List.forall_mem_cons.mpr ⟨wg_521, List.forall_mem_cons.mpr ⟨wg_58, fun _ h => absurd h List.not_mem_nil⟩⟩⟩⟩⟩, Or.inl rfl, by decide +kernel⟩
theorem wg_81 : Cond.methodLink RX3 15 yX3_clear ∈ mgood := mgood_in (w := Cond.methodLink RX3 15 yX3_clear) (List.mem_of_getElem? (i := 81) (by decide +kernel)) rfl
theorem wg_82 : Cond.instanceMethod yX3_clear ∈ mgood := mgood_in (w := Cond.instanceMethod yX3_clear) (List.mem_of_getElem? (i := 82) (by decide +kernel)) rfl
theorem wg_83 : Cond.selects RX3 yX3_clear yX3_clear ∈ mgood := mgood_in (w := Cond.selects RX3 yX3_clear yX3_clear) (List.mem_of_getElem? (i := 83) (by decide +kernel)) rfl
theorem cv_X3_15 : mcV RX3 15 yX3_clear 0 := ⟨wg_81, wg_82, wg_83, wg_54, by decide +kernel⟩
theorem wg_85 : Cond.methodLink RX3 18 yX3_setKind ∈ mgood := mgood_in (w := Cond.methodLink RX3 18 yX3_setKind) (List.mem_of_getElem? (i := 85) (by decide +kernel)) rfl
theorem cv_X3_18 : mcV RX3 18 yX3_setKind 2 := ⟨wg_85, wg_86, wg_87, wg_54, by decide +kernel⟩
theorem wg_92 : Cond.methodLink RX3 22 yX3_setTarget ∈ mgood := mgood_in (w := Cond.methodLink RX3 22 yX3_setTarget) (List.mem_of_getElem? (i := 92) (by decide +kernel)) rfl
theorem cv_X3_22 : mcV RX3 22 yX3_setTarget 3 := ⟨wg_92, wg_93, wg_94, wg_54, by decide +kernel⟩
theorem wn_89 : Cond.methodLinkNest RX3 26 yX8_isState "MirroredTalks" ∈ mnest := mnest_in (w := Cond.methodLinkNest RX3 26 yX8_isState "MirroredTalks") (List.mem_of_getElem? (i := 89) (by decide +kernel)) rfl
theorem cn_X3_26 : mcN RX3 26 yX8_isState (1) := ⟨⟨_, wn_89⟩, wg_90, wg_53, by decide +kernel⟩
theorem wn_96 : Cond.methodLinkNest RX3 30 yX8_isWord "MirroredTalks" ∈ mnest := mnest_in (w := Cond.methodLinkNest RX3 30 yX8_isWord "MirroredTalks") (List.mem_of_getElem? (i := 96) (by decide +kernel)) rfl
theorem cn_X3_30 : mcN RX3 30 yX8_isWord (1) := ⟨⟨_, wn_96⟩, wg_97, wg_53, by decide +kernel⟩
theorem wg_302 : Cond.methodLink RX3 33 yX3_targetOf ∈ mgood := mgood_in (w := Cond.methodLink RX3 33 yX3_targetOf) (List.mem_of_getElem? (i := 302) (by decide +kernel)) rfl
theorem cv_X3_33 : mcV RX3 33 yX3_targetOf 2 := ⟨wg_302, wg_303, wg_304, wg_54, by decide +kernel⟩
theorem wg_663 : Cond.methodLink RX3 37 yX3_wordsOf ∈ mgood := mgood_in (w := Cond.methodLink RX3 37 yX3_wordsOf) (List.mem_of_getElem? (i := 663) (by decide +kernel)) rfl
theorem cv_X3_37 : mcV RX3 37 yX3_wordsOf 1 := ⟨wg_663, wg_299, wg_300, wg_54, by decide +kernel⟩
theorem wg_664 : Cond.methodLink RX3 41 yJ6_bitCount_0f7a4 ∈ mgood := mgood_in (w := Cond.methodLink RX3 41 yJ6_bitCount_0f7a4) (List.mem_of_getElem? (i := 664) (by decide +kernel)) rfl
theorem cs_X3_41 : mcS RX3 41 yJ6_bitCount_0f7a4 (1) := ⟨wg_664, wg_307, wg_64, by decide +kernel⟩
theorem wg_330 : Cond.methodLink RX3 46 yX3_kindOf ∈ mgood := mgood_in (w := Cond.methodLink RX3 46 yX3_kindOf) (List.mem_of_getElem? (i := 330) (by decide +kernel)) rfl
theorem cv_X3_46 : mcV RX3 46 yX3_kindOf 1 := ⟨wg_330, wg_288, wg_289, wg_54, by decide +kernel⟩
theorem wn_374 : Cond.methodLinkNest RX3 49 yX8_holds "MirroredTalks" ∈ mnest := mnest_in (w := Cond.methodLinkNest RX3 49 yX8_holds "MirroredTalks") (List.mem_of_getElem? (i := 374) (by decide +kernel)) rfl
theorem cn_X3_49 : mcN RX3 49 yX8_holds (2) := ⟨⟨_, wn_374⟩, wg_375, wg_53, by decide +kernel⟩
theorem wg_377 : Cond.methodLink RX3 53 yX3_statesBehind ∈ mgood := mgood_in (w := Cond.methodLink RX3 53 yX3_statesBehind) (List.mem_of_getElem? (i := 377) (by decide +kernel)) rfl
theorem wg_379 : Cond.instanceMethod yX3_statesBehind ∈ mgood := mgood_in (w := Cond.instanceMethod yX3_statesBehind) (List.mem_of_getElem? (i := 379) (by decide +kernel)) rfl
theorem wg_5 : Cond.selects RX3 yX3_statesBehind yX3_statesBehind ∈ mgood := mgood_in (w := Cond.selects RX3 yX3_statesBehind yX3_statesBehind) (List.mem_of_getElem? (i := 5) (by decide +kernel)) rfl
theorem cv_X3_53 : mcV RX3 53 yX3_statesBehind 1 := ⟨wg_377, wg_379, wg_5, wg_54, by decide +kernel⟩
theorem wg_766 : Cond.methodLink RX4 29 yJ6_bitCount_0f7a4 ∈ mgood := mgood_in (w := Cond.methodLink RX4 29 yJ6_bitCount_0f7a4) (List.mem_of_getElem? (i := 766) (by decide +kernel)) rfl
theorem cs_X4_29 : mcS RX4 29 yJ6_bitCount_0f7a4 (1) := ⟨wg_766, wg_307, wg_64, by decide +kernel⟩
theorem wg_714 : Cond.methodLink RX4 44 yX3_clear ∈ mgood := mgood_in (w := Cond.methodLink RX4 44 yX3_clear) (List.mem_of_getElem? (i := 714) (by decide +kernel)) rfl
theorem cv_X4_44 : mcV RX4 44 yX3_clear 0 := ⟨wg_714, wg_82, wg_83, wg_54, by decide +kernel⟩
theorem wg_715 : Cond.methodLink RX4 47 yX4_setFault ∈ mgood := mgood_in (w := Cond.methodLink RX4 47 yX4_setFault) (List.mem_of_getElem? (i := 715) (by decide +kernel)) rfl
theorem wg_717 : Cond.instanceMethod yX4_setFault ∈ mgood := mgood_in (w := Cond.instanceMethod yX4_setFault) (List.mem_of_getElem? (i := 717) (by decide +kernel)) rfl
theorem wg_10 : Cond.selects RX4 yX4_setFault yX4_setFault ∈ mgood := mgood_in (w := Cond.selects RX4 yX4_setFault yX4_setFault) (List.mem_of_getElem? (i := 10) (by decide +kernel)) rfl
theorem cv_X4_47 : mcV RX4 47 yX4_setFault 3 := ⟨wg_715, wg_717, wg_10, wg_56, by decide +kernel⟩
theorem wg_719 : Cond.methodLink RX4 51 yX4_isFaulty ∈ mgood := mgood_in (w := Cond.methodLink RX4 51 yX4_isFaulty) (List.mem_of_getElem? (i := 719) (by decide +kernel)) rfl
theorem cv_X4_51 : mcV RX4 51 yX4_isFaulty 0 := ⟨wg_719, wg_720, wg_721, wg_56, by decide +kernel⟩
theorem wg_723 : Cond.methodLink RX4 55 yX4_characterAt ∈ mgood := mgood_in (w := Cond.methodLink RX4 55 yX4_characterAt) (List.mem_of_getElem? (i := 723) (by decide +kernel)) rfl
theorem wg_725 : Cond.instanceMethod yX4_characterAt ∈ mgood := mgood_in (w := Cond.instanceMethod yX4_characterAt) (List.mem_of_getElem? (i := 725) (by decide +kernel)) rfl
theorem wg_11 : Cond.selects RX4 yX4_characterAt yX4_characterAt ∈ mgood := mgood_in (w := Cond.selects RX4 yX4_characterAt yX4_characterAt) (List.mem_of_getElem? (i := 11) (by decide +kernel)) rfl
theorem cv_X4_55 : mcV RX4 55 yX4_characterAt 1 := ⟨wg_723, wg_725, wg_11, wg_56, by decide +kernel⟩
theorem wg_728 : Cond.methodLink RX4 58 yX4_after ∈ mgood := mgood_in (w := Cond.methodLink RX4 58 yX4_after) (List.mem_of_getElem? (i := 728) (by decide +kernel)) rfl
theorem wg_729 : Cond.static yX4_after ∈ mgood := mgood_in (w := Cond.static yX4_after) (List.mem_of_getElem? (i := 729) (by decide +kernel)) rfl
theorem cs_X4_58 : mcS RX4 58 yX4_after (2) := ⟨wg_728, wg_729, wg_56, by decide +kernel⟩
theorem wg_733 : Cond.methodLink RX4 62 yX4_takeState ∈ mgood := mgood_in (w := Cond.methodLink RX4 62 yX4_takeState) (List.mem_of_getElem? (i := 733) (by decide +kernel)) rfl
theorem wg_735 : Cond.instanceMethod yX4_takeState ∈ mgood := mgood_in (w := Cond.instanceMethod yX4_takeState) (List.mem_of_getElem? (i := 735) (by decide +kernel)) rfl
theorem wg_12 : Cond.selects RX4 yX4_takeState yX4_takeState ∈ mgood := mgood_in (w := Cond.selects RX4 yX4_takeState yX4_takeState) (List.mem_of_getElem? (i := 12) (by decide +kernel)) rfl
theorem cv_X4_62 : mcV RX4 62 yX4_takeState 2 := ⟨wg_733, wg_735, wg_12, wg_56, by decide +kernel⟩
theorem wn_731 : Cond.methodLinkNest RX4 66 yX8_isState "MirroredTalks" ∈ mnest := mnest_in (w := Cond.methodLinkNest RX4 66 yX8_isState "MirroredTalks") (List.mem_of_getElem? (i := 731) (by decide +kernel)) rfl
theorem cn_X4_66 : mcN RX4 66 yX8_isState (1) := ⟨⟨_, wn_731⟩, wg_90, wg_53, by decide +kernel⟩
theorem wn_732 : Cond.methodLinkNest RX4 70 yX8_isWord "MirroredTalks" ∈ mnest := mnest_in (w := Cond.methodLinkNest RX4 70 yX8_isWord "MirroredTalks") (List.mem_of_getElem? (i := 732) (by decide +kernel)) rfl
theorem cn_X4_70 : mcN RX4 70 yX8_isWord (1) := ⟨⟨_, wn_732⟩, wg_97, wg_53, by decide +kernel⟩
theorem wn_737 : Cond.methodLinkNest RX4 73 yX8_holds "MirroredTalks" ∈ mnest := mnest_in (w := Cond.methodLinkNest RX4 73 yX8_holds "MirroredTalks") (List.mem_of_getElem? (i := 737) (by decide +kernel)) rfl
theorem cn_X4_73 : mcN RX4 73 yX8_holds (2) := ⟨⟨_, wn_737⟩, wg_375, wg_53, by decide +kernel⟩
theorem wg_738 : Cond.methodLink RX4 77 yX3_setKind ∈ mgood := mgood_in (w := Cond.methodLink RX4 77 yX3_setKind) (List.mem_of_getElem? (i := 738) (by decide +kernel)) rfl
theorem cv_X4_77 : mcV RX4 77 yX3_setKind 2 := ⟨wg_738, wg_86, wg_87, wg_54, by decide +kernel⟩
theorem wg_739 : Cond.methodLink RX4 80 yX3_targetOf ∈ mgood := mgood_in (w := Cond.methodLink RX4 80 yX3_targetOf) (List.mem_of_getElem? (i := 739) (by decide +kernel)) rfl
theorem cv_X4_80 : mcV RX4 80 yX3_targetOf 2 := ⟨wg_739, wg_303, wg_304, wg_54, by decide +kernel⟩
theorem wg_740 : Cond.methodLink RX4 83 yX3_setTarget ∈ mgood := mgood_in (w := Cond.methodLink RX4 83 yX3_setTarget) (List.mem_of_getElem? (i := 740) (by decide +kernel)) rfl
theorem cv_X4_83 : mcV RX4 83 yX3_setTarget 3 := ⟨wg_740, wg_93, wg_94, wg_54, by decide +kernel⟩
theorem wn_727 : Cond.methodLinkNest RX4 86 yX8_cellOf "MirroredTalks" ∈ mnest := mnest_in (w := Cond.methodLinkNest RX4 86 yX8_cellOf "MirroredTalks") (List.mem_of_getElem? (i := 727) (by decide +kernel)) rfl
theorem cn_X4_86 : mcN RX4 86 yX8_cellOf (2) := ⟨⟨_, wn_727⟩, wg_421, wg_53, by decide +kernel⟩
theorem wg_562 : Cond.methodLink RX5 22 yX5_countWays ∈ mgood := mgood_in (w := Cond.methodLink RX5 22 yX5_countWays) (List.mem_of_getElem? (i := 562) (by decide +kernel)) rfl
theorem wg_564 : Cond.instanceMethod yX5_countWays ∈ mgood := mgood_in (w := Cond.instanceMethod yX5_countWays) (List.mem_of_getElem? (i := 564) (by decide +kernel)) rfl
theorem wg_6 : Cond.selects RX5 yX5_countWays yX5_countWays ∈ mgood := mgood_in (w := Cond.selects RX5 yX5_countWays yX5_countWays) (List.mem_of_getElem? (i := 6) (by decide +kernel)) rfl
theorem cv_X5_22 : mcV RX5 22 yX5_countWays 1 := ⟨wg_562, wg_564, wg_6, wg_60, by decide +kernel⟩
theorem wg_580 : Cond.methodLink RX5 26 yX5_setReady ∈ mgood := mgood_in (w := Cond.methodLink RX5 26 yX5_setReady) (List.mem_of_getElem? (i := 580) (by decide +kernel)) rfl
theorem wg_582 : Cond.instanceMethod yX5_setReady ∈ mgood := mgood_in (w := Cond.instanceMethod yX5_setReady) (List.mem_of_getElem? (i := 582) (by decide +kernel)) rfl
theorem wg_7 : Cond.selects RX5 yX5_setReady yX5_setReady ∈ mgood := mgood_in (w := Cond.selects RX5 yX5_setReady yX5_setReady) (List.mem_of_getElem? (i := 7) (by decide +kernel)) rfl
theorem cv_X5_26 : mcV RX5 26 yX5_setReady 1 := ⟨wg_580, wg_582, wg_7, wg_60, by decide +kernel⟩
theorem wg_584 : Cond.methodLink RX5 34 yX7_isEnd ∈ mgood := mgood_in (w := Cond.methodLink RX5 34 yX7_isEnd) (List.mem_of_getElem? (i := 584) (by decide +kernel)) rfl
theorem wg_547 : Cond.instanceMethod yX7_isEnd ∈ mgood := mgood_in (w := Cond.instanceMethod yX7_isEnd) (List.mem_of_getElem? (i := 547) (by decide +kernel)) rfl
theorem wg_548 : Cond.selects RX7 yX7_isEnd yX7_isEnd ∈ mgood := mgood_in (w := Cond.selects RX7 yX7_isEnd yX7_isEnd) (List.mem_of_getElem? (i := 548) (by decide +kernel)) rfl
theorem cv_X5_34 : mcV RX5 34 yX7_isEnd 1 := ⟨wg_584, wg_547, wg_548, wg_59, by decide +kernel⟩
theorem wg_585 : Cond.methodLink RX5 40 yX5_rowsTo ∈ mgood := mgood_in (w := Cond.methodLink RX5 40 yX5_rowsTo) (List.mem_of_getElem? (i := 585) (by decide +kernel)) rfl
theorem wg_587 : Cond.instanceMethod yX5_rowsTo ∈ mgood := mgood_in (w := Cond.instanceMethod yX5_rowsTo) (List.mem_of_getElem? (i := 587) (by decide +kernel)) rfl
theorem wg_8 : Cond.selects RX5 yX5_rowsTo yX5_rowsTo ∈ mgood := mgood_in (w := Cond.selects RX5 yX5_rowsTo yX5_rowsTo) (List.mem_of_getElem? (i := 8) (by decide +kernel)) rfl
theorem cv_X5_40 : mcV RX5 40 yX5_rowsTo 1 := ⟨wg_585, wg_587, wg_8, wg_60, by decide +kernel⟩
theorem wg_589 : Cond.methodLink RX5 44 yX5_capped ∈ mgood := mgood_in (w := Cond.methodLink RX5 44 yX5_capped) (List.mem_of_getElem? (i := 589) (by decide +kernel)) rfl
theorem wg_590 : Cond.static yX5_capped ∈ mgood := mgood_in (w := Cond.static yX5_capped) (List.mem_of_getElem? (i := 590) (by decide +kernel)) rfl
theorem cs_X5_44 : mcS RX5 44 yX5_capped (1) := ⟨wg_589, wg_590, wg_60, by decide +kernel⟩
theorem wg_571 : Cond.methodLink RX5 48 ⟨"MirroredTalks$TalkPairs", "positionBehind", "(II)I"⟩ ∈ mgood := mgood_in (w := Cond.methodLink RX5 48 ⟨"MirroredTalks$TalkPairs", "positionBehind", "(II)I"⟩) (List.mem_of_getElem? (i := 571) (by decide +kernel)) rfl
theorem wg_572 : Cond.sameMethod "MirroredTalks$TalkPairs" "MirroredTalks$Pairs" "positionBehind" "(II)I" ∈ mgood := mgood_in (w := Cond.sameMethod "MirroredTalks$TalkPairs" "MirroredTalks$Pairs" "positionBehind" "(II)I") (List.mem_of_getElem? (i := 572) (by decide +kernel)) rfl
theorem wg_574 : Cond.selects RX7 ⟨"MirroredTalks$TalkPairs", "positionBehind", "(II)I"⟩ yX2_positionBehind ∈ mgood := mgood_in (w := Cond.selects RX7 ⟨"MirroredTalks$TalkPairs", "positionBehind", "(II)I"⟩ yX2_positionBehind) (List.mem_of_getElem? (i := 574) (by decide +kernel)) rfl
theorem wg_575 : Cond.instanceMethod yX2_positionBehind ∈ mgood := mgood_in (w := Cond.instanceMethod yX2_positionBehind) (List.mem_of_getElem? (i := 575) (by decide +kernel)) rfl
theorem cu_X5_48_X7 : mcU RX5 48 RX7 "MirroredTalks$Pairs" ⟨"MirroredTalks$TalkPairs", "positionBehind", "(II)I"⟩ yX2_positionBehind 2 := ⟨List.forall_mem_cons.mpr ⟨wg_571, List.forall_mem_cons.mpr ⟨wg_572, List.forall_mem_cons.mpr ⟨wg_574, List.forall_mem_cons.mpr ⟨wg_575, List.forall_mem_cons.mpr ⟨wg_58, fun _ h => absurd h List.not_mem_nil⟩⟩⟩⟩⟩, Or.inl rfl, by decide +kernel⟩
theorem wg_596 : Cond.methodLink RX5 52 yX5_goAlong ∈ mgood := mgood_in (w := Cond.methodLink RX5 52 yX5_goAlong) (List.mem_of_getElem? (i := 596) (by decide +kernel)) rfl
theorem wg_598 : Cond.instanceMethod yX5_goAlong ∈ mgood := mgood_in (w := Cond.instanceMethod yX5_goAlong) (List.mem_of_getElem? (i := 598) (by decide +kernel)) rfl
theorem wg_9 : Cond.selects RX5 yX5_goAlong yX5_goAlong ∈ mgood := mgood_in (w := Cond.selects RX5 yX5_goAlong yX5_goAlong) (List.mem_of_getElem? (i := 9) (by decide +kernel)) rfl
theorem cv_X5_52 : mcV RX5 52 yX5_goAlong 2 := ⟨wg_596, wg_598, wg_9, wg_60, by decide +kernel⟩
theorem wg_570 : Cond.methodLink RX5 56 ⟨"MirroredTalks$TalkPairs", "size", "()I"⟩ ∈ mgood := mgood_in (w := Cond.methodLink RX5 56 ⟨"MirroredTalks$TalkPairs", "size", "()I"⟩) (List.mem_of_getElem? (i := 570) (by decide +kernel)) rfl
theorem cu_X5_56_X7 : mcU RX5 56 RX7 "MirroredTalks$Pairs" ⟨"MirroredTalks$TalkPairs", "size", "()I"⟩ yX2_size 0 := ⟨List.forall_mem_cons.mpr ⟨wg_570, List.forall_mem_cons.mpr ⟨wg_528, List.forall_mem_cons.mpr ⟨wg_530, List.forall_mem_cons.mpr ⟨wg_531, List.forall_mem_cons.mpr ⟨wg_58, fun _ h => absurd h List.not_mem_nil⟩⟩⟩⟩⟩, Or.inl rfl, by decide +kernel⟩
theorem wg_566 : Cond.methodLink RX5 62 yJ7_fill_53178 ∈ mgood := mgood_in (w := Cond.methodLink RX5 62 yJ7_fill_53178) (List.mem_of_getElem? (i := 566) (by decide +kernel)) rfl
theorem cs_X5_62 : mcS RX5 62 yJ7_fill_53178 (2) := ⟨wg_566, wg_404, wg_65, by decide +kernel⟩
theorem wg_567 : Cond.methodLink RX5 68 yJ7_fill_d0a16 ∈ mgood := mgood_in (w := Cond.methodLink RX5 68 yJ7_fill_d0a16) (List.mem_of_getElem? (i := 567) (by decide +kernel)) rfl
theorem wg_568 : Cond.static yJ7_fill_d0a16 ∈ mgood := mgood_in (w := Cond.static yJ7_fill_d0a16) (List.mem_of_getElem? (i := 568) (by decide +kernel)) rfl
theorem cs_X5_68 : mcS RX5 68 yJ7_fill_d0a16 (2) := ⟨wg_567, wg_568, wg_65, by decide +kernel⟩
theorem wg_577 : Cond.methodLink RX5 71 yX5_isPosition ∈ mgood := mgood_in (w := Cond.methodLink RX5 71 yX5_isPosition) (List.mem_of_getElem? (i := 577) (by decide +kernel)) rfl
theorem wg_578 : Cond.static yX5_isPosition ∈ mgood := mgood_in (w := Cond.static yX5_isPosition) (List.mem_of_getElem? (i := 578) (by decide +kernel)) rfl
theorem cs_X5_71 : mcS RX5 71 yX5_isPosition (1) := ⟨wg_577, wg_578, wg_60, by decide +kernel⟩
theorem wg_593 : Cond.methodLink RX5 76 yJ9_min_f86c9 ∈ mgood := mgood_in (w := Cond.methodLink RX5 76 yJ9_min_f86c9) (List.mem_of_getElem? (i := 593) (by decide +kernel)) rfl
theorem wg_594 : Cond.static yJ9_min_f86c9 ∈ mgood := mgood_in (w := Cond.static yJ9_min_f86c9) (List.mem_of_getElem? (i := 594) (by decide +kernel)) rfl
theorem wg_66 : Cond.initialized RJ9 ∈ mgood := mgood_in (w := Cond.initialized RJ9) (List.mem_of_getElem? (i := 66) (by decide +kernel)) rfl
theorem cs_X5_76 : mcS RX5 76 yJ9_min_f86c9 (2) := ⟨wg_593, wg_594, wg_66, by decide +kernel⟩
theorem wg_465 : Cond.methodLink RX6 11 ⟨"MirroredTalks$StandInPairs", "lackedWords", "(III)I"⟩ ∈ mgood := mgood_in (w := Cond.methodLink RX6 11 ⟨"MirroredTalks$StandInPairs", "lackedWords", "(III)I"⟩) (List.mem_of_getElem? (i := 465) (by decide +kernel)) rfl
theorem wg_466 : Cond.sameMethod "MirroredTalks$StandInPairs" RX2 "lackedWords" "(III)I" ∈ mgood := mgood_in (w := Cond.sameMethod "MirroredTalks$StandInPairs" RX2 "lackedWords" "(III)I") (List.mem_of_getElem? (i := 466) (by decide +kernel)) rfl
theorem ct_X6_11 : mcT RX6 11 ⟨"MirroredTalks$StandInPairs", "lackedWords", "(III)I"⟩ yX2_lackedWords 3 := ⟨wg_465, wg_466, rfl, wg_467, wg_58, by decide +kernel⟩
theorem wg_472 : Cond.methodLink RX7 11 ⟨"MirroredTalks$TalkPairs", "lackedWords", "(III)I"⟩ ∈ mgood := mgood_in (w := Cond.methodLink RX7 11 ⟨"MirroredTalks$TalkPairs", "lackedWords", "(III)I"⟩) (List.mem_of_getElem? (i := 472) (by decide +kernel)) rfl
theorem wg_473 : Cond.sameMethod "MirroredTalks$TalkPairs" RX2 "lackedWords" "(III)I" ∈ mgood := mgood_in (w := Cond.sameMethod "MirroredTalks$TalkPairs" RX2 "lackedWords" "(III)I") (List.mem_of_getElem? (i := 473) (by decide +kernel)) rfl
theorem ct_X7_11 : mcT RX7 11 ⟨"MirroredTalks$TalkPairs", "lackedWords", "(III)I"⟩ yX2_lackedWords 3 := ⟨wg_472, wg_473, rfl, wg_467, wg_58, by decide +kernel⟩
theorem wg_550 : Cond.methodLink RX7 15 ⟨"MirroredTalks$TalkPairs", "kindOfOne", "(I)I"⟩ ∈ mgood := mgood_in (w := Cond.methodLink RX7 15 ⟨"MirroredTalks$TalkPairs", "kindOfOne", "(I)I"⟩) (List.mem_of_getElem? (i := 550) (by decide +kernel)) rfl
theorem wg_551 : Cond.sameMethod "MirroredTalks$TalkPairs" "MirroredTalks$Pairs" "kindOfOne" "(I)I" ∈ mgood := mgood_in (w := Cond.sameMethod "MirroredTalks$TalkPairs" "MirroredTalks$Pairs" "kindOfOne" "(I)I") (List.mem_of_getElem? (i := 551) (by decide +kernel)) rfl
theorem wg_553 : Cond.selects RX7 ⟨"MirroredTalks$TalkPairs", "kindOfOne", "(I)I"⟩ yX2_kindOfOne ∈ mgood := mgood_in (w := Cond.selects RX7 ⟨"MirroredTalks$TalkPairs", "kindOfOne", "(I)I"⟩ yX2_kindOfOne) (List.mem_of_getElem? (i := 553) (by decide +kernel)) rfl
theorem cu_X7_15_X7 : mcU RX7 15 RX7 "MirroredTalks$Pairs" ⟨"MirroredTalks$TalkPairs", "kindOfOne", "(I)I"⟩ yX2_kindOfOne 1 := ⟨List.forall_mem_cons.mpr ⟨wg_550, List.forall_mem_cons.mpr ⟨wg_551, List.forall_mem_cons.mpr ⟨wg_553, List.forall_mem_cons.mpr ⟨wg_503, List.forall_mem_cons.mpr ⟨wg_58, fun _ h => absurd h List.not_mem_nil⟩⟩⟩⟩⟩, Or.inl rfl, by decide +kernel⟩
theorem wg_554 : Cond.methodLink RX7 19 ⟨"MirroredTalks$TalkPairs", "kindOfOther", "(I)I"⟩ ∈ mgood := mgood_in (w := Cond.methodLink RX7 19 ⟨"MirroredTalks$TalkPairs", "kindOfOther", "(I)I"⟩) (List.mem_of_getElem? (i := 554) (by decide +kernel)) rfl
theorem wg_555 : Cond.sameMethod "MirroredTalks$TalkPairs" "MirroredTalks$Pairs" "kindOfOther" "(I)I" ∈ mgood := mgood_in (w := Cond.sameMethod "MirroredTalks$TalkPairs" "MirroredTalks$Pairs" "kindOfOther" "(I)I") (List.mem_of_getElem? (i := 555) (by decide +kernel)) rfl
theorem wg_557 : Cond.selects RX7 ⟨"MirroredTalks$TalkPairs", "kindOfOther", "(I)I"⟩ yX2_kindOfOther ∈ mgood := mgood_in (w := Cond.selects RX7 ⟨"MirroredTalks$TalkPairs", "kindOfOther", "(I)I"⟩ yX2_kindOfOther) (List.mem_of_getElem? (i := 557) (by decide +kernel)) rfl
theorem cu_X7_19_X7 : mcU RX7 19 RX7 "MirroredTalks$Pairs" ⟨"MirroredTalks$TalkPairs", "kindOfOther", "(I)I"⟩ yX2_kindOfOther 1 := ⟨List.forall_mem_cons.mpr ⟨wg_554, List.forall_mem_cons.mpr ⟨wg_555, List.forall_mem_cons.mpr ⟨wg_557, List.forall_mem_cons.mpr ⟨wg_509, List.forall_mem_cons.mpr ⟨wg_58, fun _ h => absurd h List.not_mem_nil⟩⟩⟩⟩⟩, Or.inl rfl, by decide +kernel⟩
theorem wg_537 : Cond.methodLink RX7 22 ⟨"MirroredTalks$TalkPairs", "size", "()I"⟩ ∈ mgood := mgood_in (w := Cond.methodLink RX7 22 ⟨"MirroredTalks$TalkPairs", "size", "()I"⟩) (List.mem_of_getElem? (i := 537) (by decide +kernel)) rfl
theorem cu_X7_22_X7 : mcU RX7 22 RX7 "MirroredTalks$Pairs" ⟨"MirroredTalks$TalkPairs", "size", "()I"⟩ yX2_size 0 := ⟨List.forall_mem_cons.mpr ⟨wg_537, List.forall_mem_cons.mpr ⟨wg_528, List.forall_mem_cons.mpr ⟨wg_530, List.forall_mem_cons.mpr ⟨wg_531, List.forall_mem_cons.mpr ⟨wg_58, fun _ h => absurd h List.not_mem_nil⟩⟩⟩⟩⟩, Or.inl rfl, by decide +kernel⟩
theorem wg_538 : Cond.methodLink RX7 26 ⟨"MirroredTalks$TalkPairs", "reasonOf", "(I)I"⟩ ∈ mgood := mgood_in (w := Cond.methodLink RX7 26 ⟨"MirroredTalks$TalkPairs", "reasonOf", "(I)I"⟩) (List.mem_of_getElem? (i := 538) (by decide +kernel)) rfl
theorem wg_539 : Cond.sameMethod "MirroredTalks$TalkPairs" "MirroredTalks$Pairs" "reasonOf" "(I)I" ∈ mgood := mgood_in (w := Cond.sameMethod "MirroredTalks$TalkPairs" "MirroredTalks$Pairs" "reasonOf" "(I)I") (List.mem_of_getElem? (i := 539) (by decide +kernel)) rfl
theorem wg_541 : Cond.selects RX7 ⟨"MirroredTalks$TalkPairs", "reasonOf", "(I)I"⟩ yX2_reasonOf ∈ mgood := mgood_in (w := Cond.selects RX7 ⟨"MirroredTalks$TalkPairs", "reasonOf", "(I)I"⟩ yX2_reasonOf) (List.mem_of_getElem? (i := 541) (by decide +kernel)) rfl
theorem cu_X7_26_X7 : mcU RX7 26 RX7 "MirroredTalks$Pairs" ⟨"MirroredTalks$TalkPairs", "reasonOf", "(I)I"⟩ yX2_reasonOf 1 := ⟨List.forall_mem_cons.mpr ⟨wg_538, List.forall_mem_cons.mpr ⟨wg_539, List.forall_mem_cons.mpr ⟨wg_541, List.forall_mem_cons.mpr ⟨wg_453, List.forall_mem_cons.mpr ⟨wg_58, fun _ h => absurd h List.not_mem_nil⟩⟩⟩⟩⟩, Or.inl rfl, by decide +kernel⟩
theorem wg_546 : Cond.methodLink RX7 29 yX7_isEnd ∈ mgood := mgood_in (w := Cond.methodLink RX7 29 yX7_isEnd) (List.mem_of_getElem? (i := 546) (by decide +kernel)) rfl
theorem cv_X7_29 : mcV RX7 29 yX7_isEnd 1 := ⟨wg_546, wg_547, wg_548, wg_59, by decide +kernel⟩
theorem wg_606 : Cond.methodLink RX7 33 ⟨"MirroredTalks$TalkPairs", "lengthOf", "(I)I"⟩ ∈ mgood := mgood_in (w := Cond.methodLink RX7 33 ⟨"MirroredTalks$TalkPairs", "lengthOf", "(I)I"⟩) (List.mem_of_getElem? (i := 606) (by decide +kernel)) rfl
theorem cu_X7_33_X7 : mcU RX7 33 RX7 "MirroredTalks$Pairs" ⟨"MirroredTalks$TalkPairs", "lengthOf", "(I)I"⟩ yX2_lengthOf 1 := ⟨List.forall_mem_cons.mpr ⟨wg_606, List.forall_mem_cons.mpr ⟨wg_489, List.forall_mem_cons.mpr ⟨wg_491, List.forall_mem_cons.mpr ⟨wg_441, List.forall_mem_cons.mpr ⟨wg_58, fun _ h => absurd h List.not_mem_nil⟩⟩⟩⟩⟩, Or.inl rfl, by decide +kernel⟩
theorem wg_611 : Cond.methodLink RX7 36 ⟨"MirroredTalks$TalkPairs", "stateOfOne", "(I)I"⟩ ∈ mgood := mgood_in (w := Cond.methodLink RX7 36 ⟨"MirroredTalks$TalkPairs", "stateOfOne", "(I)I"⟩) (List.mem_of_getElem? (i := 611) (by decide +kernel)) rfl
theorem cu_X7_36_X7 : mcU RX7 36 RX7 "MirroredTalks$Pairs" ⟨"MirroredTalks$TalkPairs", "stateOfOne", "(I)I"⟩ yX2_stateOfOne 1 := ⟨List.forall_mem_cons.mpr ⟨wg_611, List.forall_mem_cons.mpr ⟨wg_481, List.forall_mem_cons.mpr ⟨wg_483, List.forall_mem_cons.mpr ⟨wg_415, List.forall_mem_cons.mpr ⟨wg_58, fun _ h => absurd h List.not_mem_nil⟩⟩⟩⟩⟩, Or.inl rfl, by decide +kernel⟩
theorem wg_616 : Cond.methodLink RX7 39 ⟨"MirroredTalks$TalkPairs", "stateOfOther", "(I)I"⟩ ∈ mgood := mgood_in (w := Cond.methodLink RX7 39 ⟨"MirroredTalks$TalkPairs", "stateOfOther", "(I)I"⟩) (List.mem_of_getElem? (i := 616) (by decide +kernel)) rfl
theorem cu_X7_39_X7 : mcU RX7 39 RX7 "MirroredTalks$Pairs" ⟨"MirroredTalks$TalkPairs", "stateOfOther", "(I)I"⟩ yX2_stateOfOther 1 := ⟨List.forall_mem_cons.mpr ⟨wg_616, List.forall_mem_cons.mpr ⟨wg_485, List.forall_mem_cons.mpr ⟨wg_487, List.forall_mem_cons.mpr ⟨wg_424, List.forall_mem_cons.mpr ⟨wg_58, fun _ h => absurd h List.not_mem_nil⟩⟩⟩⟩⟩, Or.inl rfl, by decide +kernel⟩
theorem wg_255 : Cond.methodLink RL 13 yX8_kind ∈ mgood := mgood_in (w := Cond.methodLink RL 13 yX8_kind) (List.mem_of_getElem? (i := 255) (by decide +kernel)) rfl
theorem wg_256 : Cond.instanceMethod yX8_kind ∈ mgood := mgood_in (w := Cond.instanceMethod yX8_kind) (List.mem_of_getElem? (i := 256) (by decide +kernel)) rfl
theorem wg_257 : Cond.selects RX8 yX8_kind yX8_kind ∈ mgood := mgood_in (w := Cond.selects RX8 yX8_kind yX8_kind) (List.mem_of_getElem? (i := 257) (by decide +kernel)) rfl
theorem cv_L_13 : mcV RL 13 yX8_kind 3 := ⟨wg_255, wg_256, wg_257, wg_53, by decide +kernel⟩
theorem wg_850 : Cond.methodLink RL 17 yX9_kind ∈ mgood := mgood_in (w := Cond.methodLink RL 17 yX9_kind) (List.mem_of_getElem? (i := 850) (by decide +kernel)) rfl
theorem wg_851 : Cond.instanceMethod yX9_kind ∈ mgood := mgood_in (w := Cond.instanceMethod yX9_kind) (List.mem_of_getElem? (i := 851) (by decide +kernel)) rfl
theorem wg_852 : Cond.selects RX9 yX9_kind yX9_kind ∈ mgood := mgood_in (w := Cond.selects RX9 yX9_kind yX9_kind) (List.mem_of_getElem? (i := 852) (by decide +kernel)) rfl
theorem cv_L_17 : mcV RL 17 yX9_kind 3 := ⟨wg_850, wg_851, wg_852, wg_62, by decide +kernel⟩
theorem wg_292 : Cond.methodLink RL 18 yX8_arrow ∈ mgood := mgood_in (w := Cond.methodLink RL 18 yX8_arrow) (List.mem_of_getElem? (i := 292) (by decide +kernel)) rfl
theorem wg_293 : Cond.instanceMethod yX8_arrow ∈ mgood := mgood_in (w := Cond.instanceMethod yX8_arrow) (List.mem_of_getElem? (i := 293) (by decide +kernel)) rfl
theorem wg_294 : Cond.selects RX8 yX8_arrow yX8_arrow ∈ mgood := mgood_in (w := Cond.selects RX8 yX8_arrow yX8_arrow) (List.mem_of_getElem? (i := 294) (by decide +kernel)) rfl
theorem cv_L_18 : mcV RL 18 yX8_arrow 4 := ⟨wg_292, wg_293, wg_294, wg_53, by decide +kernel⟩
theorem wg_872 : Cond.methodLink RL 22 yX9_arrow ∈ mgood := mgood_in (w := Cond.methodLink RL 22 yX9_arrow) (List.mem_of_getElem? (i := 872) (by decide +kernel)) rfl
theorem wg_873 : Cond.instanceMethod yX9_arrow ∈ mgood := mgood_in (w := Cond.instanceMethod yX9_arrow) (List.mem_of_getElem? (i := 873) (by decide +kernel)) rfl
theorem wg_874 : Cond.selects RX9 yX9_arrow yX9_arrow ∈ mgood := mgood_in (w := Cond.selects RX9 yX9_arrow yX9_arrow) (List.mem_of_getElem? (i := 874) (by decide +kernel)) rfl
theorem cv_L_22 : mcV RL 22 yX9_arrow 4 := ⟨wg_872, wg_873, wg_874, wg_62, by decide +kernel⟩
theorem wg_312 : Cond.methodLink RL 23 yX8_erase ∈ mgood := mgood_in (w := Cond.methodLink RL 23 yX8_erase) (List.mem_of_getElem? (i := 312) (by decide +kernel)) rfl
theorem wg_313 : Cond.instanceMethod yX8_erase ∈ mgood := mgood_in (w := Cond.instanceMethod yX8_erase) (List.mem_of_getElem? (i := 313) (by decide +kernel)) rfl
theorem wg_314 : Cond.selects RX8 yX8_erase yX8_erase ∈ mgood := mgood_in (w := Cond.selects RX8 yX8_erase yX8_erase) (List.mem_of_getElem? (i := 314) (by decide +kernel)) rfl
theorem cv_L_23 : mcV RL 23 yX8_erase 3 := ⟨wg_312, wg_313, wg_314, wg_53, by decide +kernel⟩
theorem wg_893 : Cond.methodLink RL 26 yX9_erase ∈ mgood := mgood_in (w := Cond.methodLink RL 26 yX9_erase) (List.mem_of_getElem? (i := 893) (by decide +kernel)) rfl
theorem wg_894 : Cond.instanceMethod yX9_erase ∈ mgood := mgood_in (w := Cond.instanceMethod yX9_erase) (List.mem_of_getElem? (i := 894) (by decide +kernel)) rfl
theorem wg_895 : Cond.selects RX9 yX9_erase yX9_erase ∈ mgood := mgood_in (w := Cond.selects RX9 yX9_erase yX9_erase) (List.mem_of_getElem? (i := 895) (by decide +kernel)) rfl
theorem cv_L_26 : mcV RL 26 yX9_erase 3 := ⟨wg_893, wg_894, wg_895, wg_62, by decide +kernel⟩
theorem wg_318 : Cond.methodLink RL 27 yX8_copy ∈ mgood := mgood_in (w := Cond.methodLink RL 27 yX8_copy) (List.mem_of_getElem? (i := 318) (by decide +kernel)) rfl
theorem wg_319 : Cond.instanceMethod yX8_copy ∈ mgood := mgood_in (w := Cond.instanceMethod yX8_copy) (List.mem_of_getElem? (i := 319) (by decide +kernel)) rfl
theorem wg_320 : Cond.selects RX8 yX8_copy yX8_copy ∈ mgood := mgood_in (w := Cond.selects RX8 yX8_copy yX8_copy) (List.mem_of_getElem? (i := 320) (by decide +kernel)) rfl
theorem cv_L_27 : mcV RL 27 yX8_copy 2 := ⟨wg_318, wg_319, wg_320, wg_53, by decide +kernel⟩
theorem wg_898 : Cond.methodLink RL 31 yX9_copy ∈ mgood := mgood_in (w := Cond.methodLink RL 31 yX9_copy) (List.mem_of_getElem? (i := 898) (by decide +kernel)) rfl
theorem wg_899 : Cond.instanceMethod yX9_copy ∈ mgood := mgood_in (w := Cond.instanceMethod yX9_copy) (List.mem_of_getElem? (i := 899) (by decide +kernel)) rfl
theorem wg_900 : Cond.selects RX9 yX9_copy yX9_copy ∈ mgood := mgood_in (w := Cond.selects RX9 yX9_copy yX9_copy) (List.mem_of_getElem? (i := 900) (by decide +kernel)) rfl
theorem cv_L_31 : mcV RL 31 yX9_copy 2 := ⟨wg_898, wg_899, wg_900, wg_62, by decide +kernel⟩
theorem wg_331 : Cond.methodLink RL 32 yX8_mirror ∈ mgood := mgood_in (w := Cond.methodLink RL 32 yX8_mirror) (List.mem_of_getElem? (i := 331) (by decide +kernel)) rfl
theorem wg_332 : Cond.instanceMethod yX8_mirror ∈ mgood := mgood_in (w := Cond.instanceMethod yX8_mirror) (List.mem_of_getElem? (i := 332) (by decide +kernel)) rfl
theorem wg_333 : Cond.selects RX8 yX8_mirror yX8_mirror ∈ mgood := mgood_in (w := Cond.selects RX8 yX8_mirror yX8_mirror) (List.mem_of_getElem? (i := 333) (by decide +kernel)) rfl
theorem cv_L_32 : mcV RL 32 yX8_mirror 1 := ⟨wg_331, wg_332, wg_333, wg_53, by decide +kernel⟩
theorem wg_906 : Cond.methodLink RL 36 yX9_mirror ∈ mgood := mgood_in (w := Cond.methodLink RL 36 yX9_mirror) (List.mem_of_getElem? (i := 906) (by decide +kernel)) rfl
theorem wg_907 : Cond.instanceMethod yX9_mirror ∈ mgood := mgood_in (w := Cond.instanceMethod yX9_mirror) (List.mem_of_getElem? (i := 907) (by decide +kernel)) rfl
theorem wg_908 : Cond.selects RX9 yX9_mirror yX9_mirror ∈ mgood := mgood_in (w := Cond.selects RX9 yX9_mirror yX9_mirror) (List.mem_of_getElem? (i := 908) (by decide +kernel)) rfl
theorem cv_L_36 : mcV RL 36 yX9_mirror 1 := ⟨wg_906, wg_907, wg_908, wg_62, by decide +kernel⟩
theorem wg_339 : Cond.methodLink RL 37 yX8_stateOf ∈ mgood := mgood_in (w := Cond.methodLink RL 37 yX8_stateOf) (List.mem_of_getElem? (i := 339) (by decide +kernel)) rfl
theorem wg_340 : Cond.instanceMethod yX8_stateOf ∈ mgood := mgood_in (w := Cond.instanceMethod yX8_stateOf) (List.mem_of_getElem? (i := 340) (by decide +kernel)) rfl
theorem wg_341 : Cond.selects RX8 yX8_stateOf yX8_stateOf ∈ mgood := mgood_in (w := Cond.selects RX8 yX8_stateOf yX8_stateOf) (List.mem_of_getElem? (i := 341) (by decide +kernel)) rfl
theorem cv_L_37 : mcV RL 37 yX8_stateOf 3 := ⟨wg_339, wg_340, wg_341, wg_53, by decide +kernel⟩
theorem wg_910 : Cond.methodLink RL 40 yX9_stateOf ∈ mgood := mgood_in (w := Cond.methodLink RL 40 yX9_stateOf) (List.mem_of_getElem? (i := 910) (by decide +kernel)) rfl
theorem wg_911 : Cond.instanceMethod yX9_stateOf ∈ mgood := mgood_in (w := Cond.instanceMethod yX9_stateOf) (List.mem_of_getElem? (i := 911) (by decide +kernel)) rfl
theorem wg_912 : Cond.selects RX9 yX9_stateOf yX9_stateOf ∈ mgood := mgood_in (w := Cond.selects RX9 yX9_stateOf yX9_stateOf) (List.mem_of_getElem? (i := 912) (by decide +kernel)) rfl
theorem cv_L_40 : mcV RL 40 yX9_stateOf 3 := ⟨wg_910, wg_911, wg_912, wg_62, by decide +kernel⟩
theorem wg_385 : Cond.methodLink RL 41 yX8_unlike ∈ mgood := mgood_in (w := Cond.methodLink RL 41 yX8_unlike) (List.mem_of_getElem? (i := 385) (by decide +kernel)) rfl
theorem wg_386 : Cond.instanceMethod yX8_unlike ∈ mgood := mgood_in (w := Cond.instanceMethod yX8_unlike) (List.mem_of_getElem? (i := 386) (by decide +kernel)) rfl
theorem wg_387 : Cond.selects RX8 yX8_unlike yX8_unlike ∈ mgood := mgood_in (w := Cond.selects RX8 yX8_unlike yX8_unlike) (List.mem_of_getElem? (i := 387) (by decide +kernel)) rfl
theorem cv_L_41 : mcV RL 41 yX8_unlike 1 := ⟨wg_385, wg_386, wg_387, wg_53, by decide +kernel⟩
theorem wg_942 : Cond.methodLink RL 44 yX9_unlike ∈ mgood := mgood_in (w := Cond.methodLink RL 44 yX9_unlike) (List.mem_of_getElem? (i := 942) (by decide +kernel)) rfl
theorem wg_943 : Cond.instanceMethod yX9_unlike ∈ mgood := mgood_in (w := Cond.instanceMethod yX9_unlike) (List.mem_of_getElem? (i := 943) (by decide +kernel)) rfl
theorem wg_944 : Cond.selects RX9 yX9_unlike yX9_unlike ∈ mgood := mgood_in (w := Cond.selects RX9 yX9_unlike yX9_unlike) (List.mem_of_getElem? (i := 944) (by decide +kernel)) rfl
theorem cv_L_44 : mcV RL 44 yX9_unlike 1 := ⟨wg_942, wg_943, wg_944, wg_62, by decide +kernel⟩
theorem wg_390 : Cond.methodLink RL 45 yX8_pairOf ∈ mgood := mgood_in (w := Cond.methodLink RL 45 yX8_pairOf) (List.mem_of_getElem? (i := 390) (by decide +kernel)) rfl
theorem wg_391 : Cond.instanceMethod yX8_pairOf ∈ mgood := mgood_in (w := Cond.instanceMethod yX8_pairOf) (List.mem_of_getElem? (i := 391) (by decide +kernel)) rfl
theorem wg_392 : Cond.selects RX8 yX8_pairOf yX8_pairOf ∈ mgood := mgood_in (w := Cond.selects RX8 yX8_pairOf yX8_pairOf) (List.mem_of_getElem? (i := 392) (by decide +kernel)) rfl
theorem cv_L_45 : mcV RL 45 yX8_pairOf 4 := ⟨wg_390, wg_391, wg_392, wg_53, by decide +kernel⟩
theorem wg_946 : Cond.methodLink RL 48 yX9_pairOf ∈ mgood := mgood_in (w := Cond.methodLink RL 48 yX9_pairOf) (List.mem_of_getElem? (i := 946) (by decide +kernel)) rfl
theorem wg_947 : Cond.instanceMethod yX9_pairOf ∈ mgood := mgood_in (w := Cond.instanceMethod yX9_pairOf) (List.mem_of_getElem? (i := 947) (by decide +kernel)) rfl
theorem wg_948 : Cond.selects RX9 yX9_pairOf yX9_pairOf ∈ mgood := mgood_in (w := Cond.selects RX9 yX9_pairOf yX9_pairOf) (List.mem_of_getElem? (i := 948) (by decide +kernel)) rfl
theorem cv_L_48 : mcV RL 48 yX9_pairOf 4 := ⟨wg_946, wg_947, wg_948, wg_62, by decide +kernel⟩
theorem wg_523 : Cond.methodLink RL 49 yX8_talk ∈ mgood := mgood_in (w := Cond.methodLink RL 49 yX8_talk) (List.mem_of_getElem? (i := 523) (by decide +kernel)) rfl
theorem wg_524 : Cond.instanceMethod yX8_talk ∈ mgood := mgood_in (w := Cond.instanceMethod yX8_talk) (List.mem_of_getElem? (i := 524) (by decide +kernel)) rfl
theorem wg_525 : Cond.selects RX8 yX8_talk yX8_talk ∈ mgood := mgood_in (w := Cond.selects RX8 yX8_talk yX8_talk) (List.mem_of_getElem? (i := 525) (by decide +kernel)) rfl
theorem cv_L_49 : mcV RL 49 yX8_talk 3 := ⟨wg_523, wg_524, wg_525, wg_53, by decide +kernel⟩
theorem wg_991 : Cond.methodLink RL 52 yX9_talk ∈ mgood := mgood_in (w := Cond.methodLink RL 52 yX9_talk) (List.mem_of_getElem? (i := 991) (by decide +kernel)) rfl
theorem wg_992 : Cond.instanceMethod yX9_talk ∈ mgood := mgood_in (w := Cond.instanceMethod yX9_talk) (List.mem_of_getElem? (i := 992) (by decide +kernel)) rfl
theorem wg_993 : Cond.selects RX9 yX9_talk yX9_talk ∈ mgood := mgood_in (w := Cond.selects RX9 yX9_talk yX9_talk) (List.mem_of_getElem? (i := 993) (by decide +kernel)) rfl
theorem cv_L_52 : mcV RL 52 yX9_talk 3 := ⟨wg_991, wg_992, wg_993, wg_62, by decide +kernel⟩
theorem wg_617 : Cond.methodLink RL 53 yX8_talks ∈ mgood := mgood_in (w := Cond.methodLink RL 53 yX8_talks) (List.mem_of_getElem? (i := 617) (by decide +kernel)) rfl
theorem wg_618 : Cond.instanceMethod yX8_talks ∈ mgood := mgood_in (w := Cond.instanceMethod yX8_talks) (List.mem_of_getElem? (i := 618) (by decide +kernel)) rfl
theorem wg_619 : Cond.selects RX8 yX8_talks yX8_talks ∈ mgood := mgood_in (w := Cond.selects RX8 yX8_talks yX8_talks) (List.mem_of_getElem? (i := 619) (by decide +kernel)) rfl
theorem cv_L_53 : mcV RL 53 yX8_talks 2 := ⟨wg_617, wg_618, wg_619, wg_53, by decide +kernel⟩
theorem wg_1025 : Cond.methodLink RL 57 yX9_talks ∈ mgood := mgood_in (w := Cond.methodLink RL 57 yX9_talks) (List.mem_of_getElem? (i := 1025) (by decide +kernel)) rfl
theorem wg_1026 : Cond.instanceMethod yX9_talks ∈ mgood := mgood_in (w := Cond.instanceMethod yX9_talks) (List.mem_of_getElem? (i := 1026) (by decide +kernel)) rfl
theorem wg_1027 : Cond.selects RX9 yX9_talks yX9_talks ∈ mgood := mgood_in (w := Cond.selects RX9 yX9_talks yX9_talks) (List.mem_of_getElem? (i := 1027) (by decide +kernel)) rfl
theorem cv_L_57 : mcV RL 57 yX9_talks 2 := ⟨wg_1025, wg_1026, wg_1027, wg_62, by decide +kernel⟩
theorem wg_625 : Cond.methodLink RL 58 yX8_standsIn ∈ mgood := mgood_in (w := Cond.methodLink RL 58 yX8_standsIn) (List.mem_of_getElem? (i := 625) (by decide +kernel)) rfl
theorem cv_L_58 : mcV RL 58 yX8_standsIn 2 := ⟨wg_625, wg_626, wg_627, wg_53, by decide +kernel⟩
theorem wg_1032 : Cond.methodLink RL 61 yX9_standsIn ∈ mgood := mgood_in (w := Cond.methodLink RL 61 yX9_standsIn) (List.mem_of_getElem? (i := 1032) (by decide +kernel)) rfl
theorem wg_1033 : Cond.instanceMethod yX9_standsIn ∈ mgood := mgood_in (w := Cond.instanceMethod yX9_standsIn) (List.mem_of_getElem? (i := 1033) (by decide +kernel)) rfl
theorem wg_1034 : Cond.selects RX9 yX9_standsIn yX9_standsIn ∈ mgood := mgood_in (w := Cond.selects RX9 yX9_standsIn yX9_standsIn) (List.mem_of_getElem? (i := 1034) (by decide +kernel)) rfl
theorem cv_L_61 : mcV RL 61 yX9_standsIn 2 := ⟨wg_1032, wg_1033, wg_1034, wg_62, by decide +kernel⟩
theorem wg_635 : Cond.methodLink RL 62 yX8_against ∈ mgood := mgood_in (w := Cond.methodLink RL 62 yX8_against) (List.mem_of_getElem? (i := 635) (by decide +kernel)) rfl
theorem wg_636 : Cond.instanceMethod yX8_against ∈ mgood := mgood_in (w := Cond.instanceMethod yX8_against) (List.mem_of_getElem? (i := 636) (by decide +kernel)) rfl
theorem wg_637 : Cond.selects RX8 yX8_against yX8_against ∈ mgood := mgood_in (w := Cond.selects RX8 yX8_against yX8_against) (List.mem_of_getElem? (i := 637) (by decide +kernel)) rfl
theorem cv_L_62 : mcV RL 62 yX8_against 3 := ⟨wg_635, wg_636, wg_637, wg_53, by decide +kernel⟩
theorem wg_1052 : Cond.methodLink RL 65 yX9_against ∈ mgood := mgood_in (w := Cond.methodLink RL 65 yX9_against) (List.mem_of_getElem? (i := 1052) (by decide +kernel)) rfl
theorem wg_1053 : Cond.instanceMethod yX9_against ∈ mgood := mgood_in (w := Cond.instanceMethod yX9_against) (List.mem_of_getElem? (i := 1053) (by decide +kernel)) rfl
theorem wg_1054 : Cond.selects RX9 yX9_against yX9_against ∈ mgood := mgood_in (w := Cond.selects RX9 yX9_against yX9_against) (List.mem_of_getElem? (i := 1054) (by decide +kernel)) rfl
theorem cv_L_65 : mcV RL 65 yX9_against 3 := ⟨wg_1052, wg_1053, wg_1054, wg_62, by decide +kernel⟩
theorem wg_654 : Cond.methodLink RL 66 yX8_count ∈ mgood := mgood_in (w := Cond.methodLink RL 66 yX8_count) (List.mem_of_getElem? (i := 654) (by decide +kernel)) rfl
theorem wg_655 : Cond.instanceMethod yX8_count ∈ mgood := mgood_in (w := Cond.instanceMethod yX8_count) (List.mem_of_getElem? (i := 655) (by decide +kernel)) rfl
theorem wg_656 : Cond.selects RX8 yX8_count yX8_count ∈ mgood := mgood_in (w := Cond.selects RX8 yX8_count yX8_count) (List.mem_of_getElem? (i := 656) (by decide +kernel)) rfl
theorem cv_L_66 : mcV RL 66 yX8_count 1 := ⟨wg_654, wg_655, wg_656, wg_53, by decide +kernel⟩
theorem wg_1060 : Cond.methodLink RL 69 yX9_count ∈ mgood := mgood_in (w := Cond.methodLink RL 69 yX9_count) (List.mem_of_getElem? (i := 1060) (by decide +kernel)) rfl
theorem wg_1061 : Cond.instanceMethod yX9_count ∈ mgood := mgood_in (w := Cond.instanceMethod yX9_count) (List.mem_of_getElem? (i := 1061) (by decide +kernel)) rfl
theorem wg_1062 : Cond.selects RX9 yX9_count yX9_count ∈ mgood := mgood_in (w := Cond.selects RX9 yX9_count yX9_count) (List.mem_of_getElem? (i := 1062) (by decide +kernel)) rfl
theorem cv_L_69 : mcV RL 69 yX9_count 1 := ⟨wg_1060, wg_1061, wg_1062, wg_62, by decide +kernel⟩
theorem wg_673 : Cond.methodLink RL 70 yX8_undo ∈ mgood := mgood_in (w := Cond.methodLink RL 70 yX8_undo) (List.mem_of_getElem? (i := 673) (by decide +kernel)) rfl
theorem wg_674 : Cond.instanceMethod yX8_undo ∈ mgood := mgood_in (w := Cond.instanceMethod yX8_undo) (List.mem_of_getElem? (i := 674) (by decide +kernel)) rfl
theorem wg_675 : Cond.selects RX8 yX8_undo yX8_undo ∈ mgood := mgood_in (w := Cond.selects RX8 yX8_undo yX8_undo) (List.mem_of_getElem? (i := 675) (by decide +kernel)) rfl
theorem cv_L_70 : mcV RL 70 yX8_undo 0 := ⟨wg_673, wg_674, wg_675, wg_53, by decide +kernel⟩
theorem wg_1068 : Cond.methodLink RL 74 yX9_undo ∈ mgood := mgood_in (w := Cond.methodLink RL 74 yX9_undo) (List.mem_of_getElem? (i := 1068) (by decide +kernel)) rfl
theorem wg_1069 : Cond.instanceMethod yX9_undo ∈ mgood := mgood_in (w := Cond.instanceMethod yX9_undo) (List.mem_of_getElem? (i := 1069) (by decide +kernel)) rfl
theorem wg_1070 : Cond.selects RX9 yX9_undo yX9_undo ∈ mgood := mgood_in (w := Cond.selects RX9 yX9_undo yX9_undo) (List.mem_of_getElem? (i := 1070) (by decide +kernel)) rfl
theorem cv_L_74 : mcV RL 74 yX9_undo 0 := ⟨wg_1068, wg_1069, wg_1070, wg_62, by decide +kernel⟩
theorem wg_685 : Cond.methodLink RL 75 yX8_type ∈ mgood := mgood_in (w := Cond.methodLink RL 75 yX8_type) (List.mem_of_getElem? (i := 685) (by decide +kernel)) rfl
theorem wg_686 : Cond.instanceMethod yX8_type ∈ mgood := mgood_in (w := Cond.instanceMethod yX8_type) (List.mem_of_getElem? (i := 686) (by decide +kernel)) rfl
theorem wg_687 : Cond.selects RX8 yX8_type yX8_type ∈ mgood := mgood_in (w := Cond.selects RX8 yX8_type yX8_type) (List.mem_of_getElem? (i := 687) (by decide +kernel)) rfl
theorem cv_L_75 : mcV RL 75 yX8_type 1 := ⟨wg_685, wg_686, wg_687, wg_53, by decide +kernel⟩
theorem wg_1072 : Cond.methodLink RL 78 yX9_type ∈ mgood := mgood_in (w := Cond.methodLink RL 78 yX9_type) (List.mem_of_getElem? (i := 1072) (by decide +kernel)) rfl
theorem wg_1073 : Cond.instanceMethod yX9_type ∈ mgood := mgood_in (w := Cond.instanceMethod yX9_type) (List.mem_of_getElem? (i := 1073) (by decide +kernel)) rfl
theorem wg_1074 : Cond.selects RX9 yX9_type yX9_type ∈ mgood := mgood_in (w := Cond.selects RX9 yX9_type yX9_type) (List.mem_of_getElem? (i := 1074) (by decide +kernel)) rfl
theorem cv_L_78 : mcV RL 78 yX9_type 1 := ⟨wg_1072, wg_1073, wg_1074, wg_62, by decide +kernel⟩
theorem wg_698 : Cond.methodLink RL 79 yX8_clearText ∈ mgood := mgood_in (w := Cond.methodLink RL 79 yX8_clearText) (List.mem_of_getElem? (i := 698) (by decide +kernel)) rfl
theorem wg_699 : Cond.instanceMethod yX8_clearText ∈ mgood := mgood_in (w := Cond.instanceMethod yX8_clearText) (List.mem_of_getElem? (i := 699) (by decide +kernel)) rfl
theorem wg_700 : Cond.selects RX8 yX8_clearText yX8_clearText ∈ mgood := mgood_in (w := Cond.selects RX8 yX8_clearText yX8_clearText) (List.mem_of_getElem? (i := 700) (by decide +kernel)) rfl
theorem cv_L_79 : mcV RL 79 yX8_clearText 0 := ⟨wg_698, wg_699, wg_700, wg_53, by decide +kernel⟩
theorem wg_1077 : Cond.methodLink RL 82 yX9_clearText ∈ mgood := mgood_in (w := Cond.methodLink RL 82 yX9_clearText) (List.mem_of_getElem? (i := 1077) (by decide +kernel)) rfl
theorem wg_1078 : Cond.instanceMethod yX9_clearText ∈ mgood := mgood_in (w := Cond.instanceMethod yX9_clearText) (List.mem_of_getElem? (i := 1078) (by decide +kernel)) rfl
theorem wg_1079 : Cond.selects RX9 yX9_clearText yX9_clearText ∈ mgood := mgood_in (w := Cond.selects RX9 yX9_clearText yX9_clearText) (List.mem_of_getElem? (i := 1079) (by decide +kernel)) rfl
theorem cv_L_82 : mcV RL 82 yX9_clearText 0 := ⟨wg_1077, wg_1078, wg_1079, wg_62, by decide +kernel⟩
theorem wg_706 : Cond.methodLink RL 83 yX8_fault ∈ mgood := mgood_in (w := Cond.methodLink RL 83 yX8_fault) (List.mem_of_getElem? (i := 706) (by decide +kernel)) rfl
theorem wg_707 : Cond.instanceMethod yX8_fault ∈ mgood := mgood_in (w := Cond.instanceMethod yX8_fault) (List.mem_of_getElem? (i := 707) (by decide +kernel)) rfl
theorem wg_708 : Cond.selects RX8 yX8_fault yX8_fault ∈ mgood := mgood_in (w := Cond.selects RX8 yX8_fault yX8_fault) (List.mem_of_getElem? (i := 708) (by decide +kernel)) rfl
theorem cv_L_83 : mcV RL 83 yX8_fault 1 := ⟨wg_706, wg_707, wg_708, wg_53, by decide +kernel⟩
theorem wg_1081 : Cond.methodLink RL 86 yX9_fault ∈ mgood := mgood_in (w := Cond.methodLink RL 86 yX9_fault) (List.mem_of_getElem? (i := 1081) (by decide +kernel)) rfl
theorem wg_1082 : Cond.instanceMethod yX9_fault ∈ mgood := mgood_in (w := Cond.instanceMethod yX9_fault) (List.mem_of_getElem? (i := 1082) (by decide +kernel)) rfl
theorem wg_1083 : Cond.selects RX9 yX9_fault yX9_fault ∈ mgood := mgood_in (w := Cond.selects RX9 yX9_fault yX9_fault) (List.mem_of_getElem? (i := 1083) (by decide +kernel)) rfl
theorem cv_L_86 : mcV RL 86 yX9_fault 1 := ⟨wg_1081, wg_1082, wg_1083, wg_62, by decide +kernel⟩
theorem wg_754 : Cond.methodLink RL 87 yX8_read ∈ mgood := mgood_in (w := Cond.methodLink RL 87 yX8_read) (List.mem_of_getElem? (i := 754) (by decide +kernel)) rfl
theorem wg_755 : Cond.instanceMethod yX8_read ∈ mgood := mgood_in (w := Cond.instanceMethod yX8_read) (List.mem_of_getElem? (i := 755) (by decide +kernel)) rfl
theorem wg_756 : Cond.selects RX8 yX8_read yX8_read ∈ mgood := mgood_in (w := Cond.selects RX8 yX8_read yX8_read) (List.mem_of_getElem? (i := 756) (by decide +kernel)) rfl
theorem cv_L_87 : mcV RL 87 yX8_read 1 := ⟨wg_754, wg_755, wg_756, wg_53, by decide +kernel⟩
theorem wg_1113 : Cond.methodLink RL 90 yX9_read ∈ mgood := mgood_in (w := Cond.methodLink RL 90 yX9_read) (List.mem_of_getElem? (i := 1113) (by decide +kernel)) rfl
theorem wg_1114 : Cond.instanceMethod yX9_read ∈ mgood := mgood_in (w := Cond.instanceMethod yX9_read) (List.mem_of_getElem? (i := 1114) (by decide +kernel)) rfl
theorem wg_1115 : Cond.selects RX9 yX9_read yX9_read ∈ mgood := mgood_in (w := Cond.selects RX9 yX9_read yX9_read) (List.mem_of_getElem? (i := 1115) (by decide +kernel)) rfl
theorem cv_L_90 : mcV RL 90 yX9_read 1 := ⟨wg_1113, wg_1114, wg_1115, wg_62, by decide +kernel⟩
theorem wg_227 : Cond.fieldLink RX8 10 "MirroredTalks" "first" "LMirroredTalks$Plan;" ∈ mgood := mgood_in (w := Cond.fieldLink RX8 10 "MirroredTalks" "first" "LMirroredTalks$Plan;") (List.mem_of_getElem? (i := 227) (by decide +kernel)) rfl
theorem fl_X8_10_7 : mFl RX8 10 7 0 := ⟨RX8, TX8, 9, rfl, by decide, wg_227, fun w h => mgood_in (inX8 w h) (List.all_eq_true.mp (show (u_ws RX8 TX8 9).all goodWord = true by decide +kernel) w h)⟩
theorem wg_228 : Cond.fieldLink RX8 16 "MirroredTalks" "second" "LMirroredTalks$Plan;" ∈ mgood := mgood_in (w := Cond.fieldLink RX8 16 "MirroredTalks" "second" "LMirroredTalks$Plan;") (List.mem_of_getElem? (i := 228) (by decide +kernel)) rfl
theorem fl_X8_16_7 : mFl RX8 16 7 1 := ⟨RX8, TX8, 9, rfl, by decide, wg_228, fun w h => mgood_in (inX8 w h) (List.all_eq_true.mp (show (u_ws RX8 TX8 9).all goodWord = true by decide +kernel) w h)⟩
theorem wg_229 : Cond.fieldLink RX8 19 "MirroredTalks" "third" "LMirroredTalks$Plan;" ∈ mgood := mgood_in (w := Cond.fieldLink RX8 19 "MirroredTalks" "third" "LMirroredTalks$Plan;") (List.mem_of_getElem? (i := 229) (by decide +kernel)) rfl
theorem fl_X8_19_7 : mFl RX8 19 7 2 := ⟨RX8, TX8, 9, rfl, by decide, wg_229, fun w h => mgood_in (inX8 w h) (List.all_eq_true.mp (show (u_ws RX8 TX8 9).all goodWord = true by decide +kernel) w h)⟩
theorem wg_230 : Cond.fieldLink RX8 25 "MirroredTalks" "history" "LMirroredTalks$History;" ∈ mgood := mgood_in (w := Cond.fieldLink RX8 25 "MirroredTalks" "history" "LMirroredTalks$History;") (List.mem_of_getElem? (i := 230) (by decide +kernel)) rfl
theorem fl_X8_25_7 : mFl RX8 25 7 3 := ⟨RX8, TX8, 9, rfl, by decide, wg_230, fun w h => mgood_in (inX8 w h) (List.all_eq_true.mp (show (u_ws RX8 TX8 9).all goodWord = true by decide +kernel) w h)⟩
theorem wg_231 : Cond.fieldLink RX8 32 "MirroredTalks" "text" "LMirroredTalks$PlanText;" ∈ mgood := mgood_in (w := Cond.fieldLink RX8 32 "MirroredTalks" "text" "LMirroredTalks$PlanText;") (List.mem_of_getElem? (i := 231) (by decide +kernel)) rfl
theorem fl_X8_32_7 : mFl RX8 32 7 4 := ⟨RX8, TX8, 9, rfl, by decide, wg_231, fun w h => mgood_in (inX8 w h) (List.all_eq_true.mp (show (u_ws RX8 TX8 9).all goodWord = true by decide +kernel) w h)⟩
theorem wg_232 : Cond.fieldLink RX8 39 "MirroredTalks" "likeness" "LMirroredTalks$Likeness;" ∈ mgood := mgood_in (w := Cond.fieldLink RX8 39 "MirroredTalks" "likeness" "LMirroredTalks$Likeness;") (List.mem_of_getElem? (i := 232) (by decide +kernel)) rfl
theorem fl_X8_39_7 : mFl RX8 39 7 5 := ⟨RX8, TX8, 9, rfl, by decide, wg_232, fun w h => mgood_in (inX8 w h) (List.all_eq_true.mp (show (u_ws RX8 TX8 9).all goodWord = true by decide +kernel) w h)⟩
theorem wg_233 : Cond.fieldLink RX8 48 "MirroredTalks" "talkPairs" "LMirroredTalks$TalkPairs;" ∈ mgood := mgood_in (w := Cond.fieldLink RX8 48 "MirroredTalks" "talkPairs" "LMirroredTalks$TalkPairs;") (List.mem_of_getElem? (i := 233) (by decide +kernel)) rfl
theorem fl_X8_48_7 : mFl RX8 48 7 6 := ⟨RX8, TX8, 9, rfl, by decide, wg_233, fun w h => mgood_in (inX8 w h) (List.all_eq_true.mp (show (u_ws RX8 TX8 9).all goodWord = true by decide +kernel) w h)⟩
theorem wg_234 : Cond.fieldLink RX8 55 "MirroredTalks" "rowCount" "LMirroredTalks$RowCount;" ∈ mgood := mgood_in (w := Cond.fieldLink RX8 55 "MirroredTalks" "rowCount" "LMirroredTalks$RowCount;") (List.mem_of_getElem? (i := 234) (by decide +kernel)) rfl
theorem fl_X8_55_7 : mFl RX8 55 7 7 := ⟨RX8, TX8, 9, rfl, by decide, wg_234, fun w h => mgood_in (inX8 w h) (List.all_eq_true.mp (show (u_ws RX8 TX8 9).all goodWord = true by decide +kernel) w h)⟩
theorem wg_235 : Cond.fieldLink RX8 62 "MirroredTalks" "standInPairs" "LMirroredTalks$StandInPairs;" ∈ mgood := mgood_in (w := Cond.fieldLink RX8 62 "MirroredTalks" "standInPairs" "LMirroredTalks$StandInPairs;") (List.mem_of_getElem? (i := 235) (by decide +kernel)) rfl
theorem fl_X8_62_7 : mFl RX8 62 7 8 := ⟨RX8, TX8, 9, rfl, by decide, wg_235, fun w h => mgood_in (inX8 w h) (List.all_eq_true.mp (show (u_ws RX8 TX8 9).all goodWord = true by decide +kernel) w h)⟩
theorem kI_X8_76 : Cond.constant RX8 76 (mI (-1000001)) ∈ mgood := mgood_in (List.mem_of_getElem? (i := 266) (by decide +kernel)) rfl
theorem kI_X8_111 : Cond.constant RX8 111 (mI (-1000002)) ∈ mgood := mgood_in (List.mem_of_getElem? (i := 317) (by decide +kernel)) rfl
theorem kI_X8_151 : Cond.constant RX8 151 (mI (-1000004)) ∈ mgood := mgood_in (List.mem_of_getElem? (i := 384) (by decide +kernel)) rfl
theorem kJ_X8_177 : Cond.constantLong RX8 177 (mJ (-1)) ∈ mgood := mgood_in (List.mem_of_getElem? (i := 601) (by decide +kernel)) rfl
theorem kJ_X8_188 : Cond.constantLong RX8 188 (mJ (-1000001)) ∈ mgood := mgood_in (List.mem_of_getElem? (i := 621) (by decide +kernel)) rfl
theorem kJ_X8_190 : Cond.constantLong RX8 190 (mJ (-1000002)) ∈ mgood := mgood_in (List.mem_of_getElem? (i := 622) (by decide +kernel)) rfl
theorem kJ_X8_192 : Cond.constantLong RX8 192 (mJ (1000000000000000)) ∈ mgood := mgood_in (List.mem_of_getElem? (i := 623) (by decide +kernel)) rfl
theorem kJ_X8_194 : Cond.constantLong RX8 194 (mJ (-1000003)) ∈ mgood := mgood_in (List.mem_of_getElem? (i := 624) (by decide +kernel)) rfl
theorem kI_X8_221 : Cond.constant RX8 221 (mI (-1000003)) ∈ mgood := mgood_in (List.mem_of_getElem? (i := 693) (by decide +kernel)) rfl
theorem wg_773 : Cond.fieldLink RX9 7 "MirroredTalksModel" "s" "[I" ∈ mgood := mgood_in (w := Cond.fieldLink RX9 7 "MirroredTalksModel" "s" "[I") (List.mem_of_getElem? (i := 773) (by decide +kernel)) rfl
theorem fl_X9_7_8 : mFl RX9 7 8 0 := ⟨RX9, TX9, 25, rfl, by decide, wg_773, fun w h => mgood_in (inX9 w h) (List.all_eq_true.mp (show (u_ws RX9 TX9 25).all goodWord = true by decide +kernel) w h)⟩
theorem wg_774 : Cond.fieldLink RX9 13 "MirroredTalksModel" "was" "[I" ∈ mgood := mgood_in (w := Cond.fieldLink RX9 13 "MirroredTalksModel" "was" "[I") (List.mem_of_getElem? (i := 774) (by decide +kernel)) rfl
theorem fl_X9_13_8 : mFl RX9 13 8 1 := ⟨RX9, TX9, 25, rfl, by decide, wg_774, fun w h => mgood_in (inX9 w h) (List.all_eq_true.mp (show (u_ws RX9 TX9 25).all goodWord = true by decide +kernel) w h)⟩
theorem wg_776 : Cond.fieldLink RX9 16 "MirroredTalksModel" "text" "[C" ∈ mgood := mgood_in (w := Cond.fieldLink RX9 16 "MirroredTalksModel" "text" "[C") (List.mem_of_getElem? (i := 776) (by decide +kernel)) rfl
theorem fl_X9_16_8 : mFl RX9 16 8 3 := ⟨RX9, TX9, 25, rfl, by decide, wg_776, fun w h => mgood_in (inX9 w h) (List.all_eq_true.mp (show (u_ws RX9 TX9 25).all goodWord = true by decide +kernel) w h)⟩
theorem wg_778 : Cond.fieldLink RX9 20 "MirroredTalksModel" "like" "[I" ∈ mgood := mgood_in (w := Cond.fieldLink RX9 20 "MirroredTalksModel" "like" "[I") (List.mem_of_getElem? (i := 778) (by decide +kernel)) rfl
theorem fl_X9_20_8 : mFl RX9 20 8 5 := ⟨RX9, TX9, 25, rfl, by decide, wg_778, fun w h => mgood_in (inX9 w h) (List.all_eq_true.mp (show (u_ws RX9 TX9 25).all goodWord = true by decide +kernel) w h)⟩
theorem wg_779 : Cond.fieldLink RX9 23 "MirroredTalksModel" "pairs" "[I" ∈ mgood := mgood_in (w := Cond.fieldLink RX9 23 "MirroredTalksModel" "pairs" "[I") (List.mem_of_getElem? (i := 779) (by decide +kernel)) rfl
theorem fl_X9_23_8 : mFl RX9 23 8 6 := ⟨RX9, TX9, 25, rfl, by decide, wg_779, fun w h => mgood_in (inX9 w h) (List.all_eq_true.mp (show (u_ws RX9 TX9 25).all goodWord = true by decide +kernel) w h)⟩
theorem wg_780 : Cond.fieldLink RX9 26 "MirroredTalksModel" "from" "[I" ∈ mgood := mgood_in (w := Cond.fieldLink RX9 26 "MirroredTalksModel" "from" "[I") (List.mem_of_getElem? (i := 780) (by decide +kernel)) rfl
theorem fl_X9_26_8 : mFl RX9 26 8 7 := ⟨RX9, TX9, 25, rfl, by decide, wg_780, fun w h => mgood_in (inX9 w h) (List.all_eq_true.mp (show (u_ws RX9 TX9 25).all goodWord = true by decide +kernel) w h)⟩
theorem wg_781 : Cond.fieldLink RX9 29 "MirroredTalksModel" "by" "[I" ∈ mgood := mgood_in (w := Cond.fieldLink RX9 29 "MirroredTalksModel" "by" "[I") (List.mem_of_getElem? (i := 781) (by decide +kernel)) rfl
theorem fl_X9_29_8 : mFl RX9 29 8 8 := ⟨RX9, TX9, 25, rfl, by decide, wg_781, fun w h => mgood_in (inX9 w h) (List.all_eq_true.mp (show (u_ws RX9 TX9 25).all goodWord = true by decide +kernel) w h)⟩
theorem wg_782 : Cond.fieldLink RX9 32 "MirroredTalksModel" "far" "[I" ∈ mgood := mgood_in (w := Cond.fieldLink RX9 32 "MirroredTalksModel" "far" "[I") (List.mem_of_getElem? (i := 782) (by decide +kernel)) rfl
theorem fl_X9_32_8 : mFl RX9 32 8 9 := ⟨RX9, TX9, 25, rfl, by decide, wg_782, fun w h => mgood_in (inX9 w h) (List.all_eq_true.mp (show (u_ws RX9 TX9 25).all goodWord = true by decide +kernel) w h)⟩
theorem wg_783 : Cond.fieldLink RX9 35 "MirroredTalksModel" "place" "[I" ∈ mgood := mgood_in (w := Cond.fieldLink RX9 35 "MirroredTalksModel" "place" "[I") (List.mem_of_getElem? (i := 783) (by decide +kernel)) rfl
theorem fl_X9_35_8 : mFl RX9 35 8 10 := ⟨RX9, TX9, 25, rfl, by decide, wg_783, fun w h => mgood_in (inX9 w h) (List.all_eq_true.mp (show (u_ws RX9 TX9 25).all goodWord = true by decide +kernel) w h)⟩
theorem wg_785 : Cond.fieldLink RX9 38 "MirroredTalksModel" "ways" "[J" ∈ mgood := mgood_in (w := Cond.fieldLink RX9 38 "MirroredTalksModel" "ways" "[J") (List.mem_of_getElem? (i := 785) (by decide +kernel)) rfl
theorem fl_X9_38_8 : mFl RX9 38 8 12 := ⟨RX9, TX9, 25, rfl, by decide, wg_785, fun w h => mgood_in (inX9 w h) (List.all_eq_true.mp (show (u_ws RX9 TX9 25).all goodWord = true by decide +kernel) w h)⟩
theorem wg_786 : Cond.fieldLink RX9 42 "MirroredTalksModel" "known" "[Z" ∈ mgood := mgood_in (w := Cond.fieldLink RX9 42 "MirroredTalksModel" "known" "[Z") (List.mem_of_getElem? (i := 786) (by decide +kernel)) rfl
theorem fl_X9_42_8 : mFl RX9 42 8 13 := ⟨RX9, TX9, 25, rfl, by decide, wg_786, fun w h => mgood_in (inX9 w h) (List.all_eq_true.mp (show (u_ws RX9 TX9 25).all goodWord = true by decide +kernel) w h)⟩
theorem wg_794 : Cond.fieldLink RX9 46 "MirroredTalksModel" "read" "[I" ∈ mgood := mgood_in (w := Cond.fieldLink RX9 46 "MirroredTalksModel" "read" "[I") (List.mem_of_getElem? (i := 794) (by decide +kernel)) rfl
theorem fl_X9_46_8 : mFl RX9 46 8 21 := ⟨RX9, TX9, 25, rfl, by decide, wg_794, fun w h => mgood_in (inX9 w h) (List.all_eq_true.mp (show (u_ws RX9 TX9 25).all goodWord = true by decide +kernel) w h)⟩
theorem wg_795 : Cond.fieldLink RX9 49 "MirroredTalksModel" "arrowWords" "[I" ∈ mgood := mgood_in (w := Cond.fieldLink RX9 49 "MirroredTalksModel" "arrowWords" "[I") (List.mem_of_getElem? (i := 795) (by decide +kernel)) rfl
theorem fl_X9_49_8 : mFl RX9 49 8 22 := ⟨RX9, TX9, 25, rfl, by decide, wg_795, fun w h => mgood_in (inX9 w h) (List.all_eq_true.mp (show (u_ws RX9 TX9 25).all goodWord = true by decide +kernel) w h)⟩
theorem wg_796 : Cond.fieldLink RX9 52 "MirroredTalksModel" "arrowStates" "[I" ∈ mgood := mgood_in (w := Cond.fieldLink RX9 52 "MirroredTalksModel" "arrowStates" "[I") (List.mem_of_getElem? (i := 796) (by decide +kernel)) rfl
theorem fl_X9_52_8 : mFl RX9 52 8 23 := ⟨RX9, TX9, 25, rfl, by decide, wg_796, fun w h => mgood_in (inX9 w h) (List.all_eq_true.mp (show (u_ws RX9 TX9 25).all goodWord = true by decide +kernel) w h)⟩
theorem wg_775 : Cond.fieldLink RX9 55 "MirroredTalksModel" "states" "I" ∈ mgood := mgood_in (w := Cond.fieldLink RX9 55 "MirroredTalksModel" "states" "I") (List.mem_of_getElem? (i := 775) (by decide +kernel)) rfl
theorem fl_X9_55_8 : mFl RX9 55 8 2 := ⟨RX9, TX9, 25, rfl, by decide, wg_775, fun w h => mgood_in (inX9 w h) (List.all_eq_true.mp (show (u_ws RX9 TX9 25).all goodWord = true by decide +kernel) w h)⟩
theorem fp_X9_55_8 : mFp RX9 55 8 2 .int := ⟨RX9, TX9, 25, tyX9, rfl, by decide, wg_775, fun w h => mgood_in (inX9 w h) (List.all_eq_true.mp (show (u_ws RX9 TX9 25).all goodWord = true by decide +kernel) w h), tyX9_ok, nmX9, rfl, by decide +kernel⟩
theorem kI_X9_81 : Cond.constant RX9 81 (mI (-1000001)) ∈ mgood := mgood_in (List.mem_of_getElem? (i := 863) (by decide +kernel)) rfl
theorem kI_X9_95 : Cond.constant RX9 95 (mI (-1000002)) ∈ mgood := mgood_in (List.mem_of_getElem? (i := 897) (by decide +kernel)) rfl
theorem kI_X9_121 : Cond.constant RX9 121 (mI (-1000004)) ∈ mgood := mgood_in (List.mem_of_getElem? (i := 941) (by decide +kernel)) rfl
theorem wg_784 : Cond.fieldLink RX9 122 "MirroredTalksModel" "many" "I" ∈ mgood := mgood_in (w := Cond.fieldLink RX9 122 "MirroredTalksModel" "many" "I") (List.mem_of_getElem? (i := 784) (by decide +kernel)) rfl
theorem fl_X9_122_8 : mFl RX9 122 8 11 := ⟨RX9, TX9, 25, rfl, by decide, wg_784, fun w h => mgood_in (inX9 w h) (List.all_eq_true.mp (show (u_ws RX9 TX9 25).all goodWord = true by decide +kernel) w h)⟩
theorem fp_X9_122_8 : mFp RX9 122 8 11 .int := ⟨RX9, TX9, 25, tyX9, rfl, by decide, wg_784, fun w h => mgood_in (inX9 w h) (List.all_eq_true.mp (show (u_ws RX9 TX9 25).all goodWord = true by decide +kernel) w h), tyX9_ok, nmX9, rfl, by decide +kernel⟩
theorem kJ_X9_167 : Cond.constantLong RX9 167 (mJ (1000000000000000)) ∈ mgood := mgood_in (List.mem_of_getElem? (i := 1015) (by decide +kernel)) rfl
theorem kJ_X9_169 : Cond.constantLong RX9 169 (mJ (1000000000000001)) ∈ mgood := mgood_in (List.mem_of_getElem? (i := 1016) (by decide +kernel)) rfl
theorem kJ_X9_190 : Cond.constantLong RX9 190 (mJ (-1000001)) ∈ mgood := mgood_in (List.mem_of_getElem? (i := 1029) (by decide +kernel)) rfl
theorem kJ_X9_192 : Cond.constantLong RX9 192 (mJ (-1000002)) ∈ mgood := mgood_in (List.mem_of_getElem? (i := 1030) (by decide +kernel)) rfl
theorem kJ_X9_194 : Cond.constantLong RX9 194 (mJ (-1000003)) ∈ mgood := mgood_in (List.mem_of_getElem? (i := 1031) (by decide +kernel)) rfl
theorem wg_777 : Cond.fieldLink RX9 215 "MirroredTalksModel" "typed" "I" ∈ mgood := mgood_in (w := Cond.fieldLink RX9 215 "MirroredTalksModel" "typed" "I") (List.mem_of_getElem? (i := 777) (by decide +kernel)) rfl
theorem fl_X9_215_8 : mFl RX9 215 8 4 := ⟨RX9, TX9, 25, rfl, by decide, wg_777, fun w h => mgood_in (inX9 w h) (List.all_eq_true.mp (show (u_ws RX9 TX9 25).all goodWord = true by decide +kernel) w h)⟩
theorem fp_X9_215_8 : mFp RX9 215 8 4 .int := ⟨RX9, TX9, 25, tyX9, rfl, by decide, wg_777, fun w h => mgood_in (inX9 w h) (List.all_eq_true.mp (show (u_ws RX9 TX9 25).all goodWord = true by decide +kernel) w h), tyX9_ok, nmX9, rfl, by decide +kernel⟩
theorem kI_X9_218 : Cond.constant RX9 218 (mI (-1000003)) ∈ mgood := mgood_in (List.mem_of_getElem? (i := 1076) (by decide +kernel)) rfl
theorem wg_787 : Cond.fieldLink RX9 219 "MirroredTalksModel" "spot" "I" ∈ mgood := mgood_in (w := Cond.fieldLink RX9 219 "MirroredTalksModel" "spot" "I") (List.mem_of_getElem? (i := 787) (by decide +kernel)) rfl
theorem fl_X9_219_8 : mFl RX9 219 8 14 := ⟨RX9, TX9, 25, rfl, by decide, wg_787, fun w h => mgood_in (inX9 w h) (List.all_eq_true.mp (show (u_ws RX9 TX9 25).all goodWord = true by decide +kernel) w h)⟩
theorem fp_X9_219_8 : mFp RX9 219 8 14 .int := ⟨RX9, TX9, 25, tyX9, rfl, by decide, wg_787, fun w h => mgood_in (inX9 w h) (List.all_eq_true.mp (show (u_ws RX9 TX9 25).all goodWord = true by decide +kernel) w h), tyX9_ok, nmX9, rfl, by decide +kernel⟩
theorem wg_789 : Cond.fieldLink RX9 222 "MirroredTalksModel" "taken" "I" ∈ mgood := mgood_in (w := Cond.fieldLink RX9 222 "MirroredTalksModel" "taken" "I") (List.mem_of_getElem? (i := 789) (by decide +kernel)) rfl
theorem fl_X9_222_8 : mFl RX9 222 8 16 := ⟨RX9, TX9, 25, rfl, by decide, wg_789, fun w h => mgood_in (inX9 w h) (List.all_eq_true.mp (show (u_ws RX9 TX9 25).all goodWord = true by decide +kernel) w h)⟩
theorem fp_X9_222_8 : mFp RX9 222 8 16 .int := ⟨RX9, TX9, 25, tyX9, rfl, by decide, wg_789, fun w h => mgood_in (inX9 w h) (List.all_eq_true.mp (show (u_ws RX9 TX9 25).all goodWord = true by decide +kernel) w h), tyX9_ok, nmX9, rfl, by decide +kernel⟩
theorem wg_797 : Cond.fieldLink RX9 228 "MirroredTalksModel" "arrowMany" "I" ∈ mgood := mgood_in (w := Cond.fieldLink RX9 228 "MirroredTalksModel" "arrowMany" "I") (List.mem_of_getElem? (i := 797) (by decide +kernel)) rfl
theorem fl_X9_228_8 : mFl RX9 228 8 24 := ⟨RX9, TX9, 25, rfl, by decide, wg_797, fun w h => mgood_in (inX9 w h) (List.all_eq_true.mp (show (u_ws RX9 TX9 25).all goodWord = true by decide +kernel) w h)⟩
theorem fp_X9_228_8 : mFp RX9 228 8 24 .int := ⟨RX9, TX9, 25, tyX9, rfl, by decide, wg_797, fun w h => mgood_in (inX9 w h) (List.all_eq_true.mp (show (u_ws RX9 TX9 25).all goodWord = true by decide +kernel) w h), tyX9_ok, nmX9, rfl, by decide +kernel⟩
theorem wg_788 : Cond.fieldLink RX9 231 "MirroredTalksModel" "begun" "I" ∈ mgood := mgood_in (w := Cond.fieldLink RX9 231 "MirroredTalksModel" "begun" "I") (List.mem_of_getElem? (i := 788) (by decide +kernel)) rfl
theorem fl_X9_231_8 : mFl RX9 231 8 15 := ⟨RX9, TX9, 25, rfl, by decide, wg_788, fun w h => mgood_in (inX9 w h) (List.all_eq_true.mp (show (u_ws RX9 TX9 25).all goodWord = true by decide +kernel) w h)⟩
theorem fp_X9_231_8 : mFp RX9 231 8 15 .int := ⟨RX9, TX9, 25, tyX9, rfl, by decide, wg_788, fun w h => mgood_in (inX9 w h) (List.all_eq_true.mp (show (u_ws RX9 TX9 25).all goodWord = true by decide +kernel) w h), tyX9_ok, nmX9, rfl, by decide +kernel⟩
theorem wg_791 : Cond.fieldLink RX9 234 "MirroredTalksModel" "cause" "I" ∈ mgood := mgood_in (w := Cond.fieldLink RX9 234 "MirroredTalksModel" "cause" "I") (List.mem_of_getElem? (i := 791) (by decide +kernel)) rfl
theorem fl_X9_234_8 : mFl RX9 234 8 18 := ⟨RX9, TX9, 25, rfl, by decide, wg_791, fun w h => mgood_in (inX9 w h) (List.all_eq_true.mp (show (u_ws RX9 TX9 25).all goodWord = true by decide +kernel) w h)⟩
theorem fp_X9_234_8 : mFp RX9 234 8 18 .int := ⟨RX9, TX9, 25, tyX9, rfl, by decide, wg_791, fun w h => mgood_in (inX9 w h) (List.all_eq_true.mp (show (u_ws RX9 TX9 25).all goodWord = true by decide +kernel) w h), tyX9_ok, nmX9, rfl, by decide +kernel⟩
theorem wg_792 : Cond.fieldLink RX9 247 "MirroredTalksModel" "told" "I" ∈ mgood := mgood_in (w := Cond.fieldLink RX9 247 "MirroredTalksModel" "told" "I") (List.mem_of_getElem? (i := 792) (by decide +kernel)) rfl
theorem fl_X9_247_8 : mFl RX9 247 8 19 := ⟨RX9, TX9, 25, rfl, by decide, wg_792, fun w h => mgood_in (inX9 w h) (List.all_eq_true.mp (show (u_ws RX9 TX9 25).all goodWord = true by decide +kernel) w h)⟩
theorem fp_X9_247_8 : mFp RX9 247 8 19 .int := ⟨RX9, TX9, 25, tyX9, rfl, by decide, wg_792, fun w h => mgood_in (inX9 w h) (List.all_eq_true.mp (show (u_ws RX9 TX9 25).all goodWord = true by decide +kernel) w h), tyX9_ok, nmX9, rfl, by decide +kernel⟩
theorem wg_793 : Cond.fieldLink RX9 253 "MirroredTalksModel" "toldMany" "I" ∈ mgood := mgood_in (w := Cond.fieldLink RX9 253 "MirroredTalksModel" "toldMany" "I") (List.mem_of_getElem? (i := 793) (by decide +kernel)) rfl
theorem fl_X9_253_8 : mFl RX9 253 8 20 := ⟨RX9, TX9, 25, rfl, by decide, wg_793, fun w h => mgood_in (inX9 w h) (List.all_eq_true.mp (show (u_ws RX9 TX9 25).all goodWord = true by decide +kernel) w h)⟩
theorem fp_X9_253_8 : mFp RX9 253 8 20 .int := ⟨RX9, TX9, 25, tyX9, rfl, by decide, wg_793, fun w h => mgood_in (inX9 w h) (List.all_eq_true.mp (show (u_ws RX9 TX9 25).all goodWord = true by decide +kernel) w h), tyX9_ok, nmX9, rfl, by decide +kernel⟩
theorem wg_790 : Cond.fieldLink RX9 256 "MirroredTalksModel" "reason" "I" ∈ mgood := mgood_in (w := Cond.fieldLink RX9 256 "MirroredTalksModel" "reason" "I") (List.mem_of_getElem? (i := 790) (by decide +kernel)) rfl
theorem fl_X9_256_8 : mFl RX9 256 8 17 := ⟨RX9, TX9, 25, rfl, by decide, wg_790, fun w h => mgood_in (inX9 w h) (List.all_eq_true.mp (show (u_ws RX9 TX9 25).all goodWord = true by decide +kernel) w h)⟩
theorem fp_X9_256_8 : mFp RX9 256 8 17 .int := ⟨RX9, TX9, 25, tyX9, rfl, by decide, wg_790, fun w h => mgood_in (inX9 w h) (List.all_eq_true.mp (show (u_ws RX9 TX9 25).all goodWord = true by decide +kernel) w h), tyX9_ok, nmX9, rfl, by decide +kernel⟩
theorem wg_110 : Cond.fieldLink RX0 11 "MirroredTalks$History" "entries" "[I" ∈ mgood := mgood_in (w := Cond.fieldLink RX0 11 "MirroredTalks$History" "entries" "[I") (List.mem_of_getElem? (i := 110) (by decide +kernel)) rfl
theorem fl_X0_11_0 : mFl RX0 11 0 0 := ⟨RX0, TX0, 2, rfl, by decide, wg_110, fun w h => mgood_in (inX0 w h) (List.all_eq_true.mp (show (u_ws RX0 TX0 2).all goodWord = true by decide +kernel) w h)⟩
theorem wg_111 : Cond.fieldLink RX0 15 "MirroredTalks$History" "size" "I" ∈ mgood := mgood_in (w := Cond.fieldLink RX0 15 "MirroredTalks$History" "size" "I") (List.mem_of_getElem? (i := 111) (by decide +kernel)) rfl
theorem fl_X0_15_0 : mFl RX0 15 0 1 := ⟨RX0, TX0, 2, rfl, by decide, wg_111, fun w h => mgood_in (inX0 w h) (List.all_eq_true.mp (show (u_ws RX0 TX0 2).all goodWord = true by decide +kernel) w h)⟩
theorem fp_X0_15_0 : mFp RX0 15 0 1 .int := ⟨RX0, TX0, 2, tyX0, rfl, by decide, wg_111, fun w h => mgood_in (inX0 w h) (List.all_eq_true.mp (show (u_ws RX0 TX0 2).all goodWord = true by decide +kernel) w h), tyX0_ok, nmX0, rfl, by decide +kernel⟩
theorem wg_153 : Cond.fieldLink RX1 9 "MirroredTalks$Likeness" "alike" "[Z" ∈ mgood := mgood_in (w := Cond.fieldLink RX1 9 "MirroredTalks$Likeness" "alike" "[Z") (List.mem_of_getElem? (i := 153) (by decide +kernel)) rfl
theorem fl_X1_9_1 : mFl RX1 9 1 0 := ⟨RX1, TX1, 1, rfl, by decide, wg_153, fun w h => mgood_in (inX1 w h) (List.all_eq_true.mp (show (u_ws RX1 TX1 1).all goodWord = true by decide +kernel) w h)⟩
theorem wg_167 : Cond.fieldLink RX2 9 "MirroredTalks$Pairs" "pairs" "[I" ∈ mgood := mgood_in (w := Cond.fieldLink RX2 9 "MirroredTalks$Pairs" "pairs" "[I") (List.mem_of_getElem? (i := 167) (by decide +kernel)) rfl
theorem fl_X2_9_5 : mFl RX2 9 5 0 := ⟨RX6, TX6, 8, rfl, by decide, wg_167, fun w h => mgood_in (inX6 w h) (List.all_eq_true.mp (show (u_ws RX6 TX6 8).all goodWord = true by decide +kernel) w h)⟩
theorem fl_X2_9_6 : mFl RX2 9 6 0 := ⟨RX7, TX7, 8, rfl, by decide, wg_167, fun w h => mgood_in (inX7 w h) (List.all_eq_true.mp (show (u_ws RX7 TX7 8).all goodWord = true by decide +kernel) w h)⟩
theorem wg_168 : Cond.fieldLink RX2 15 "MirroredTalks$Pairs" "positions" "[I" ∈ mgood := mgood_in (w := Cond.fieldLink RX2 15 "MirroredTalks$Pairs" "positions" "[I") (List.mem_of_getElem? (i := 168) (by decide +kernel)) rfl
theorem fl_X2_15_5 : mFl RX2 15 5 1 := ⟨RX6, TX6, 8, rfl, by decide, wg_168, fun w h => mgood_in (inX6 w h) (List.all_eq_true.mp (show (u_ws RX6 TX6 8).all goodWord = true by decide +kernel) w h)⟩
theorem fl_X2_15_6 : mFl RX2 15 6 1 := ⟨RX7, TX7, 8, rfl, by decide, wg_168, fun w h => mgood_in (inX7 w h) (List.all_eq_true.mp (show (u_ws RX7 TX7 8).all goodWord = true by decide +kernel) w h)⟩
theorem wg_169 : Cond.fieldLink RX2 18 "MirroredTalks$Pairs" "lengths" "[I" ∈ mgood := mgood_in (w := Cond.fieldLink RX2 18 "MirroredTalks$Pairs" "lengths" "[I") (List.mem_of_getElem? (i := 169) (by decide +kernel)) rfl
theorem fl_X2_18_5 : mFl RX2 18 5 2 := ⟨RX6, TX6, 8, rfl, by decide, wg_169, fun w h => mgood_in (inX6 w h) (List.all_eq_true.mp (show (u_ws RX6 TX6 8).all goodWord = true by decide +kernel) w h)⟩
theorem fl_X2_18_6 : mFl RX2 18 6 2 := ⟨RX7, TX7, 8, rfl, by decide, wg_169, fun w h => mgood_in (inX7 w h) (List.all_eq_true.mp (show (u_ws RX7 TX7 8).all goodWord = true by decide +kernel) w h)⟩
theorem wg_170 : Cond.fieldLink RX2 21 "MirroredTalks$Pairs" "origins" "[I" ∈ mgood := mgood_in (w := Cond.fieldLink RX2 21 "MirroredTalks$Pairs" "origins" "[I") (List.mem_of_getElem? (i := 170) (by decide +kernel)) rfl
theorem fl_X2_21_5 : mFl RX2 21 5 3 := ⟨RX6, TX6, 8, rfl, by decide, wg_170, fun w h => mgood_in (inX6 w h) (List.all_eq_true.mp (show (u_ws RX6 TX6 8).all goodWord = true by decide +kernel) w h)⟩
theorem fl_X2_21_6 : mFl RX2 21 6 3 := ⟨RX7, TX7, 8, rfl, by decide, wg_170, fun w h => mgood_in (inX7 w h) (List.all_eq_true.mp (show (u_ws RX7 TX7 8).all goodWord = true by decide +kernel) w h)⟩
theorem wg_171 : Cond.fieldLink RX2 24 "MirroredTalks$Pairs" "lastWords" "[I" ∈ mgood := mgood_in (w := Cond.fieldLink RX2 24 "MirroredTalks$Pairs" "lastWords" "[I") (List.mem_of_getElem? (i := 171) (by decide +kernel)) rfl
theorem fl_X2_24_5 : mFl RX2 24 5 4 := ⟨RX6, TX6, 8, rfl, by decide, wg_171, fun w h => mgood_in (inX6 w h) (List.all_eq_true.mp (show (u_ws RX6 TX6 8).all goodWord = true by decide +kernel) w h)⟩
theorem fl_X2_24_6 : mFl RX2 24 6 4 := ⟨RX7, TX7, 8, rfl, by decide, wg_171, fun w h => mgood_in (inX7 w h) (List.all_eq_true.mp (show (u_ws RX7 TX7 8).all goodWord = true by decide +kernel) w h)⟩
theorem wg_172 : Cond.fieldLink RX2 27 "MirroredTalks$Pairs" "one" "LMirroredTalks$Plan;" ∈ mgood := mgood_in (w := Cond.fieldLink RX2 27 "MirroredTalks$Pairs" "one" "LMirroredTalks$Plan;") (List.mem_of_getElem? (i := 172) (by decide +kernel)) rfl
theorem fl_X2_27_5 : mFl RX2 27 5 5 := ⟨RX6, TX6, 8, rfl, by decide, wg_172, fun w h => mgood_in (inX6 w h) (List.all_eq_true.mp (show (u_ws RX6 TX6 8).all goodWord = true by decide +kernel) w h)⟩
theorem fp_X2_27_5 : mFp RX2 27 5 5 (.object "MirroredTalks$Plan") := ⟨RX6, TX6, 8, tyX6, rfl, by decide, wg_172, fun w h => mgood_in (inX6 w h) (List.all_eq_true.mp (show (u_ws RX6 TX6 8).all goodWord = true by decide +kernel) w h), tyX6_ok, nmX6, rfl, by decide +kernel⟩
theorem fl_X2_27_6 : mFl RX2 27 6 5 := ⟨RX7, TX7, 8, rfl, by decide, wg_172, fun w h => mgood_in (inX7 w h) (List.all_eq_true.mp (show (u_ws RX7 TX7 8).all goodWord = true by decide +kernel) w h)⟩
theorem fp_X2_27_6 : mFp RX2 27 6 5 (.object "MirroredTalks$Plan") := ⟨RX7, TX7, 8, tyX7, rfl, by decide, wg_172, fun w h => mgood_in (inX7 w h) (List.all_eq_true.mp (show (u_ws RX7 TX7 8).all goodWord = true by decide +kernel) w h), tyX7_ok, nmX7, rfl, by decide +kernel⟩
theorem wg_173 : Cond.fieldLink RX2 31 "MirroredTalks$Pairs" "other" "LMirroredTalks$Plan;" ∈ mgood := mgood_in (w := Cond.fieldLink RX2 31 "MirroredTalks$Pairs" "other" "LMirroredTalks$Plan;") (List.mem_of_getElem? (i := 173) (by decide +kernel)) rfl
theorem fl_X2_31_5 : mFl RX2 31 5 6 := ⟨RX6, TX6, 8, rfl, by decide, wg_173, fun w h => mgood_in (inX6 w h) (List.all_eq_true.mp (show (u_ws RX6 TX6 8).all goodWord = true by decide +kernel) w h)⟩
theorem fp_X2_31_5 : mFp RX2 31 5 6 (.object "MirroredTalks$Plan") := ⟨RX6, TX6, 8, tyX6, rfl, by decide, wg_173, fun w h => mgood_in (inX6 w h) (List.all_eq_true.mp (show (u_ws RX6 TX6 8).all goodWord = true by decide +kernel) w h), tyX6_ok, nmX6, rfl, by decide +kernel⟩
theorem fl_X2_31_6 : mFl RX2 31 6 6 := ⟨RX7, TX7, 8, rfl, by decide, wg_173, fun w h => mgood_in (inX7 w h) (List.all_eq_true.mp (show (u_ws RX7 TX7 8).all goodWord = true by decide +kernel) w h)⟩
theorem fp_X2_31_6 : mFp RX2 31 6 6 (.object "MirroredTalks$Plan") := ⟨RX7, TX7, 8, tyX7, rfl, by decide, wg_173, fun w h => mgood_in (inX7 w h) (List.all_eq_true.mp (show (u_ws RX7 TX7 8).all goodWord = true by decide +kernel) w h), tyX7_ok, nmX7, rfl, by decide +kernel⟩
theorem wg_174 : Cond.fieldLink RX2 40 "MirroredTalks$Pairs" "size" "I" ∈ mgood := mgood_in (w := Cond.fieldLink RX2 40 "MirroredTalks$Pairs" "size" "I") (List.mem_of_getElem? (i := 174) (by decide +kernel)) rfl
theorem fl_X2_40_5 : mFl RX2 40 5 7 := ⟨RX6, TX6, 8, rfl, by decide, wg_174, fun w h => mgood_in (inX6 w h) (List.all_eq_true.mp (show (u_ws RX6 TX6 8).all goodWord = true by decide +kernel) w h)⟩
theorem fp_X2_40_5 : mFp RX2 40 5 7 .int := ⟨RX6, TX6, 8, tyX6, rfl, by decide, wg_174, fun w h => mgood_in (inX6 w h) (List.all_eq_true.mp (show (u_ws RX6 TX6 8).all goodWord = true by decide +kernel) w h), tyX6_ok, nmX6, rfl, by decide +kernel⟩
theorem fl_X2_40_6 : mFl RX2 40 6 7 := ⟨RX7, TX7, 8, rfl, by decide, wg_174, fun w h => mgood_in (inX7 w h) (List.all_eq_true.mp (show (u_ws RX7 TX7 8).all goodWord = true by decide +kernel) w h)⟩
theorem fp_X2_40_6 : mFp RX2 40 6 7 .int := ⟨RX7, TX7, 8, tyX7, rfl, by decide, wg_174, fun w h => mgood_in (inX7 w h) (List.all_eq_true.mp (show (u_ws RX7 TX7 8).all goodWord = true by decide +kernel) w h), tyX7_ok, nmX7, rfl, by decide +kernel⟩
theorem wg_99 : Cond.fieldLink RX3 11 "MirroredTalks$Plan" "cells" "[I" ∈ mgood := mgood_in (w := Cond.fieldLink RX3 11 "MirroredTalks$Plan" "cells" "[I") (List.mem_of_getElem? (i := 99) (by decide +kernel)) rfl
theorem fl_X3_11_2 : mFl RX3 11 2 0 := ⟨RX3, TX3, 1, rfl, by decide, wg_99, fun w h => mgood_in (inX3 w h) (List.all_eq_true.mp (show (u_ws RX3 TX3 1).all goodWord = true by decide +kernel) w h)⟩
theorem wg_125 : Cond.fieldLink RX4 11 "MirroredTalks$PlanText" "characters" "[I" ∈ mgood := mgood_in (w := Cond.fieldLink RX4 11 "MirroredTalks$PlanText" "characters" "[I") (List.mem_of_getElem? (i := 125) (by decide +kernel)) rfl
theorem fl_X4_11_3 : mFl RX4 11 3 0 := ⟨RX4, TX4, 7, rfl, by decide, wg_125, fun w h => mgood_in (inX4 w h) (List.all_eq_true.mp (show (u_ws RX4 TX4 7).all goodWord = true by decide +kernel) w h)⟩
theorem wg_127 : Cond.fieldLink RX4 18 "MirroredTalks$PlanText" "draft" "LMirroredTalks$Plan;" ∈ mgood := mgood_in (w := Cond.fieldLink RX4 18 "MirroredTalks$PlanText" "draft" "LMirroredTalks$Plan;") (List.mem_of_getElem? (i := 127) (by decide +kernel)) rfl
theorem fl_X4_18_3 : mFl RX4 18 3 2 := ⟨RX4, TX4, 7, rfl, by decide, wg_127, fun w h => mgood_in (inX4 w h) (List.all_eq_true.mp (show (u_ws RX4 TX4 7).all goodWord = true by decide +kernel) w h)⟩
theorem wg_126 : Cond.fieldLink RX4 22 "MirroredTalks$PlanText" "length" "I" ∈ mgood := mgood_in (w := Cond.fieldLink RX4 22 "MirroredTalks$PlanText" "length" "I") (List.mem_of_getElem? (i := 126) (by decide +kernel)) rfl
theorem fl_X4_22_3 : mFl RX4 22 3 1 := ⟨RX4, TX4, 7, rfl, by decide, wg_126, fun w h => mgood_in (inX4 w h) (List.all_eq_true.mp (show (u_ws RX4 TX4 7).all goodWord = true by decide +kernel) w h)⟩
theorem fp_X4_22_3 : mFp RX4 22 3 1 .int := ⟨RX4, TX4, 7, tyX4, rfl, by decide, wg_126, fun w h => mgood_in (inX4 w h) (List.all_eq_true.mp (show (u_ws RX4 TX4 7).all goodWord = true by decide +kernel) w h), tyX4_ok, nmX4, rfl, by decide +kernel⟩
theorem wg_128 : Cond.fieldLink RX4 26 "MirroredTalks$PlanText" "told" "I" ∈ mgood := mgood_in (w := Cond.fieldLink RX4 26 "MirroredTalks$PlanText" "told" "I") (List.mem_of_getElem? (i := 128) (by decide +kernel)) rfl
theorem fl_X4_26_3 : mFl RX4 26 3 3 := ⟨RX4, TX4, 7, rfl, by decide, wg_128, fun w h => mgood_in (inX4 w h) (List.all_eq_true.mp (show (u_ws RX4 TX4 7).all goodWord = true by decide +kernel) w h)⟩
theorem fp_X4_26_3 : mFp RX4 26 3 3 .int := ⟨RX4, TX4, 7, tyX4, rfl, by decide, wg_128, fun w h => mgood_in (inX4 w h) (List.all_eq_true.mp (show (u_ws RX4 TX4 7).all goodWord = true by decide +kernel) w h), tyX4_ok, nmX4, rfl, by decide +kernel⟩
theorem wg_130 : Cond.fieldLink RX4 35 "MirroredTalks$PlanText" "faultReason" "I" ∈ mgood := mgood_in (w := Cond.fieldLink RX4 35 "MirroredTalks$PlanText" "faultReason" "I") (List.mem_of_getElem? (i := 130) (by decide +kernel)) rfl
theorem fl_X4_35_3 : mFl RX4 35 3 5 := ⟨RX4, TX4, 7, rfl, by decide, wg_130, fun w h => mgood_in (inX4 w h) (List.all_eq_true.mp (show (u_ws RX4 TX4 7).all goodWord = true by decide +kernel) w h)⟩
theorem fp_X4_35_3 : mFp RX4 35 3 5 .int := ⟨RX4, TX4, 7, tyX4, rfl, by decide, wg_130, fun w h => mgood_in (inX4 w h) (List.all_eq_true.mp (show (u_ws RX4 TX4 7).all goodWord = true by decide +kernel) w h), tyX4_ok, nmX4, rfl, by decide +kernel⟩
theorem wg_129 : Cond.fieldLink RX4 38 "MirroredTalks$PlanText" "faultPosition" "I" ∈ mgood := mgood_in (w := Cond.fieldLink RX4 38 "MirroredTalks$PlanText" "faultPosition" "I") (List.mem_of_getElem? (i := 129) (by decide +kernel)) rfl
theorem fl_X4_38_3 : mFl RX4 38 3 4 := ⟨RX4, TX4, 7, rfl, by decide, wg_129, fun w h => mgood_in (inX4 w h) (List.all_eq_true.mp (show (u_ws RX4 TX4 7).all goodWord = true by decide +kernel) w h)⟩
theorem fp_X4_38_3 : mFp RX4 38 3 4 .int := ⟨RX4, TX4, 7, tyX4, rfl, by decide, wg_129, fun w h => mgood_in (inX4 w h) (List.all_eq_true.mp (show (u_ws RX4 TX4 7).all goodWord = true by decide +kernel) w h), tyX4_ok, nmX4, rfl, by decide +kernel⟩
theorem wg_131 : Cond.fieldLink RX4 41 "MirroredTalks$PlanText" "faultCause" "I" ∈ mgood := mgood_in (w := Cond.fieldLink RX4 41 "MirroredTalks$PlanText" "faultCause" "I") (List.mem_of_getElem? (i := 131) (by decide +kernel)) rfl
theorem fl_X4_41_3 : mFl RX4 41 3 6 := ⟨RX4, TX4, 7, rfl, by decide, wg_131, fun w h => mgood_in (inX4 w h) (List.all_eq_true.mp (show (u_ws RX4 TX4 7).all goodWord = true by decide +kernel) w h)⟩
theorem fp_X4_41_3 : mFp RX4 41 3 6 .int := ⟨RX4, TX4, 7, tyX4, rfl, by decide, wg_131, fun w h => mgood_in (inX4 w h) (List.all_eq_true.mp (show (u_ws RX4 TX4 7).all goodWord = true by decide +kernel) w h), tyX4_ok, nmX4, rfl, by decide +kernel⟩
theorem wg_198 : Cond.fieldLink RX5 9 "MirroredTalks$RowCount" "openWays" "[I" ∈ mgood := mgood_in (w := Cond.fieldLink RX5 9 "MirroredTalks$RowCount" "openWays" "[I") (List.mem_of_getElem? (i := 198) (by decide +kernel)) rfl
theorem fl_X5_9_4 : mFl RX5 9 4 0 := ⟨RX5, TX5, 4, rfl, by decide, wg_198, fun w h => mgood_in (inX5 w h) (List.all_eq_true.mp (show (u_ws RX5 TX5 4).all goodWord = true by decide +kernel) w h)⟩
theorem wg_199 : Cond.fieldLink RX5 15 "MirroredTalks$RowCount" "rows" "[J" ∈ mgood := mgood_in (w := Cond.fieldLink RX5 15 "MirroredTalks$RowCount" "rows" "[J") (List.mem_of_getElem? (i := 199) (by decide +kernel)) rfl
theorem fl_X5_15_4 : mFl RX5 15 4 1 := ⟨RX5, TX5, 4, rfl, by decide, wg_199, fun w h => mgood_in (inX5 w h) (List.all_eq_true.mp (show (u_ws RX5 TX5 4).all goodWord = true by decide +kernel) w h)⟩
theorem wg_200 : Cond.fieldLink RX5 19 "MirroredTalks$RowCount" "ready" "[I" ∈ mgood := mgood_in (w := Cond.fieldLink RX5 19 "MirroredTalks$RowCount" "ready" "[I") (List.mem_of_getElem? (i := 200) (by decide +kernel)) rfl
theorem fl_X5_19_4 : mFl RX5 19 4 2 := ⟨RX5, TX5, 4, rfl, by decide, wg_200, fun w h => mgood_in (inX5 w h) (List.all_eq_true.mp (show (u_ws RX5 TX5 4).all goodWord = true by decide +kernel) w h)⟩
theorem wg_201 : Cond.fieldLink RX5 30 "MirroredTalks$RowCount" "readySize" "I" ∈ mgood := mgood_in (w := Cond.fieldLink RX5 30 "MirroredTalks$RowCount" "readySize" "I") (List.mem_of_getElem? (i := 201) (by decide +kernel)) rfl
theorem fl_X5_30_4 : mFl RX5 30 4 3 := ⟨RX5, TX5, 4, rfl, by decide, wg_201, fun w h => mgood_in (inX5 w h) (List.all_eq_true.mp (show (u_ws RX5 TX5 4).all goodWord = true by decide +kernel) w h)⟩
theorem fp_X5_30_4 : mFp RX5 30 4 3 .int := ⟨RX5, TX5, 4, tyX5, rfl, by decide, wg_201, fun w h => mgood_in (inX5 w h) (List.all_eq_true.mp (show (u_ws RX5 TX5 4).all goodWord = true by decide +kernel) w h), tyX5_ok, nmX5, rfl, by decide +kernel⟩
theorem kJ_X5_60 : Cond.constantLong RX5 60 (mJ (-1)) ∈ mgood := mgood_in (List.mem_of_getElem? (i := 600) (by decide +kernel)) rfl
theorem kJ_X5_74 : Cond.constantLong RX5 74 (mJ (1000000000000001)) ∈ mgood := mgood_in (List.mem_of_getElem? (i := 592) (by decide +kernel)) rfl
theorem kI_J6_265 : Cond.constant RJ6 265 (mI (1431655765)) ∈ mgood := mgood_in (List.mem_of_getElem? (i := 309) (by decide +kernel)) rfl
theorem kI_J6_266 : Cond.constant RJ6 266 (mI (858993459)) ∈ mgood := mgood_in (List.mem_of_getElem? (i := 310) (by decide +kernel)) rfl
theorem kI_J6_267 : Cond.constant RJ6 267 (mI (252645135)) ∈ mgood := mgood_in (List.mem_of_getElem? (i := 311) (by decide +kernel)) rfl
theorem ac_X0_19 : Cond.methodLink RX0 19 arraycopyName ∈ mgood := mgood_in (List.mem_of_getElem? (i := 275) (by decide +kernel)) rfl
theorem ac_X3_56 : Cond.methodLink RX3 56 arraycopyName ∈ mgood := mgood_in (List.mem_of_getElem? (i := 282) (by decide +kernel)) rfl
theorem ac_nat : Cond.native arraycopyName ∈ mgood := mgood_in (List.mem_of_getElem? (i := 277) (by decide +kernel)) rfl
theorem ac_stat : Cond.static arraycopyName ∈ mgood := mgood_in (List.mem_of_getElem? (i := 276) (by decide +kernel)) rfl
theorem ac_ini : Cond.initialized "java/lang/System" ∈ mgood := mgood_in (List.mem_of_getElem? (i := 63) (by decide +kernel)) rfl
end
section
/-! FORMS of contracts: a value and nothing changed (qP), no value (qV), a number (qI); booleans -/
def qP (v : mV) (w : mW) : Option mV → mW → Prop := fun r w' => r = some v ∧ w' = w
def qV (P : mW → Prop) : Option mV → mW → Prop := fun r w' => r = none ∧ P w'
def qI (P : Int → mW → Prop) : Option mV → mW → Prop := fun r w' => ∃ z, r = some (mvI z) ∧ P z w'
def qJ (P : Int → mW → Prop) : Option mV → mW → Prop := fun r w' => ∃ z, r = some (mvJ z) ∧ P z w'
def mb (b : Bool) : Int := cond b 1 0
theorem mb_rng (b : Bool) : -2147483648 ≤ mb b ∧ mb b < 2147483648 := by cases b <;> decide
theorem mb_01 (b : Bool) : mb b = 0 ∨ mb b = 1 := by cases b <;> decide
theorem mb_0 (b : Bool) : mb b = 0 ↔ b = false := by cases b <;> decide
theorem mb_1 (b : Bool) : mb b = 1 ↔ b = true := by cases b <;> decide
section MFORM
variable {l : Launch} {G : mG} {K : mK} {d nL : Nat} {own : String} {cc : ByteArray} {ret : Option FieldType} {Q : Option mV → mW → Prop} {pc : Nat} {L : List (Option mV)} {st : List mV} {w : mW}
theorem wm_pS (hC : mC G K nL own cc ret) {k idx n mL' : Nat} {y : MethodName} {cy : ByteArray} {r' : Option FieldType} {as S : List mV} {v : mV} (cs : mcS own idx y n) (hcode : Cond.code y cy mL' r' ∈ mgood) (hM : Mx l G k y cy mL' r' (as) w (qP v w)) (hn : as.length = n) (hd : k + 1 ≤ d ∧ mL' ≤ 19) (hst : S = as.reverse ++ st) (hroom : (st.map mcat).sum ≤ 8) (hdg : decode cc pc = .ok (.invokestatic idx, 3)) (next : Wm l G K d nL Q (pc + 3) L (v :: st) w) : Wm l G K d nL Q pc L S w :=
  wm_callS hC cs hcode hM hn hd hst hroom hdg (fun r w' h => by obtain ⟨rfl, rfl⟩ := h; exact next)
theorem wm_vS (hC : mC G K nL own cc ret) {k idx n mL' : Nat} {y : MethodName} {cy : ByteArray} {r' : Option FieldType} {as S : List mV} {P : mW → Prop} (cs : mcS own idx y n) (hcode : Cond.code y cy mL' r' ∈ mgood) (hM : Mx l G k y cy mL' r' (as) w (qV P)) (hn : as.length = n) (hd : k + 1 ≤ d ∧ mL' ≤ 19) (hst : S = as.reverse ++ st) (hroom : (st.map mcat).sum ≤ 8) (hdg : decode cc pc = .ok (.invokestatic idx, 3)) (next : ∀ w', P w' → Wm l G K d nL Q (pc + 3) L st w') : Wm l G K d nL Q pc L S w :=
  wm_callS hC cs hcode hM hn hd hst hroom hdg (fun r w' h => by obtain ⟨rfl, h⟩ := h; exact next w' h)
theorem wm_iS (hC : mC G K nL own cc ret) {k idx n mL' : Nat} {y : MethodName} {cy : ByteArray} {r' : Option FieldType} {as S : List mV} {P : Int → mW → Prop} (cs : mcS own idx y n) (hcode : Cond.code y cy mL' r' ∈ mgood) (hM : Mx l G k y cy mL' r' (as) w (qI P)) (hn : as.length = n) (hd : k + 1 ≤ d ∧ mL' ≤ 19) (hst : S = as.reverse ++ st) (hroom : (st.map mcat).sum ≤ 8) (hdg : decode cc pc = .ok (.invokestatic idx, 3)) (next : ∀ z w', P z w' → Wm l G K d nL Q (pc + 3) L (mvI z :: st) w') : Wm l G K d nL Q pc L S w :=
  wm_callS hC cs hcode hM hn hd hst hroom hdg (fun r w' h => by obtain ⟨z, rfl, h⟩ := h; exact next z w' h)
theorem wm_jS (hC : mC G K nL own cc ret) {k idx n mL' : Nat} {y : MethodName} {cy : ByteArray} {r' : Option FieldType} {as S : List mV} {P : Int → mW → Prop} (cs : mcS own idx y n) (hcode : Cond.code y cy mL' r' ∈ mgood) (hM : Mx l G k y cy mL' r' (as) w (qJ P)) (hn : as.length = n) (hd : k + 1 ≤ d ∧ mL' ≤ 19) (hst : S = as.reverse ++ st) (hroom : (st.map mcat).sum ≤ 8) (hdg : decode cc pc = .ok (.invokestatic idx, 3)) (next : ∀ z w', P z w' → Wm l G K d nL Q (pc + 3) L (mvJ z :: st) w') : Wm l G K d nL Q pc L S w :=
  wm_callS hC cs hcode hM hn hd hst hroom hdg (fun r w' h => by obtain ⟨z, rfl, h⟩ := h; exact next z w' h)
theorem wm_pN (hC : mC G K nL own cc ret) {k idx n mL' : Nat} {y : MethodName} {cy : ByteArray} {r' : Option FieldType} {as S : List mV} {v : mV} (cs : mcN own idx y n) (hcode : Cond.code y cy mL' r' ∈ mgood) (hM : Mx l G k y cy mL' r' (as) w (qP v w)) (hn : as.length = n) (hd : k + 1 ≤ d ∧ mL' ≤ 19) (hst : S = as.reverse ++ st) (hroom : (st.map mcat).sum ≤ 8) (hdg : decode cc pc = .ok (.invokestatic idx, 3)) (next : Wm l G K d nL Q (pc + 3) L (v :: st) w) : Wm l G K d nL Q pc L S w :=
  wm_callN hC cs hcode hM hn hd hst hroom hdg (fun r w' h => by obtain ⟨rfl, rfl⟩ := h; exact next)
theorem wm_vN (hC : mC G K nL own cc ret) {k idx n mL' : Nat} {y : MethodName} {cy : ByteArray} {r' : Option FieldType} {as S : List mV} {P : mW → Prop} (cs : mcN own idx y n) (hcode : Cond.code y cy mL' r' ∈ mgood) (hM : Mx l G k y cy mL' r' (as) w (qV P)) (hn : as.length = n) (hd : k + 1 ≤ d ∧ mL' ≤ 19) (hst : S = as.reverse ++ st) (hroom : (st.map mcat).sum ≤ 8) (hdg : decode cc pc = .ok (.invokestatic idx, 3)) (next : ∀ w', P w' → Wm l G K d nL Q (pc + 3) L st w') : Wm l G K d nL Q pc L S w :=
  wm_callN hC cs hcode hM hn hd hst hroom hdg (fun r w' h => by obtain ⟨rfl, h⟩ := h; exact next w' h)
theorem wm_iN (hC : mC G K nL own cc ret) {k idx n mL' : Nat} {y : MethodName} {cy : ByteArray} {r' : Option FieldType} {as S : List mV} {P : Int → mW → Prop} (cs : mcN own idx y n) (hcode : Cond.code y cy mL' r' ∈ mgood) (hM : Mx l G k y cy mL' r' (as) w (qI P)) (hn : as.length = n) (hd : k + 1 ≤ d ∧ mL' ≤ 19) (hst : S = as.reverse ++ st) (hroom : (st.map mcat).sum ≤ 8) (hdg : decode cc pc = .ok (.invokestatic idx, 3)) (next : ∀ z w', P z w' → Wm l G K d nL Q (pc + 3) L (mvI z :: st) w') : Wm l G K d nL Q pc L S w :=
  wm_callN hC cs hcode hM hn hd hst hroom hdg (fun r w' h => by obtain ⟨z, rfl, h⟩ := h; exact next z w' h)
theorem wm_jN (hC : mC G K nL own cc ret) {k idx n mL' : Nat} {y : MethodName} {cy : ByteArray} {r' : Option FieldType} {as S : List mV} {P : Int → mW → Prop} (cs : mcN own idx y n) (hcode : Cond.code y cy mL' r' ∈ mgood) (hM : Mx l G k y cy mL' r' (as) w (qJ P)) (hn : as.length = n) (hd : k + 1 ≤ d ∧ mL' ≤ 19) (hst : S = as.reverse ++ st) (hroom : (st.map mcat).sum ≤ 8) (hdg : decode cc pc = .ok (.invokestatic idx, 3)) (next : ∀ z w', P z w' → Wm l G K d nL Q (pc + 3) L (mvJ z :: st) w') : Wm l G K d nL Q pc L S w :=
  wm_callN hC cs hcode hM hn hd hst hroom hdg (fun r w' h => by obtain ⟨z, rfl, h⟩ := h; exact next z w' h)
theorem wm_pT (hC : mC G K nL own cc ret) {k idx n mL' : Nat} {y : MethodName} {cy : ByteArray} {r' : Option FieldType} {as S : List mV} {v : mV} {x : MethodName} (cs : mcT own idx x y n) (hcode : Cond.code y cy mL' r' ∈ mgood) (hM : Mx l G k y cy mL' r' (as) w (qP v w)) (hn : as.length = n) (hd : k + 1 ≤ d ∧ mL' ≤ 19) (hst : S = as.reverse ++ st) (hroom : (st.map mcat).sum ≤ 8) (hdg : decode cc pc = .ok (.invokestatic idx, 3)) (next : Wm l G K d nL Q (pc + 3) L (v :: st) w) : Wm l G K d nL Q pc L S w :=
  wm_callT hC cs hcode hM hn hd hst hroom hdg (fun r w' h => by obtain ⟨rfl, rfl⟩ := h; exact next)
theorem wm_vT (hC : mC G K nL own cc ret) {k idx n mL' : Nat} {y : MethodName} {cy : ByteArray} {r' : Option FieldType} {as S : List mV} {P : mW → Prop} {x : MethodName} (cs : mcT own idx x y n) (hcode : Cond.code y cy mL' r' ∈ mgood) (hM : Mx l G k y cy mL' r' (as) w (qV P)) (hn : as.length = n) (hd : k + 1 ≤ d ∧ mL' ≤ 19) (hst : S = as.reverse ++ st) (hroom : (st.map mcat).sum ≤ 8) (hdg : decode cc pc = .ok (.invokestatic idx, 3)) (next : ∀ w', P w' → Wm l G K d nL Q (pc + 3) L st w') : Wm l G K d nL Q pc L S w :=
  wm_callT hC cs hcode hM hn hd hst hroom hdg (fun r w' h => by obtain ⟨rfl, h⟩ := h; exact next w' h)
theorem wm_iT (hC : mC G K nL own cc ret) {k idx n mL' : Nat} {y : MethodName} {cy : ByteArray} {r' : Option FieldType} {as S : List mV} {P : Int → mW → Prop} {x : MethodName} (cs : mcT own idx x y n) (hcode : Cond.code y cy mL' r' ∈ mgood) (hM : Mx l G k y cy mL' r' (as) w (qI P)) (hn : as.length = n) (hd : k + 1 ≤ d ∧ mL' ≤ 19) (hst : S = as.reverse ++ st) (hroom : (st.map mcat).sum ≤ 8) (hdg : decode cc pc = .ok (.invokestatic idx, 3)) (next : ∀ z w', P z w' → Wm l G K d nL Q (pc + 3) L (mvI z :: st) w') : Wm l G K d nL Q pc L S w :=
  wm_callT hC cs hcode hM hn hd hst hroom hdg (fun r w' h => by obtain ⟨z, rfl, h⟩ := h; exact next z w' h)
theorem wm_jT (hC : mC G K nL own cc ret) {k idx n mL' : Nat} {y : MethodName} {cy : ByteArray} {r' : Option FieldType} {as S : List mV} {P : Int → mW → Prop} {x : MethodName} (cs : mcT own idx x y n) (hcode : Cond.code y cy mL' r' ∈ mgood) (hM : Mx l G k y cy mL' r' (as) w (qJ P)) (hn : as.length = n) (hd : k + 1 ≤ d ∧ mL' ≤ 19) (hst : S = as.reverse ++ st) (hroom : (st.map mcat).sum ≤ 8) (hdg : decode cc pc = .ok (.invokestatic idx, 3)) (next : ∀ z w', P z w' → Wm l G K d nL Q (pc + 3) L (mvJ z :: st) w') : Wm l G K d nL Q pc L S w :=
  wm_callT hC cs hcode hM hn hd hst hroom hdg (fun r w' h => by obtain ⟨z, rfl, h⟩ := h; exact next z w' h)
theorem wm_pV (hC : mC G K nL own cc ret) {k idx n mL' : Nat} {y : MethodName} {cy : ByteArray} {r' : Option FieldType} {as S : List mV} {v : mV} {i ci N : Nat} {T : u_T} {fks : List (Option (Option Nat))} (cs : mcV own idx y n) (hcode : Cond.code y cy mL' r' ∈ mgood) (hi : mlays[i]? = some (.inl (ci, fks))) (hc : vwCl[ci]? = some (y.cls, T, N)) (hM : Mx l G k y cy mL' r' (mvR i :: as) w (qP v w)) (hn : as.length = n) (hd : k + 1 ≤ d ∧ mL' ≤ 19) (hst : S = as.reverse ++ mvR i :: st) (hroom : (st.map mcat).sum ≤ 8) (hdg : decode cc pc = .ok (.invokevirtual idx, 3)) (next : Wm l G K d nL Q (pc + 3) L (v :: st) w) : Wm l G K d nL Q pc L S w :=
  wm_callV hC cs hcode hi hc hM hn hd hst hroom hdg (fun r w' h => by obtain ⟨rfl, rfl⟩ := h; exact next)
theorem wm_vV (hC : mC G K nL own cc ret) {k idx n mL' : Nat} {y : MethodName} {cy : ByteArray} {r' : Option FieldType} {as S : List mV} {P : mW → Prop} {i ci N : Nat} {T : u_T} {fks : List (Option (Option Nat))} (cs : mcV own idx y n) (hcode : Cond.code y cy mL' r' ∈ mgood) (hi : mlays[i]? = some (.inl (ci, fks))) (hc : vwCl[ci]? = some (y.cls, T, N)) (hM : Mx l G k y cy mL' r' (mvR i :: as) w (qV P)) (hn : as.length = n) (hd : k + 1 ≤ d ∧ mL' ≤ 19) (hst : S = as.reverse ++ mvR i :: st) (hroom : (st.map mcat).sum ≤ 8) (hdg : decode cc pc = .ok (.invokevirtual idx, 3)) (next : ∀ w', P w' → Wm l G K d nL Q (pc + 3) L st w') : Wm l G K d nL Q pc L S w :=
  wm_callV hC cs hcode hi hc hM hn hd hst hroom hdg (fun r w' h => by obtain ⟨rfl, h⟩ := h; exact next w' h)
theorem wm_iV (hC : mC G K nL own cc ret) {k idx n mL' : Nat} {y : MethodName} {cy : ByteArray} {r' : Option FieldType} {as S : List mV} {P : Int → mW → Prop} {i ci N : Nat} {T : u_T} {fks : List (Option (Option Nat))} (cs : mcV own idx y n) (hcode : Cond.code y cy mL' r' ∈ mgood) (hi : mlays[i]? = some (.inl (ci, fks))) (hc : vwCl[ci]? = some (y.cls, T, N)) (hM : Mx l G k y cy mL' r' (mvR i :: as) w (qI P)) (hn : as.length = n) (hd : k + 1 ≤ d ∧ mL' ≤ 19) (hst : S = as.reverse ++ mvR i :: st) (hroom : (st.map mcat).sum ≤ 8) (hdg : decode cc pc = .ok (.invokevirtual idx, 3)) (next : ∀ z w', P z w' → Wm l G K d nL Q (pc + 3) L (mvI z :: st) w') : Wm l G K d nL Q pc L S w :=
  wm_callV hC cs hcode hi hc hM hn hd hst hroom hdg (fun r w' h => by obtain ⟨z, rfl, h⟩ := h; exact next z w' h)
theorem wm_jV (hC : mC G K nL own cc ret) {k idx n mL' : Nat} {y : MethodName} {cy : ByteArray} {r' : Option FieldType} {as S : List mV} {P : Int → mW → Prop} {i ci N : Nat} {T : u_T} {fks : List (Option (Option Nat))} (cs : mcV own idx y n) (hcode : Cond.code y cy mL' r' ∈ mgood) (hi : mlays[i]? = some (.inl (ci, fks))) (hc : vwCl[ci]? = some (y.cls, T, N)) (hM : Mx l G k y cy mL' r' (mvR i :: as) w (qJ P)) (hn : as.length = n) (hd : k + 1 ≤ d ∧ mL' ≤ 19) (hst : S = as.reverse ++ mvR i :: st) (hroom : (st.map mcat).sum ≤ 8) (hdg : decode cc pc = .ok (.invokevirtual idx, 3)) (next : ∀ z w', P z w' → Wm l G K d nL Q (pc + 3) L (mvJ z :: st) w') : Wm l G K d nL Q pc L S w :=
  wm_callV hC cs hcode hi hc hM hn hd hst hroom hdg (fun r w' h => by obtain ⟨z, rfl, h⟩ := h; exact next z w' h)
theorem wm_pU (hC : mC G K nL own cc ret) {k idx n mL' : Nat} {y : MethodName} {cy : ByteArray} {r' : Option FieldType} {as S : List mV} {v : mV} {i ci N : Nat} {T : u_T} {C owner : String} {fks : List (Option (Option Nat))} {x : MethodName} (cs : mcU own idx C owner x y n) (hcode : Cond.code y cy mL' r' ∈ mgood) (hi : mlays[i]? = some (.inl (ci, fks))) (hc : vwCl[ci]? = some (C, T, N)) (hM : Mx l G k y cy mL' r' (mvR i :: as) w (qP v w)) (hn : as.length = n) (hd : k + 1 ≤ d ∧ mL' ≤ 19) (hst : S = as.reverse ++ mvR i :: st) (hroom : (st.map mcat).sum ≤ 8) (hdg : decode cc pc = .ok (.invokevirtual idx, 3)) (next : Wm l G K d nL Q (pc + 3) L (v :: st) w) : Wm l G K d nL Q pc L S w :=
  wm_callU hC cs hcode hi hc hM hn hd hst hroom hdg (fun r w' h => by obtain ⟨rfl, rfl⟩ := h; exact next)
theorem wm_vU (hC : mC G K nL own cc ret) {k idx n mL' : Nat} {y : MethodName} {cy : ByteArray} {r' : Option FieldType} {as S : List mV} {P : mW → Prop} {i ci N : Nat} {T : u_T} {C owner : String} {fks : List (Option (Option Nat))} {x : MethodName} (cs : mcU own idx C owner x y n) (hcode : Cond.code y cy mL' r' ∈ mgood) (hi : mlays[i]? = some (.inl (ci, fks))) (hc : vwCl[ci]? = some (C, T, N)) (hM : Mx l G k y cy mL' r' (mvR i :: as) w (qV P)) (hn : as.length = n) (hd : k + 1 ≤ d ∧ mL' ≤ 19) (hst : S = as.reverse ++ mvR i :: st) (hroom : (st.map mcat).sum ≤ 8) (hdg : decode cc pc = .ok (.invokevirtual idx, 3)) (next : ∀ w', P w' → Wm l G K d nL Q (pc + 3) L st w') : Wm l G K d nL Q pc L S w :=
  wm_callU hC cs hcode hi hc hM hn hd hst hroom hdg (fun r w' h => by obtain ⟨rfl, h⟩ := h; exact next w' h)
theorem wm_iU (hC : mC G K nL own cc ret) {k idx n mL' : Nat} {y : MethodName} {cy : ByteArray} {r' : Option FieldType} {as S : List mV} {P : Int → mW → Prop} {i ci N : Nat} {T : u_T} {C owner : String} {fks : List (Option (Option Nat))} {x : MethodName} (cs : mcU own idx C owner x y n) (hcode : Cond.code y cy mL' r' ∈ mgood) (hi : mlays[i]? = some (.inl (ci, fks))) (hc : vwCl[ci]? = some (C, T, N)) (hM : Mx l G k y cy mL' r' (mvR i :: as) w (qI P)) (hn : as.length = n) (hd : k + 1 ≤ d ∧ mL' ≤ 19) (hst : S = as.reverse ++ mvR i :: st) (hroom : (st.map mcat).sum ≤ 8) (hdg : decode cc pc = .ok (.invokevirtual idx, 3)) (next : ∀ z w', P z w' → Wm l G K d nL Q (pc + 3) L (mvI z :: st) w') : Wm l G K d nL Q pc L S w :=
  wm_callU hC cs hcode hi hc hM hn hd hst hroom hdg (fun r w' h => by obtain ⟨z, rfl, h⟩ := h; exact next z w' h)
theorem wm_jU (hC : mC G K nL own cc ret) {k idx n mL' : Nat} {y : MethodName} {cy : ByteArray} {r' : Option FieldType} {as S : List mV} {P : Int → mW → Prop} {i ci N : Nat} {T : u_T} {C owner : String} {fks : List (Option (Option Nat))} {x : MethodName} (cs : mcU own idx C owner x y n) (hcode : Cond.code y cy mL' r' ∈ mgood) (hi : mlays[i]? = some (.inl (ci, fks))) (hc : vwCl[ci]? = some (C, T, N)) (hM : Mx l G k y cy mL' r' (mvR i :: as) w (qJ P)) (hn : as.length = n) (hd : k + 1 ≤ d ∧ mL' ≤ 19) (hst : S = as.reverse ++ mvR i :: st) (hroom : (st.map mcat).sum ≤ 8) (hdg : decode cc pc = .ok (.invokevirtual idx, 3)) (next : ∀ z w', P z w' → Wm l G K d nL Q (pc + 3) L (mvJ z :: st) w') : Wm l G K d nL Q pc L S w :=
  wm_callU hC cs hcode hi hc hM hn hd hst hroom hdg (fun r w' h => by obtain ⟨z, rfl, h⟩ := h; exact next z w' h)
theorem wm_iretP {w0 : mW} {x v : Int} (hC : mC G K nL own cc (some .int)) (hdg : decode cc pc = .ok (.ireturn, 1)) (hx : x = v) (hw : w = w0) : Wm l G K d nL (qP (mvI v) w0) pc L [mvI x] w := wm_ireturn hC hdg ⟨by rw [hx], hw⟩
theorem wm_lretP {w0 : mW} {x v : Int} (hC : mC G K nL own cc (some .long)) (hdg : decode cc pc = .ok (.lreturn, 1)) (hx : x = v) (hw : w = w0) : Wm l G K d nL (qP (mvJ v) w0) pc L [mvJ x] w := wm_lreturn hC hdg ⟨by rw [hx], hw⟩
theorem wm_zretP {w0 : mW} {x : Int} {b : Bool} (hC : mC G K nL own cc (some .boolean)) (hdg : decode cc pc = .ok (.ireturn, 1)) (hx : x = mb b) (hw : w = w0) : Wm l G K d nL (qP (mvI (mb b)) w0) pc L [mvI x] w := by
  subst hx
  exact wm_zreturn hC hdg (mb_01 b) ⟨rfl, hw⟩
theorem wm_aretP {w0 : mW} {i j : Nat} {nm : String} (hC : mC G K nL own cc (some (.object nm))) (hdg : decode cc pc = .ok (.areturn, 1)) (hx : i = j) (hw : w = w0) : Wm l G K d nL (qP (mvR j) w0) pc L [mvR i] w := wm_areturn hC hdg ⟨by rw [hx], hw⟩
theorem wm_retV {P : mW → Prop} (hC : mC G K nL own cc none) (hdg : decode cc pc = .ok (.return_, 1)) (h : P w) : Wm l G K d nL (qV P) pc L [] w := wm_return hC hdg ⟨rfl, h⟩
theorem wm_iretI {P : Int → mW → Prop} {x : Int} (hC : mC G K nL own cc (some .int)) (hdg : decode cc pc = .ok (.ireturn, 1)) (h : P x w) : Wm l G K d nL (qI P) pc L [mvI x] w := wm_ireturn hC hdg ⟨x, rfl, h⟩
theorem wm_zretI {P : Int → mW → Prop} {x : Int} (hC : mC G K nL own cc (some .boolean)) (hdg : decode cc pc = .ok (.ireturn, 1)) (hx : x = 0 ∨ x = 1) (h : P x w) : Wm l G K d nL (qI P) pc L [mvI x] w := wm_zreturn hC hdg hx ⟨x, rfl, h⟩
theorem wm_lretJ {P : Int → mW → Prop} {x : Int} (hC : mC G K nL own cc (some .long)) (hdg : decode cc pc = .ok (.lreturn, 1)) (h : P x w) : Wm l G K d nL (qJ P) pc L [mvJ x] w := wm_lreturn hC hdg ⟨x, rfl, h⟩
theorem wm_ifb_eq (hC : mC G K nL own cc ret) (tgt : Nat) {b : Bool} {off : Int} (hdg : decode cc pc = .ok (.ifCond .eq off, 3)) (hoff : (pc : Int) + off = (tgt : Int)) (ht : b = false → Wm l G K d nL Q tgt L st w) (hf : b = true → Wm l G K d nL Q (pc + 3) L st w) : Wm l G K d nL Q pc L (mvI (mb b) :: st) w :=
  wm_if_eq hC tgt hdg hoff (mb_rng b) (fun h => ht ((mb_0 b).mp h)) (fun h => hf (by cases b; exact absurd rfl h; rfl))
theorem wm_ifb_ne (hC : mC G K nL own cc ret) (tgt : Nat) {b : Bool} {off : Int} (hdg : decode cc pc = .ok (.ifCond .ne off, 3)) (hoff : (pc : Int) + off = (tgt : Int)) (ht : b = true → Wm l G K d nL Q tgt L st w) (hf : b = false → Wm l G K d nL Q (pc + 3) L st w) : Wm l G K d nL Q pc L (mvI (mb b) :: st) w :=
  wm_if_ne hC tgt hdg hoff (mb_rng b) (fun h => ht (by cases b; exact absurd rfl h; rfl)) (fun h => hf ((mb_0 b).mp h))
end MFORM
def PlanIx (p : Nat) : Prop := mlays[p]? = some (.inl (2, [sS (p + 1)])) ∧ mlays[p + 1]? = some (.inr (0, 56))
theorem planIx1 : PlanIx 1 := ⟨rfl, rfl⟩
theorem planIx3 : PlanIx 3 := ⟨rfl, rfl⟩
theorem planIx5 : PlanIx 5 := ⟨rfl, rfl⟩
theorem planIx11 : PlanIx 11 := ⟨rfl, rfl⟩
end
section
/-! LEAVES of MirroredTalks; the plans -/
theorem wm_ifd_eq {l : Launch} {G : mG} {K : mK} {d nL : Nat} {own : String} {cc : ByteArray} {ret : Option FieldType} {Q : Option mV → mW → Prop} {pc : Nat} {L : List (Option mV)} {st : List mV} {w : mW} (hC : mC G K nL own cc ret) (tgt : Nat) {P : Prop} [Decidable P] {off : Int} (hdg : decode cc pc = .ok (.ifCond .eq off, 3)) (hoff : (pc : Int) + off = (tgt : Int)) (ht : ¬ P → Wm l G K d nL Q tgt L st w) (hf : P → Wm l G K d nL Q (pc + 3) L st w) : Wm l G K d nL Q pc L (mvI (mb (decide P)) :: st) w :=
  wm_ifb_eq hC tgt hdg hoff (fun h => ht (of_decide_eq_false h)) (fun h => hf (of_decide_eq_true h))
theorem wm_ifd_ne {l : Launch} {G : mG} {K : mK} {d nL : Nat} {own : String} {cc : ByteArray} {ret : Option FieldType} {Q : Option mV → mW → Prop} {pc : Nat} {L : List (Option mV)} {st : List mV} {w : mW} (hC : mC G K nL own cc ret) (tgt : Nat) {P : Prop} [Decidable P] {off : Int} (hdg : decode cc pc = .ok (.ifCond .ne off, 3)) (hoff : (pc : Int) + off = (tgt : Int)) (ht : P → Wm l G K d nL Q tgt L st w) (hf : ¬ P → Wm l G K d nL Q (pc + 3) L st w) : Wm l G K d nL Q pc L (mvI (mb (decide P)) :: st) w :=
  wm_ifb_ne hC tgt hdg hoff (fun h => ht (of_decide_eq_true h)) (fun h => hf (of_decide_eq_false h))
/-- sets as bits -/
def wmask (f : Nat → Bool) : Nat → Nat
  | 0 => 0
  | n + 1 => if f n then wmask f n ||| 2 ^ n else wmask f n
def wor (f : Nat → Nat) : Nat → Nat
  | 0 => 0
  | n + 1 => wor f n ||| f n
theorem wmask_lt (f : Nat → Bool) : ∀ n, wmask f n < 2 ^ n
  | 0 => Nat.one_pos
  | n + 1 => by
    have h := wmask_lt f n
    have h2 : 2 ^ (n + 1) = 2 ^ n * 2 := Nat.pow_succ 2 n
    unfold wmask
    split
    · exact Nat.or_lt_two_pow (by omega) (by omega)
    · omega
theorem wor_lt (f : Nat → Nat) (b : Nat) (hf : ∀ n, f n < 2 ^ b) : ∀ n, wor f n < 2 ^ b
  | 0 => Nat.two_pow_pos b
  | n + 1 => Nat.or_lt_two_pow (wor_lt f b hf n) (hf n)
theorem mtb (s k : Nat) : (s / 2 ^ k) &&& 1 = (s.testBit k).toNat := by
  rw [Nat.and_one_is_mod, Nat.testBit_eq_decide_div_mod_eq]
  rcases Nat.mod_two_eq_zero_or_one (s / 2 ^ k) with h | h <;> simp [h]
set_option maxRecDepth 100000 in
set_option maxHeartbeats 4000000 in
theorem s_X8_isPlan {l : Launch} {G : mG} {w : mW} {z : Int} (hz : -2147483648 ≤ z ∧ z < 2147483648) : Mx l G 0 yX8_isPlan cX8_isPlan 1 (some .boolean) [mvI z] w (qP (mvI (mb (decide (0 ≤ z ∧ z < 3)))) w) := by
  refine Mx.intro (by decide) RX8 rfl [some (mvI z)] (Nat.le_of_ble_eq_true rfl) rfl (fun K hC => ?_)
  refine wm_iload_n hC 0 (pc := 0) dX8_isPlan_0 rfl rfl ?_
  refine wm_if_lt hC 13 (pc := 1) dX8_isPlan_1 (by decide) (by omega) (fun h1 => ?_) (fun h1 => ?_)
  · refine wm_iconst hC (pc := 13) dX8_isPlan_13 ?_
    refine wm_zretP hC (pc := 14) dX8_isPlan_14 ?_ rfl
    first | exact ((mb_0 _).mpr (decide_eq_false (by omega))).symm | exact ((mb_1 _).mpr (decide_eq_true (by omega))).symm
  · refine wm_iload_n hC 0 (pc := 4) dX8_isPlan_4 rfl rfl ?_
    refine wm_iconst hC (pc := 5) dX8_isPlan_5 ?_
    refine wm_icmp_ge hC 13 (pc := 6) dX8_isPlan_6 (by decide) (by omega) (by omega) (fun h6 => ?_) (fun h6 => ?_)
    · refine wm_iconst hC (pc := 13) dX8_isPlan_13 ?_
      refine wm_zretP hC (pc := 14) dX8_isPlan_14 ?_ rfl
      first | exact ((mb_0 _).mpr (decide_eq_false (by omega))).symm | exact ((mb_1 _).mpr (decide_eq_true (by omega))).symm
    · refine wm_iconst hC (pc := 9) dX8_isPlan_9 ?_
      refine wm_goto hC 14 (pc := 10) dX8_isPlan_10 (by decide) ?_
      refine wm_zretP hC (pc := 14) dX8_isPlan_14 ?_ rfl
      first | exact ((mb_0 _).mpr (decide_eq_false (by omega))).symm | exact ((mb_1 _).mpr (decide_eq_true (by omega))).symm
set_option maxRecDepth 100000 in
set_option maxHeartbeats 4000000 in
theorem s_X8_isState {l : Launch} {G : mG} {w : mW} {z : Int} (hz : -2147483648 ≤ z ∧ z < 2147483648) : Mx l G 0 yX8_isState cX8_isState 1 (some .boolean) [mvI z] w (qP (mvI (mb (decide (0 ≤ z ∧ z < 8)))) w) := by
  refine Mx.intro (by decide) RX8 rfl [some (mvI z)] (Nat.le_of_ble_eq_true rfl) rfl (fun K hC => ?_)
  refine wm_iload_n hC 0 (pc := 0) dX8_isState_0 rfl rfl ?_
  refine wm_if_lt hC 14 (pc := 1) dX8_isState_1 (by decide) (by omega) (fun h1 => ?_) (fun h1 => ?_)
  · refine wm_iconst hC (pc := 14) dX8_isState_14 ?_
    refine wm_zretP hC (pc := 15) dX8_isState_15 ?_ rfl
    first | exact ((mb_0 _).mpr (decide_eq_false (by omega))).symm | exact ((mb_1 _).mpr (decide_eq_true (by omega))).symm
  · refine wm_iload_n hC 0 (pc := 4) dX8_isState_4 rfl rfl ?_
    refine wm_bipush hC (pc := 5) dX8_isState_5 (by decide) ?_
    refine wm_icmp_ge hC 14 (pc := 7) dX8_isState_7 (by decide) (by omega) (by omega) (fun h7 => ?_) (fun h7 => ?_)
    · refine wm_iconst hC (pc := 14) dX8_isState_14 ?_
      refine wm_zretP hC (pc := 15) dX8_isState_15 ?_ rfl
      first | exact ((mb_0 _).mpr (decide_eq_false (by omega))).symm | exact ((mb_1 _).mpr (decide_eq_true (by omega))).symm
    · refine wm_iconst hC (pc := 10) dX8_isState_10 ?_
      refine wm_goto hC 15 (pc := 11) dX8_isState_11 (by decide) ?_
      refine wm_zretP hC (pc := 15) dX8_isState_15 ?_ rfl
      first | exact ((mb_0 _).mpr (decide_eq_false (by omega))).symm | exact ((mb_1 _).mpr (decide_eq_true (by omega))).symm
set_option maxRecDepth 100000 in
set_option maxHeartbeats 4000000 in
theorem s_X8_isWord {l : Launch} {G : mG} {w : mW} {z : Int} (hz : -2147483648 ≤ z ∧ z < 2147483648) : Mx l G 0 yX8_isWord cX8_isWord 1 (some .boolean) [mvI z] w (qP (mvI (mb (decide (0 ≤ z ∧ z < 6)))) w) := by
  refine Mx.intro (by decide) RX8 rfl [some (mvI z)] (Nat.le_of_ble_eq_true rfl) rfl (fun K hC => ?_)
  refine wm_iload_n hC 0 (pc := 0) dX8_isWord_0 rfl rfl ?_
  refine wm_if_lt hC 14 (pc := 1) dX8_isWord_1 (by decide) (by omega) (fun h1 => ?_) (fun h1 => ?_)
  · refine wm_iconst hC (pc := 14) dX8_isWord_14 ?_
    refine wm_zretP hC (pc := 15) dX8_isWord_15 ?_ rfl
    first | exact ((mb_0 _).mpr (decide_eq_false (by omega))).symm | exact ((mb_1 _).mpr (decide_eq_true (by omega))).symm
  · refine wm_iload_n hC 0 (pc := 4) dX8_isWord_4 rfl rfl ?_
    refine wm_bipush hC (pc := 5) dX8_isWord_5 (by decide) ?_
    refine wm_icmp_ge hC 14 (pc := 7) dX8_isWord_7 (by decide) (by omega) (by omega) (fun h7 => ?_) (fun h7 => ?_)
    · refine wm_iconst hC (pc := 14) dX8_isWord_14 ?_
      refine wm_zretP hC (pc := 15) dX8_isWord_15 ?_ rfl
      first | exact ((mb_0 _).mpr (decide_eq_false (by omega))).symm | exact ((mb_1 _).mpr (decide_eq_true (by omega))).symm
    · refine wm_iconst hC (pc := 10) dX8_isWord_10 ?_
      refine wm_goto hC 15 (pc := 11) dX8_isWord_11 (by decide) ?_
      refine wm_zretP hC (pc := 15) dX8_isWord_15 ?_ rfl
      first | exact ((mb_0 _).mpr (decide_eq_false (by omega))).symm | exact ((mb_1 _).mpr (decide_eq_true (by omega))).symm
set_option maxRecDepth 100000 in
set_option maxHeartbeats 4000000 in
theorem s_X8_isKind {l : Launch} {G : mG} {w : mW} {z : Int} (hz : -2147483648 ≤ z ∧ z < 2147483648) : Mx l G 0 yX8_isKind cX8_isKind 1 (some .boolean) [mvI z] w (qP (mvI (mb (decide (0 ≤ z ∧ z < 3)))) w) := by
  refine Mx.intro (by decide) RX8 rfl [some (mvI z)] (Nat.le_of_ble_eq_true rfl) rfl (fun K hC => ?_)
  refine wm_iload_n hC 0 (pc := 0) dX8_isKind_0 rfl rfl ?_
  refine wm_if_lt hC 13 (pc := 1) dX8_isKind_1 (by decide) (by omega) (fun h1 => ?_) (fun h1 => ?_)
  · refine wm_iconst hC (pc := 13) dX8_isKind_13 ?_
    refine wm_zretP hC (pc := 14) dX8_isKind_14 ?_ rfl
    first | exact ((mb_0 _).mpr (decide_eq_false (by omega))).symm | exact ((mb_1 _).mpr (decide_eq_true (by omega))).symm
  · refine wm_iload_n hC 0 (pc := 4) dX8_isKind_4 rfl rfl ?_
    refine wm_iconst hC (pc := 5) dX8_isKind_5 ?_
    refine wm_icmp_gt hC 13 (pc := 6) dX8_isKind_6 (by decide) (by omega) (by omega) (fun h6 => ?_) (fun h6 => ?_)
    · refine wm_iconst hC (pc := 13) dX8_isKind_13 ?_
      refine wm_zretP hC (pc := 14) dX8_isKind_14 ?_ rfl
      first | exact ((mb_0 _).mpr (decide_eq_false (by omega))).symm | exact ((mb_1 _).mpr (decide_eq_true (by omega))).symm
    · refine wm_iconst hC (pc := 9) dX8_isKind_9 ?_
      refine wm_goto hC 14 (pc := 10) dX8_isKind_10 (by decide) ?_
      refine wm_zretP hC (pc := 14) dX8_isKind_14 ?_ rfl
      first | exact ((mb_0 _).mpr (decide_eq_false (by omega))).symm | exact ((mb_1 _).mpr (decide_eq_true (by omega))).symm
set_option maxRecDepth 100000 in
set_option maxHeartbeats 4000000 in
theorem s_X8_isPairQuestion {l : Launch} {G : mG} {w : mW} {z : Int} (hz : -2147483648 ≤ z ∧ z < 2147483648) : Mx l G 0 yX8_isPairQuestion cX8_isPairQuestion 1 (some .boolean) [mvI z] w (qP (mvI (mb (decide ((0 ≤ z ∧ z ≤ 4) ∨ (10 ≤ z ∧ z < 74))))) w) := by
  refine Mx.intro (by decide) RX8 rfl [some (mvI z)] (Nat.le_of_ble_eq_true rfl) rfl (fun K hC => ?_)
  refine wm_iload_n hC 0 (pc := 0) dX8_isPairQuestion_0 rfl rfl ?_
  refine wm_if_lt hC 9 (pc := 1) dX8_isPairQuestion_1 (by decide) (by omega) (fun h1 => ?_) (fun h1 => ?_)
  · refine wm_iload_n hC 0 (pc := 9) dX8_isPairQuestion_9 rfl rfl ?_
    refine wm_bipush hC (pc := 10) dX8_isPairQuestion_10 (by decide) ?_
    refine wm_icmp_lt hC 25 (pc := 12) dX8_isPairQuestion_12 (by decide) (by omega) (by omega) (fun h12 => ?_) (fun h12 => ?_)
    · refine wm_iconst hC (pc := 25) dX8_isPairQuestion_25 ?_
      refine wm_zretP hC (pc := 26) dX8_isPairQuestion_26 ?_ rfl
      first | exact ((mb_0 _).mpr (decide_eq_false (by omega))).symm | exact ((mb_1 _).mpr (decide_eq_true (by omega))).symm
    · refine wm_iload_n hC 0 (pc := 15) dX8_isPairQuestion_15 rfl rfl ?_
      refine wm_bipush hC (pc := 16) dX8_isPairQuestion_16 (by decide) ?_
      refine wm_icmp_ge hC 25 (pc := 18) dX8_isPairQuestion_18 (by decide) (by omega) (by omega) (fun h18 => ?_) (fun h18 => ?_)
      · refine wm_iconst hC (pc := 25) dX8_isPairQuestion_25 ?_
        refine wm_zretP hC (pc := 26) dX8_isPairQuestion_26 ?_ rfl
        first | exact ((mb_0 _).mpr (decide_eq_false (by omega))).symm | exact ((mb_1 _).mpr (decide_eq_true (by omega))).symm
      · refine wm_iconst hC (pc := 21) dX8_isPairQuestion_21 ?_
        refine wm_goto hC 26 (pc := 22) dX8_isPairQuestion_22 (by decide) ?_
        refine wm_zretP hC (pc := 26) dX8_isPairQuestion_26 ?_ rfl
        first | exact ((mb_0 _).mpr (decide_eq_false (by omega))).symm | exact ((mb_1 _).mpr (decide_eq_true (by omega))).symm
  · refine wm_iload_n hC 0 (pc := 4) dX8_isPairQuestion_4 rfl rfl ?_
    refine wm_iconst hC (pc := 5) dX8_isPairQuestion_5 ?_
    refine wm_icmp_le hC 21 (pc := 6) dX8_isPairQuestion_6 (by decide) (by omega) (by omega) (fun h6 => ?_) (fun h6 => ?_)
    · refine wm_iconst hC (pc := 21) dX8_isPairQuestion_21 ?_
      refine wm_goto hC 26 (pc := 22) dX8_isPairQuestion_22 (by decide) ?_
      refine wm_zretP hC (pc := 26) dX8_isPairQuestion_26 ?_ rfl
      first | exact ((mb_0 _).mpr (decide_eq_false (by omega))).symm | exact ((mb_1 _).mpr (decide_eq_true (by omega))).symm
    · refine wm_iload_n hC 0 (pc := 9) dX8_isPairQuestion_9 rfl rfl ?_
      refine wm_bipush hC (pc := 10) dX8_isPairQuestion_10 (by decide) ?_
      refine wm_icmp_lt hC 25 (pc := 12) dX8_isPairQuestion_12 (by decide) (by omega) (by omega) (fun h12 => ?_) (fun h12 => ?_)
      · refine wm_iconst hC (pc := 25) dX8_isPairQuestion_25 ?_
        refine wm_zretP hC (pc := 26) dX8_isPairQuestion_26 ?_ rfl
        first | exact ((mb_0 _).mpr (decide_eq_false (by omega))).symm | exact ((mb_1 _).mpr (decide_eq_true (by omega))).symm
      · refine wm_iload_n hC 0 (pc := 15) dX8_isPairQuestion_15 rfl rfl ?_
        refine wm_bipush hC (pc := 16) dX8_isPairQuestion_16 (by decide) ?_
        refine wm_icmp_ge hC 25 (pc := 18) dX8_isPairQuestion_18 (by decide) (by omega) (by omega) (fun h18 => ?_) (fun h18 => ?_)
        · refine wm_iconst hC (pc := 25) dX8_isPairQuestion_25 ?_
          refine wm_zretP hC (pc := 26) dX8_isPairQuestion_26 ?_ rfl
          first | exact ((mb_0 _).mpr (decide_eq_false (by omega))).symm | exact ((mb_1 _).mpr (decide_eq_true (by omega))).symm
        · refine wm_iconst hC (pc := 21) dX8_isPairQuestion_21 ?_
          refine wm_goto hC 26 (pc := 22) dX8_isPairQuestion_22 (by decide) ?_
          refine wm_zretP hC (pc := 26) dX8_isPairQuestion_26 ?_ rfl
          first | exact ((mb_0 _).mpr (decide_eq_false (by omega))).symm | exact ((mb_1 _).mpr (decide_eq_true (by omega))).symm
set_option maxRecDepth 100000 in
set_option maxHeartbeats 4000000 in
theorem s_X8_foundOr {l : Launch} {G : mG} {w : mW} {z : Int} (hz : -2147483648 ≤ z ∧ z < 2147483648) : Mx l G 0 yX8_foundOr cX8_foundOr 1 (some .int) [mvI z] w (qP (mvI (if z = -1 then -1000004 else z)) w) := by
  refine Mx.intro (by decide) RX8 rfl [some (mvI z)] (Nat.le_of_ble_eq_true rfl) rfl (fun K hC => ?_)
  refine wm_iload_n hC 0 (pc := 0) dX8_foundOr_0 rfl rfl ?_
  refine wm_iconst hC (pc := 1) dX8_foundOr_1 ?_
  refine wm_icmp_ne hC 10 (pc := 2) dX8_foundOr_2 (by decide) (by omega) (by omega) (fun h2 => ?_) (fun h2 => ?_)
  · refine wm_iload_n hC 0 (pc := 10) dX8_foundOr_10 rfl rfl ?_
    refine wm_iretP hC (pc := 11) dX8_foundOr_11 ?_ rfl
    first | (rw [if_pos (by omega)]) | (rw [if_neg (by omega)])
  · refine wm_ldc hC (-1000004) kI_X8_151 (pc := 5) dX8_foundOr_5 ?_
    refine wm_goto hC 11 (pc := 7) dX8_foundOr_7 (by decide) ?_
    refine wm_iretP hC (pc := 11) dX8_foundOr_11 ?_ rfl
    first | (rw [if_pos (by omega)]) | (rw [if_neg (by omega)])
set_option maxRecDepth 100000 in
set_option maxHeartbeats 4000000 in
theorem s_X8_holds {l : Launch} {G : mG} {w : mW} {s j : Nat} (hs : s < 2147483648) (hj : j < 32) : Mx l G 0 yX8_holds cX8_holds 2 (some .boolean) [mvI (s : Int), mvI (j : Int)] w (qP (mvI (mb (s.testBit j))) w) := by
  refine Mx.intro (by decide) RX8 rfl [some (mvI (s : Int)), some (mvI (j : Int))] (Nat.le_of_ble_eq_true rfl) rfl (fun K hC => ?_)
  refine wm_iload_n hC 0 (pc := 0) dX8_holds_0 rfl rfl ?_
  refine wm_iload_n hC 1 (pc := 1) dX8_holds_1 rfl rfl ?_
  refine wm_ishr hC s j (pc := 2) dX8_holds_2 rfl rfl (by omega) (by omega) ?_
  refine wm_iconst hC (pc := 3) dX8_holds_3 ?_
  refine wm_iand hC _ 1 (pc := 4) dX8_holds_4 rfl rfl ?_
  refine wm_iconst hC (pc := 5) dX8_holds_5 ?_
  rw [mtb]
  have hbt : (s.testBit j).toNat < 2 := by cases s.testBit j <;> decide
  refine wm_icmp_ne hC 13 (pc := 6) dX8_holds_6 (by decide) (by omega) (by omega) (fun h6 => ?_) (fun h6 => ?_)
  · have e : s.testBit j = false := by cases hb : s.testBit j <;> simp [hb] at h6 ⊢
    refine wm_iconst hC (pc := 13) dX8_holds_13 ?_
    refine wm_zretP hC (pc := 14) dX8_holds_14 ?_ rfl
    rw [e]; rfl
  · have e : s.testBit j = true := by cases hb : s.testBit j <;> simp [hb] at h6 ⊢
    refine wm_iconst hC (pc := 9) dX8_holds_9 ?_
    refine wm_goto hC 14 (pc := 10) dX8_holds_10 (by decide) ?_
    refine wm_zretP hC (pc := 14) dX8_holds_14 ?_ rfl
    rw [e]; rfl
set_option maxRecDepth 100000 in
set_option maxHeartbeats 4000000 in
theorem s_X8_cellOf {l : Launch} {G : mG} {w : mW} {a n : Nat} {z : Int} (ha : mlays[a]? = some (.inr (0, n))) (hn : n ≤ 1000000) (hz : -2147483648 ≤ z ∧ z < 2147483648) : Mx l G 0 yX8_cellOf cX8_cellOf 2 (some .int) [mvR a, mvI z] w (qP (mvI (if 0 ≤ z ∧ z < n then w a z else -1)) w) := by
  refine Mx.intro (by decide) RX8 rfl [some (mvR a), some (mvI z)] (Nat.le_of_ble_eq_true rfl) rfl (fun K hC => ?_)
  refine wm_iload_n hC 1 (pc := 0) dX8_cellOf_0 rfl rfl ?_
  refine wm_if_lt hC 16 (pc := 1) dX8_cellOf_1 (by decide) (by omega) (fun h1 => ?_) (fun h1 => ?_)
  · refine wm_iconst hC (pc := 16) dX8_cellOf_16 ?_
    refine wm_iretP hC (pc := 17) dX8_cellOf_17 ?_ rfl
    first | (rw [if_pos (by omega)]) | (rw [if_neg (by omega)])
  · refine wm_iload_n hC 1 (pc := 4) dX8_cellOf_4 rfl rfl ?_
    refine wm_aload_n hC 0 (pc := 5) dX8_cellOf_5 rfl rfl ?_
    refine wm_alen hC (n : Int) ha rfl rfl (pc := 6) dX8_cellOf_6 ?_
    refine wm_icmp_ge hC 16 (pc := 7) dX8_cellOf_7 (by decide) (by omega) (by omega) (fun h7 => ?_) (fun h7 => ?_)
    · refine wm_iconst hC (pc := 16) dX8_cellOf_16 ?_
      refine wm_iretP hC (pc := 17) dX8_cellOf_17 ?_ rfl
      first | (rw [if_pos (by omega)]) | (rw [if_neg (by omega)])
    · refine wm_aload_n hC 0 (pc := 10) dX8_cellOf_10 rfl rfl ?_
      refine wm_iload_n hC 1 (pc := 11) dX8_cellOf_11 rfl rfl ?_
      refine wm_iaload hC ha (by omega) hn (pc := 12) dX8_cellOf_12 ?_
      refine wm_goto hC 17 (pc := 13) dX8_cellOf_13 (by decide) ?_
      refine wm_iretP hC (pc := 17) dX8_cellOf_17 ?_ rfl
      first | (rw [if_pos (by omega)]) | (rw [if_neg (by omega)])
set_option maxRecDepth 100000 in
set_option maxHeartbeats 4000000 in
theorem s_X8_planAt {l : Launch} {G : mG} {w : mW} {p : Nat} (hp : p < 3) : Mx l G 0 yX8_planAt cX8_planAt 2 (some (.object "MirroredTalks$Plan")) [mvR 0, mvI (p : Int)] w (qP (mvR (2 * p + 1)) w) := by
  refine Mx.intro (by decide) RX8 rfl [some (mvR 0), some (mvI (p : Int))] (Nat.le_of_ble_eq_true rfl) rfl (fun K hC => ?_)
  refine wm_iload_n hC 1 (pc := 0) dX8_planAt_0 rfl rfl ?_
  refine wm_if_ne hC 11 (pc := 1) dX8_planAt_1 (by decide) (by omega) (fun h1 => ?_) (fun h1 => ?_)
  · refine wm_iload_n hC 1 (pc := 11) dX8_planAt_11 rfl rfl ?_
    refine wm_iconst hC (pc := 12) dX8_planAt_12 ?_
    refine wm_icmp_ne hC 23 (pc := 13) dX8_planAt_13 (by decide) (by omega) (by omega) (fun h13 => ?_) (fun h13 => ?_)
    · obtain rfl : p = 2 := by omega
      refine wm_aload_n hC 0 (pc := 23) dX8_planAt_23 rfl rfl ?_
      refine wm_getR hC fl_X8_19_7 rfl rfl (pc := 24) dX8_planAt_24 ?_
      exact wm_aretP hC (pc := 27) dX8_planAt_27 rfl rfl
    · obtain rfl : p = 1 := by omega
      refine wm_aload_n hC 0 (pc := 16) dX8_planAt_16 rfl rfl ?_
      refine wm_getR hC fl_X8_16_7 rfl rfl (pc := 17) dX8_planAt_17 ?_
      refine wm_goto hC 27 (pc := 20) dX8_planAt_20 (by decide) ?_
      exact wm_aretP hC (pc := 27) dX8_planAt_27 rfl rfl
  · obtain rfl : p = 0 := by omega
    refine wm_aload_n hC 0 (pc := 4) dX8_planAt_4 rfl rfl ?_
    refine wm_getR hC fl_X8_10_7 rfl rfl (pc := 5) dX8_planAt_5 ?_
    refine wm_goto hC 27 (pc := 8) dX8_planAt_8 (by decide) ?_
    exact wm_aretP hC (pc := 27) dX8_planAt_27 rfl rfl
end
section
/-! the plans, and Integer.bitCount -/
def cnt (f : Nat → Bool) : Nat → Nat
  | 0 => 0
  | n + 1 => cnt f n + (f n).toNat
def msum (f : Nat → Nat) : Nat → Nat
  | 0 => 0
  | n + 1 => msum f n + f n
theorem cnt_le (f : Nat → Bool) : ∀ n, cnt f n ≤ n
  | 0 => Nat.le_refl 0
  | n + 1 => by have h := cnt_le f n; have h2 : (f n).toNat ≤ 1 := by { cases f n <;> decide }; show cnt f n + (f n).toNat ≤ n + 1; omega
def mpop (s : Nat) : Nat := cnt (fun i => s.testBit i) 8
theorem mpop_le (s : Nat) : mpop s ≤ 8 := cnt_le _ 8
theorem msum_le (f : Nat → Nat) (b : Nat) (h : ∀ n, f n ≤ b) : ∀ n, msum f n ≤ n * b
  | 0 => by show 0 ≤ 0 * b; omega
  | n + 1 => by have h1 := msum_le f b h n; have h2 := h n; show msum f n + f n ≤ (n + 1) * b; rw [Nat.add_mul]; omega
def mcopy (w : mW) (i j : Nat) (sp dp n : Int) : mW := fun a b => if a = j ∧ dp ≤ b ∧ b < dp + n then w i (sp + (b - dp)) else w a b
/-- a plan whose kinds and targets are in their ranges -/
def PlanOK (w : mW) (p : Nat) : Prop := ∀ s : Int, 0 ≤ s → s < 8 → (0 ≤ w (p + 1) (s * 7) ∧ w (p + 1) (s * 7) < 3) ∧ ∀ k : Int, 0 ≤ k → k < 6 → -1 ≤ w (p + 1) (s * 7 + 1 + k) ∧ w (p + 1) (s * 7 + 1 + k) < 8
def hasW (w : mW) (p : Nat) (s : Int) (k : Nat) : Bool := decide (¬ w (p + 1) (s * 7 + 1 + (k : Int)) = -1)
def sbF (w : mW) (p : Nat) (s : Int) (k : Nat) : Nat := if w (p + 1) (s * 7 + 1 + (k : Int)) = -1 ∨ w (p + 1) (s * 7) = 0 then 0 else 2 ^ (w (p + 1) (s * 7 + 1 + (k : Int))).toNat
def pclr (w : mW) (p : Nat) (m : Int) : mW := fun a b => if a = p + 1 ∧ 0 ≤ b ∧ b < m then (if b % 7 = 0 then 0 else -1) else w a b
theorem pclr_0 (w : mW) (p : Nat) : pclr w p 0 = w := by funext a b; unfold pclr; rw [if_neg (by omega)]
theorem pclr_k (w : mW) (p j : Nat) : mup (pclr w p ((j : Int) * 7)) (p + 1) ((j : Int) * 7) 0 = pclr w p ((j : Int) * 7 + 1) := by
  funext a b; simp only [pclr, mup]
  by_cases h : a = p + 1 ∧ b = (j : Int) * 7
  · rw [if_pos h, if_pos (by omega), if_pos (by omega)]
  · rw [if_neg h]
    by_cases h2 : a = p + 1 ∧ 0 ≤ b ∧ b < (j : Int) * 7
    · rw [if_pos h2, if_pos (show a = p + 1 ∧ 0 ≤ b ∧ b < (j : Int) * 7 + 1 by omega)]
    · rw [if_neg h2, if_neg (by omega)]
theorem pclr_w (w : mW) (p j k : Nat) (hk : k < 6) : mup (pclr w p ((j : Int) * 7 + 1 + k)) (p + 1) ((j : Int) * 7 + 1 + k) (-1) = pclr w p ((j : Int) * 7 + 1 + ((k + 1 : Nat) : Int)) := by
  funext a b; simp only [pclr, mup]
  by_cases h : a = p + 1 ∧ b = (j : Int) * 7 + 1 + k
  · rw [if_pos h, if_pos (by omega), if_neg (by omega)]
  · rw [if_neg h]
    by_cases h2 : a = p + 1 ∧ 0 ≤ b ∧ b < (j : Int) * 7 + 1 + k
    · rw [if_pos h2, if_pos (show a = p + 1 ∧ 0 ≤ b ∧ b < (j : Int) * 7 + 1 + ((k + 1 : Nat) : Int) by omega)]
    · rw [if_neg h2, if_neg (by omega)]
def swp (k : Int) : Int := if k = 0 then 0 else if k = 1 then 2 else 1
def pswp (w : mW) (p : Nat) (m : Int) : mW := fun a b => if a = p + 1 ∧ 0 ≤ b ∧ b < m ∧ b % 7 = 0 then swp (w a b) else w a b
theorem pswp_0 (w : mW) (p : Nat) : pswp w p 0 = w := by funext a b; unfold pswp; rw [if_neg (by omega)]
theorem pswp_at (w : mW) (p j : Nat) : pswp w p ((j : Int) * 7) (p + 1) ((j : Int) * 7) = w (p + 1) ((j : Int) * 7) := by unfold pswp; rw [if_neg (by omega)]
theorem pswp_k (w : mW) (p j : Nat) (z : Int) (hz : z = swp (w (p + 1) ((j : Int) * 7))) : mup (pswp w p ((j : Int) * 7)) (p + 1) ((j : Int) * 7) z = pswp w p (((j + 1 : Nat) : Int) * 7) := by
  funext a b; simp only [pswp, mup]
  by_cases h : a = p + 1 ∧ b = (j : Int) * 7
  · rw [if_pos h, if_pos (by omega), hz, h.1, h.2]
  · rw [if_neg h]
    by_cases h2 : a = p + 1 ∧ 0 ≤ b ∧ b < (j : Int) * 7 ∧ b % 7 = 0
    · rw [if_pos h2, if_pos (by omega)]
    · rw [if_neg h2, if_neg (by omega)]
theorem pswp_n (w : mW) (p j : Nat) (h0 : w (p + 1) ((j : Int) * 7) = 0) : pswp w p ((j : Int) * 7) = pswp w p (((j + 1 : Nat) : Int) * 7) := by
  rw [← pswp_k w p j 0 (by rw [h0]; rfl)]
  funext a b; simp only [mup]
  by_cases h : a = p + 1 ∧ b = (j : Int) * 7
  · rw [if_pos h, h.1, h.2, pswp_at, h0]
  · rw [if_neg h]
def rin (sb : Nat → Nat) (r : Nat) : Nat → Nat
  | 0 => r
  | n + 1 => if (rin sb r n).testBit n then rin sb r n ||| sb n else rin sb r n
def rout (sb : Nat → Nat) (r : Nat) : Nat → Nat
  | 0 => r
  | n + 1 => rin sb (rout sb r n) 8
theorem rin_lt (sb : Nat → Nat) (hsb : ∀ n, sb n < 2 ^ 8) (r : Nat) (hr : r < 2 ^ 8) : ∀ n, rin sb r n < 2 ^ 8
  | 0 => hr
  | n + 1 => by
    have h := rin_lt sb hsb r hr n
    unfold rin
    split
    · exact Nat.or_lt_two_pow h (hsb n)
    · exact h
theorem rout_lt (sb : Nat → Nat) (hsb : ∀ n, sb n < 2 ^ 8) (r : Nat) (hr : r < 2 ^ 8) : ∀ n, rout sb r n < 2 ^ 8
  | 0 => hr
  | n + 1 => rin_lt sb hsb _ (rout_lt sb hsb r hr n) 8
/-- the states behind a state, as a set; of a state that there is not, none -/
def sbOf (w : mW) (p : Nat) (s : Nat) : Nat := if s < 8 then wor (sbF w p s) 6 else 0
theorem sbF_lt {w : mW} {p : Nat} (hk : PlanOK w p) {s : Nat} (hs : s < 8) : ∀ n, n ≤ 6 → wor (sbF w p s) n < 2 ^ 8
  | 0, _ => Nat.two_pow_pos 8
  | n + 1, h => by
    refine Nat.or_lt_two_pow (sbF_lt hk hs n (by omega)) ?_
    unfold sbF
    split
    · decide
    · have := ((hk s (by omega) (by omega)).2 n (by omega) (by omega)).2
      exact Nat.pow_lt_pow_right (by decide) (by omega)
theorem sbOf_lt {w : mW} {p : Nat} (hk : PlanOK w p) (s : Nat) : sbOf w p s < 2 ^ 8 := by
  unfold sbOf; split
  · exact sbF_lt hk (by omega) 6 (Nat.le_refl 6)
  · decide
def comesF (w : mW) (p s : Nat) : Nat := rout (sbOf w p) (2 ^ s) 7
theorem comesF_lt {w : mW} {p s : Nat} (hk : PlanOK w p) (hs : s < 8) : comesF w p s < 2 ^ 8 := rout_lt _ (sbOf_lt hk) _ (Nat.pow_lt_pow_right (by decide) hs) 7
def bcE (s : Nat) : Nat :=
  let a := s - (s / 2 ^ 1 &&& 1431655765)
  let b := (a &&& 858993459) + (a / 2 ^ 2 &&& 858993459)
  let c := (b + b / 2 ^ 4) &&& 252645135
  let d := c + c / 2 ^ 8
  let e := d + d / 2 ^ 16
  e &&& 63
theorem bcE_ok : ∀ s, s < 256 → bcE s = mpop s := by decide +kernel
theorem bc_lt : ∀ s, s < 256 → (s - (s / 2 ^ 1 &&& 1431655765)) < 256 ∧ (s / 2 ^ 1 &&& 1431655765) ≤ s := by decide +kernel
set_option maxRecDepth 100000 in
set_option maxHeartbeats 4000000 in
theorem s_X3_kindOf {l : Launch} {G : mG} {w : mW} {p : Nat} (hp : PlanIx p) {z : Int} (hz : 0 ≤ z ∧ z < 8) : Mx l G 1 yX3_kindOf cX3_kindOf 2 (some .int) [mvR p, mvI z] w (qP (mvI (w (p + 1) (z * 7))) w) := by
  refine Mx.intro (by decide) RX3 rfl [some (mvR p), some (mvI z)] (Nat.le_of_ble_eq_true rfl) rfl (fun K hC => ?_)
  refine wm_iload_n hC 1 (pc := 0) dX3_kindOf_0 rfl rfl ?_
  refine wm_pN hC cn_X3_26 kc_X8_isState (s_X8_isState (by omega)) rfl (by decide) rfl (Nat.le_of_ble_eq_true rfl) (pc := 1) dX3_kindOf_1 ?_
  refine wm_ifd_eq hC 19 (pc := 4) dX3_kindOf_4 (by decide) (fun h4 => ?_) (fun h4 => ?_)
  · omega
  · refine wm_aload_n hC 0 (pc := 7) dX3_kindOf_7 rfl rfl ?_
    refine wm_getR hC fl_X3_11_2 hp.1 rfl (pc := 8) dX3_kindOf_8 ?_
    refine wm_iload_n hC 1 (pc := 11) dX3_kindOf_11 rfl rfl ?_
    refine wm_bipush hC (pc := 12) dX3_kindOf_12 (by decide) ?_
    refine wm_imul hC (pc := 14) dX3_kindOf_14 ?_
    refine wm_iaload hC hp.2 (by omega) (by decide) (pc := 15) dX3_kindOf_15 ?_
    refine wm_goto hC 20 (pc := 16) dX3_kindOf_16 (by decide) ?_
    refine wm_iretP hC (pc := 20) dX3_kindOf_20 ?_ rfl
    rfl
set_option maxRecDepth 100000 in
set_option maxHeartbeats 4000000 in
theorem s_X3_setKind {l : Launch} {G : mG} {w : mW} {p : Nat} (hp : PlanIx p) {z v : Int} (hz : 0 ≤ z ∧ z < 8) : Mx l G 1 yX3_setKind cX3_setKind 3 none [mvR p, mvI z, mvI v] w (qV (fun w' => w' = mup w (p + 1) (z * 7) v)) := by
  refine Mx.intro (by decide) RX3 rfl [some (mvR p), some (mvI z), some (mvI v)] (Nat.le_of_ble_eq_true rfl) rfl (fun K hC => ?_)
  refine wm_iload_n hC 1 (pc := 0) dX3_setKind_0 rfl rfl ?_
  refine wm_pN hC cn_X3_26 kc_X8_isState (s_X8_isState (by omega)) rfl (by decide) rfl (Nat.le_of_ble_eq_true rfl) (pc := 1) dX3_setKind_1 ?_
  refine wm_ifd_eq hC 17 (pc := 4) dX3_setKind_4 (by decide) (fun h4 => ?_) (fun h4 => ?_)
  · omega
  · refine wm_aload_n hC 0 (pc := 7) dX3_setKind_7 rfl rfl ?_
    refine wm_getR hC fl_X3_11_2 hp.1 rfl (pc := 8) dX3_setKind_8 ?_
    refine wm_iload_n hC 1 (pc := 11) dX3_setKind_11 rfl rfl ?_
    refine wm_bipush hC (pc := 12) dX3_setKind_12 (by decide) ?_
    refine wm_imul hC (pc := 14) dX3_setKind_14 ?_
    refine wm_iload_n hC 2 (pc := 15) dX3_setKind_15 rfl rfl ?_
    refine wm_iastore hC hp.2 (by omega) (by decide) (pc := 16) dX3_setKind_16 ?_
    refine wm_retV hC (pc := 17) dX3_setKind_17 ?_
    rfl
set_option maxRecDepth 100000 in
set_option maxHeartbeats 4000000 in
theorem s_X3_targetOf {l : Launch} {G : mG} {w : mW} {p : Nat} (hp : PlanIx p) {z k : Int} (hz : 0 ≤ z ∧ z < 8) (hw : 0 ≤ k ∧ k < 6) : Mx l G 1 yX3_targetOf cX3_targetOf 3 (some .int) [mvR p, mvI z, mvI k] w (qP (mvI (w (p + 1) (z * 7 + 1 + k))) w) := by
  refine Mx.intro (by decide) RX3 rfl [some (mvR p), some (mvI z), some (mvI k)] (Nat.le_of_ble_eq_true rfl) rfl (fun K hC => ?_)
  refine wm_iload_n hC 1 (pc := 0) dX3_targetOf_0 rfl rfl ?_
  refine wm_pN hC cn_X3_26 kc_X8_isState (s_X8_isState (by omega)) rfl (by decide) rfl (Nat.le_of_ble_eq_true rfl) (pc := 1) dX3_targetOf_1 ?_
  refine wm_ifd_eq hC 30 (pc := 4) dX3_targetOf_4 (by decide) (fun h4 => ?_) (fun h4 => ?_)
  · omega
  · refine wm_iload_n hC 2 (pc := 7) dX3_targetOf_7 rfl rfl ?_
    refine wm_pN hC cn_X3_30 kc_X8_isWord (s_X8_isWord (by omega)) rfl (by decide) rfl (Nat.le_of_ble_eq_true rfl) (pc := 8) dX3_targetOf_8 ?_
    refine wm_ifd_eq hC 30 (pc := 11) dX3_targetOf_11 (by decide) (fun h11 => ?_) (fun h11 => ?_)
    · omega
    · refine wm_aload_n hC 0 (pc := 14) dX3_targetOf_14 rfl rfl ?_
      refine wm_getR hC fl_X3_11_2 hp.1 rfl (pc := 15) dX3_targetOf_15 ?_
      refine wm_iload_n hC 1 (pc := 18) dX3_targetOf_18 rfl rfl ?_
      refine wm_bipush hC (pc := 19) dX3_targetOf_19 (by decide) ?_
      refine wm_imul hC (pc := 21) dX3_targetOf_21 ?_
      refine wm_iconst hC (pc := 22) dX3_targetOf_22 ?_
      refine wm_iadd hC (pc := 23) dX3_targetOf_23 ?_
      refine wm_iload_n hC 2 (pc := 24) dX3_targetOf_24 rfl rfl ?_
      refine wm_iadd hC (pc := 25) dX3_targetOf_25 ?_
      refine wm_iaload hC hp.2 (by omega) (by decide) (pc := 26) dX3_targetOf_26 ?_
      refine wm_goto hC 31 (pc := 27) dX3_targetOf_27 (by decide) ?_
      refine wm_iretP hC (pc := 31) dX3_targetOf_31 ?_ rfl
      rfl
set_option maxRecDepth 100000 in
set_option maxHeartbeats 4000000 in
theorem s_X3_setTarget {l : Launch} {G : mG} {w : mW} {p : Nat} (hp : PlanIx p) {z k v : Int} (hz : 0 ≤ z ∧ z < 8) (hw : 0 ≤ k ∧ k < 6) : Mx l G 1 yX3_setTarget cX3_setTarget 4 none [mvR p, mvI z, mvI k, mvI v] w (qV (fun w' => w' = mup w (p + 1) (z * 7 + 1 + k) v)) := by
  refine Mx.intro (by decide) RX3 rfl [some (mvR p), some (mvI z), some (mvI k), some (mvI v)] (Nat.le_of_ble_eq_true rfl) rfl (fun K hC => ?_)
  refine wm_iload_n hC 1 (pc := 0) dX3_setTarget_0 rfl rfl ?_
  refine wm_pN hC cn_X3_26 kc_X8_isState (s_X8_isState (by omega)) rfl (by decide) rfl (Nat.le_of_ble_eq_true rfl) (pc := 1) dX3_setTarget_1 ?_
  refine wm_ifd_eq hC 28 (pc := 4) dX3_setTarget_4 (by decide) (fun h4 => ?_) (fun h4 => ?_)
  · omega
  · refine wm_iload_n hC 2 (pc := 7) dX3_setTarget_7 rfl rfl ?_
    refine wm_pN hC cn_X3_30 kc_X8_isWord (s_X8_isWord (by omega)) rfl (by decide) rfl (Nat.le_of_ble_eq_true rfl) (pc := 8) dX3_setTarget_8 ?_
    refine wm_ifd_eq hC 28 (pc := 11) dX3_setTarget_11 (by decide) (fun h11 => ?_) (fun h11 => ?_)
    · omega
    · refine wm_aload_n hC 0 (pc := 14) dX3_setTarget_14 rfl rfl ?_
      refine wm_getR hC fl_X3_11_2 hp.1 rfl (pc := 15) dX3_setTarget_15 ?_
      refine wm_iload_n hC 1 (pc := 18) dX3_setTarget_18 rfl rfl ?_
      refine wm_bipush hC (pc := 19) dX3_setTarget_19 (by decide) ?_
      refine wm_imul hC (pc := 21) dX3_setTarget_21 ?_
      refine wm_iconst hC (pc := 22) dX3_setTarget_22 ?_
      refine wm_iadd hC (pc := 23) dX3_setTarget_23 ?_
      refine wm_iload_n hC 2 (pc := 24) dX3_setTarget_24 rfl rfl ?_
      refine wm_iadd hC (pc := 25) dX3_setTarget_25 ?_
      refine wm_iload_n hC 3 (pc := 26) dX3_setTarget_26 rfl rfl ?_
      refine wm_iastore hC hp.2 (by omega) (by decide) (pc := 27) dX3_setTarget_27 ?_
      refine wm_retV hC (pc := 28) dX3_setTarget_28 ?_
      rfl
set_option maxRecDepth 100000 in
set_option maxHeartbeats 4000000 in
theorem s_X3_wordsOf {l : Launch} {G : mG} {w : mW} {p : Nat} (hp : PlanIx p) {z : Int} (hz : 0 ≤ z ∧ z < 8) (hk : PlanOK w p) : Mx l G 2 yX3_wordsOf cX3_wordsOf 4 (some .int) [mvR p, mvI z] w (qP (mvI ((wmask (hasW w p z) 6 : Nat) : Int)) w) := by
  refine Mx.intro (by decide) RX3 rfl [some (mvR p), some (mvI z), none, none] (Nat.le_of_ble_eq_true rfl) rfl (fun K hC => ?_)
  refine wm_iconst hC (pc := 0) dX3_wordsOf_0 ?_
  refine wm_istore_n hC 2 (pc := 1) dX3_wordsOf_1 rfl (by decide) rfl ?_
  refine wm_iconst hC (pc := 2) dX3_wordsOf_2 ?_
  refine wm_istore_n hC 3 (pc := 3) dX3_wordsOf_3 rfl (by decide) rfl ?_
  have lp4 : ∀ (n : Nat) (j : Nat), n = 6 - j → j ≤ 6 → Wm l G K 2 4 (qP (mvI ((wmask (hasW w p z) 6 : Nat) : Int)) w) 4 [some (mvR p), some (mvI z), some (mvI ((wmask (hasW w p z) j : Nat) : Int)), some (mvI (j : Int))] [] w := by
    intro n
    induction n using Nat.strongRecOn with
    | _ n ih =>
    intro j hn hj
    refine wm_iload_n hC 3 (pc := 4) dX3_wordsOf_4 rfl rfl ?_
    refine wm_bipush hC (pc := 5) dX3_wordsOf_5 (by decide) ?_
    refine wm_icmp_ge hC 32 (pc := 7) dX3_wordsOf_7 (by decide) (by omega) (by omega) (fun h7 => ?_) (fun h7 => ?_)
    · refine wm_iload_n hC 2 (pc := 32) dX3_wordsOf_32 rfl rfl ?_
      refine wm_iretP hC (pc := 33) dX3_wordsOf_33 ?_ rfl
      have : j = 6 := by omega
      rw [this]
    · refine wm_aload_n hC 0 (pc := 10) dX3_wordsOf_10 rfl rfl ?_
      refine wm_iload_n hC 1 (pc := 11) dX3_wordsOf_11 rfl rfl ?_
      refine wm_iload_n hC 3 (pc := 12) dX3_wordsOf_12 rfl rfl ?_
      refine wm_pV hC cv_X3_33 kc_X3_targetOf hp.1 rfl (s_X3_targetOf hp (by omega) (by omega)) rfl (by decide) rfl (Nat.le_of_ble_eq_true rfl) (pc := 13) dX3_wordsOf_13 ?_
      refine wm_iconst hC (pc := 16) dX3_wordsOf_16 ?_
      have hb := (hk z (by omega) (by omega)).2 j (by omega) (by omega)
      refine wm_icmp_eq hC 26 (pc := 17) dX3_wordsOf_17 (by decide) (by omega) (by omega) (fun h17 => ?_) (fun h17 => ?_)
      · have e : wmask (hasW w p z) (j + 1) = wmask (hasW w p z) j := by simp [wmask, hasW, h17]
        refine wm_iinc hC (pc := 26) dX3_wordsOf_26 rfl rfl (by decide) rfl ?_
        refine wm_goto hC 4 (pc := 29) dX3_wordsOf_29 (by decide) ?_
        have hh := ih _ (by omega) (j + 1) rfl (by omega)
        rw [e] at hh
        exact hh
      · have e : wmask (hasW w p z) (j + 1) = wmask (hasW w p z) j ||| 2 ^ j := by simp [wmask, hasW, h17]
        refine wm_iload_n hC 2 (pc := 20) dX3_wordsOf_20 rfl rfl ?_
        refine wm_iconst hC (pc := 21) dX3_wordsOf_21 ?_
        refine wm_iload_n hC 3 (pc := 22) dX3_wordsOf_22 rfl rfl ?_
        refine wm_ishl1 hC j (pc := 23) dX3_wordsOf_23 rfl (by omega) ?_
        refine wm_ior hC _ _ (pc := 24) dX3_wordsOf_24 rfl rfl ?_
        refine wm_istore_n hC 2 (pc := 25) dX3_wordsOf_25 rfl (by decide) rfl ?_
        refine wm_iinc hC (pc := 26) dX3_wordsOf_26 rfl rfl (by decide) rfl ?_
        refine wm_goto hC 4 (pc := 29) dX3_wordsOf_29 (by decide) ?_
        have hh := ih _ (by omega) (j + 1) rfl (by omega)
        rw [e] at hh
        exact hh
  exact lp4 _ 0 rfl (by omega)
set_option maxRecDepth 100000 in
set_option maxHeartbeats 4000000 in
theorem s_J6_bitCount_0f7a4 {l : Launch} {G : mG} {w : mW} {s : Nat} (hs : s < 256) : Mx l G 0 yJ6_bitCount_0f7a4 cJ6_bitCount_0f7a4 1 (some .int) [mvI (s : Int)] w (qP (mvI ((mpop s : Nat) : Int)) w) := by
  refine Mx.intro (by decide) RJ6 rfl [some (mvI (s : Int))] (Nat.le_of_ble_eq_true rfl) rfl (fun K hC => ?_)
  have hb1 := bc_lt s hs
  have ea : (s : Int) - ((s / 2 ^ 1 &&& 1431655765 : Nat) : Int) = ((s - (s / 2 ^ 1 &&& 1431655765) : Nat) : Int) := by omega
  refine wm_iload_n hC 0 (pc := 0) dJ6_bitCount_0f7a4_0 rfl rfl ?_
  refine wm_iload_n hC 0 (pc := 1) dJ6_bitCount_0f7a4_1 rfl rfl ?_
  refine wm_iconst hC (pc := 2) dJ6_bitCount_0f7a4_2 ?_
  refine wm_iushr hC s 1 (pc := 3) dJ6_bitCount_0f7a4_3 rfl rfl (by omega) (by omega) ?_
  refine wm_ldcw hC (1431655765) kI_J6_265 (pc := 4) dJ6_bitCount_0f7a4_4 ?_
  refine wm_iand hC (s / 2 ^ 1) 1431655765 (pc := 7) dJ6_bitCount_0f7a4_7 rfl rfl ?_
  refine wm_isub hC (pc := 8) dJ6_bitCount_0f7a4_8 ?_
  refine wm_istore_n hC 0 (pc := 9) dJ6_bitCount_0f7a4_9 rfl (by decide) rfl ?_
  rw [ea]
  generalize ha : s - (s / 2 ^ 1 &&& 1431655765) = a at *
  refine wm_iload_n hC 0 (pc := 10) dJ6_bitCount_0f7a4_10 rfl rfl ?_
  refine wm_ldcw hC (858993459) kI_J6_266 (pc := 11) dJ6_bitCount_0f7a4_11 ?_
  refine wm_iand hC a 858993459 (pc := 14) dJ6_bitCount_0f7a4_14 rfl rfl ?_
  refine wm_iload_n hC 0 (pc := 15) dJ6_bitCount_0f7a4_15 rfl rfl ?_
  refine wm_iconst hC (pc := 16) dJ6_bitCount_0f7a4_16 ?_
  refine wm_iushr hC a 2 (pc := 17) dJ6_bitCount_0f7a4_17 rfl rfl (by omega) (by omega) ?_
  refine wm_ldcw hC (858993459) kI_J6_266 (pc := 18) dJ6_bitCount_0f7a4_18 ?_
  refine wm_iand hC (a / 2 ^ 2) 858993459 (pc := 21) dJ6_bitCount_0f7a4_21 rfl rfl ?_
  refine wm_iadd hC (pc := 22) dJ6_bitCount_0f7a4_22 ?_
  refine wm_istore_n hC 0 (pc := 23) dJ6_bitCount_0f7a4_23 rfl (by decide) rfl ?_
  have hb2 : (a &&& 858993459) ≤ a := Nat.and_le_left
  have hb3 : (a / 2 ^ 2 &&& 858993459) ≤ a / 2 ^ 2 := Nat.and_le_left
  generalize hb : (a &&& 858993459) + (a / 2 ^ 2 &&& 858993459) = b
  have eb : ((a &&& 858993459 : Nat) : Int) + ((a / 2 ^ 2 &&& 858993459 : Nat) : Int) = (b : Int) := by omega
  rw [eb]
  refine wm_iload_n hC 0 (pc := 24) dJ6_bitCount_0f7a4_24 rfl rfl ?_
  refine wm_iload_n hC 0 (pc := 25) dJ6_bitCount_0f7a4_25 rfl rfl ?_
  refine wm_iconst hC (pc := 26) dJ6_bitCount_0f7a4_26 ?_
  refine wm_iushr hC b 4 (pc := 27) dJ6_bitCount_0f7a4_27 rfl rfl (by omega) (by omega) ?_
  refine wm_iadd hC (pc := 28) dJ6_bitCount_0f7a4_28 ?_
  refine wm_ldcw hC (252645135) kI_J6_267 (pc := 29) dJ6_bitCount_0f7a4_29 ?_
  refine wm_iand hC (b + b / 2 ^ 4) 252645135 (pc := 32) dJ6_bitCount_0f7a4_32 (by omega) rfl ?_
  refine wm_istore_n hC 0 (pc := 33) dJ6_bitCount_0f7a4_33 rfl (by decide) rfl ?_
  have hc1 : ((b + b / 2 ^ 4) &&& 252645135) ≤ b + b / 2 ^ 4 := Nat.and_le_left
  generalize hc : (b + b / 2 ^ 4) &&& 252645135 = c at *
  refine wm_iload_n hC 0 (pc := 34) dJ6_bitCount_0f7a4_34 rfl rfl ?_
  refine wm_iload_n hC 0 (pc := 35) dJ6_bitCount_0f7a4_35 rfl rfl ?_
  refine wm_bipush hC (pc := 36) dJ6_bitCount_0f7a4_36 (by decide) ?_
  refine wm_iushr hC c 8 (pc := 38) dJ6_bitCount_0f7a4_38 rfl rfl (by omega) (by omega) ?_
  refine wm_iadd hC (pc := 39) dJ6_bitCount_0f7a4_39 ?_
  refine wm_istore_n hC 0 (pc := 40) dJ6_bitCount_0f7a4_40 rfl (by decide) rfl ?_
  refine wm_iload_n hC 0 (pc := 41) dJ6_bitCount_0f7a4_41 rfl rfl ?_
  refine wm_iload_n hC 0 (pc := 42) dJ6_bitCount_0f7a4_42 rfl rfl ?_
  refine wm_bipush hC (pc := 43) dJ6_bitCount_0f7a4_43 (by decide) ?_
  refine wm_iushr hC (c + c / 2 ^ 8) 16 (pc := 45) dJ6_bitCount_0f7a4_45 (by omega) rfl (by omega) (by omega) ?_
  refine wm_iadd hC (pc := 46) dJ6_bitCount_0f7a4_46 ?_
  refine wm_istore_n hC 0 (pc := 47) dJ6_bitCount_0f7a4_47 rfl (by decide) rfl ?_
  refine wm_iload_n hC 0 (pc := 48) dJ6_bitCount_0f7a4_48 rfl rfl ?_
  refine wm_bipush hC (pc := 49) dJ6_bitCount_0f7a4_49 (by decide) ?_
  refine wm_iand hC (c + c / 2 ^ 8 + (c + c / 2 ^ 8) / 2 ^ 16) 63 (pc := 51) dJ6_bitCount_0f7a4_51 (by omega) rfl ?_
  refine wm_iretP hC (pc := 52) dJ6_bitCount_0f7a4_52 ?_ rfl
  have h := bcE_ok s hs
  simp only [bcE, ha, hb, hc] at h
  rw [h]
set_option maxRecDepth 100000 in
set_option maxHeartbeats 4000000 in
theorem s_X3_arrows {l : Launch} {G : mG} {w : mW} {p : Nat} (hp : PlanIx p) (hk : PlanOK w p) : Mx l G 3 yX3_arrows cX3_arrows 3 (some .int) [mvR p] w (qP (mvI ((msum (fun s => mpop (wmask (hasW w p s) 6)) 8 : Nat) : Int)) w) := by
  refine Mx.intro (by decide) RX3 rfl [some (mvR p), none, none] (Nat.le_of_ble_eq_true rfl) rfl (fun K hC => ?_)
  refine wm_iconst hC (pc := 0) dX3_arrows_0 ?_
  refine wm_istore_n hC 1 (pc := 1) dX3_arrows_1 rfl (by decide) rfl ?_
  refine wm_iconst hC (pc := 2) dX3_arrows_2 ?_
  refine wm_istore_n hC 2 (pc := 3) dX3_arrows_3 rfl (by decide) rfl ?_
  have lp4 : ∀ (n : Nat) (j : Nat), n = 8 - j → j ≤ 8 → Wm l G K 3 3 (qP (mvI ((msum (fun s => mpop (wmask (hasW w p s) 6)) 8 : Nat) : Int)) w) 4 [some (mvR p), some (mvI ((msum (fun s => mpop (wmask (hasW w p s) 6)) j : Nat) : Int)), some (mvI (j : Int))] [] w := by
    intro n
    induction n using Nat.strongRecOn with
    | _ n ih =>
    intro j hn hj
    refine wm_iload_n hC 2 (pc := 4) dX3_arrows_4 rfl rfl ?_
    refine wm_bipush hC (pc := 5) dX3_arrows_5 (by decide) ?_
    refine wm_icmp_ge hC 27 (pc := 7) dX3_arrows_7 (by decide) (by omega) (by omega) (fun h7 => ?_) (fun h7 => ?_)
    · refine wm_iload_n hC 1 (pc := 27) dX3_arrows_27 rfl rfl ?_
      refine wm_iretP hC (pc := 28) dX3_arrows_28 ?_ rfl
      have : j = 8 := by omega
      rw [this]
    · refine wm_iload_n hC 1 (pc := 10) dX3_arrows_10 rfl rfl ?_
      refine wm_aload_n hC 0 (pc := 11) dX3_arrows_11 rfl rfl ?_
      refine wm_iload_n hC 2 (pc := 12) dX3_arrows_12 rfl rfl ?_
      refine wm_pV hC cv_X3_37 kc_X3_wordsOf hp.1 rfl (s_X3_wordsOf hp (by omega) hk) rfl (by decide) rfl (Nat.le_of_ble_eq_true rfl) (pc := 13) dX3_arrows_13 ?_
      refine wm_pS hC cs_X3_41 kc_J6_bitCount_0f7a4 (s_J6_bitCount_0f7a4 (Nat.lt_of_lt_of_le (wmask_lt _ 6) (by decide))) rfl (by decide) rfl (Nat.le_of_ble_eq_true rfl) (pc := 16) dX3_arrows_16 ?_
      refine wm_iadd hC (pc := 19) dX3_arrows_19 ?_
      refine wm_istore_n hC 1 (pc := 20) dX3_arrows_20 rfl (by decide) rfl ?_
      refine wm_iinc hC (pc := 21) dX3_arrows_21 rfl rfl (by decide) rfl ?_
      refine wm_goto hC 4 (pc := 24) dX3_arrows_24 (by decide) ?_
      exact ih _ (by omega) (j + 1) rfl (by omega)
  exact lp4 _ 0 rfl (by omega)
set_option maxRecDepth 100000 in
set_option maxHeartbeats 4000000 in
theorem s_X3_lastingStates {l : Launch} {G : mG} {w : mW} {p : Nat} (hp : PlanIx p) (hk : PlanOK w p) : Mx l G 2 yX3_lastingStates cX3_lastingStates 3 (some .int) [mvR p] w (qP (mvI ((cnt (fun s => decide (¬ w (p + 1) ((s : Int) * 7) = 0)) 8 : Nat) : Int)) w) := by
  refine Mx.intro (by decide) RX3 rfl [some (mvR p), none, none] (Nat.le_of_ble_eq_true rfl) rfl (fun K hC => ?_)
  refine wm_iconst hC (pc := 0) dX3_lastingStates_0 ?_
  refine wm_istore_n hC 1 (pc := 1) dX3_lastingStates_1 rfl (by decide) rfl ?_
  refine wm_iconst hC (pc := 2) dX3_lastingStates_2 ?_
  refine wm_istore_n hC 2 (pc := 3) dX3_lastingStates_3 rfl (by decide) rfl ?_
  have lp4 : ∀ (n : Nat) (j : Nat), n = 8 - j → j ≤ 8 → Wm l G K 2 3 (qP (mvI ((cnt (fun s => decide (¬ w (p + 1) ((s : Int) * 7) = 0)) 8 : Nat) : Int)) w) 4 [some (mvR p), some (mvI ((cnt (fun s => decide (¬ w (p + 1) ((s : Int) * 7) = 0)) j : Nat) : Int)), some (mvI (j : Int))] [] w := by
    intro n
    induction n using Nat.strongRecOn with
    | _ n ih =>
    intro j hn hj
    refine wm_iload_n hC 2 (pc := 4) dX3_lastingStates_4 rfl rfl ?_
    refine wm_bipush hC (pc := 5) dX3_lastingStates_5 (by decide) ?_
    refine wm_icmp_ge hC 27 (pc := 7) dX3_lastingStates_7 (by decide) (by omega) (by omega) (fun h7 => ?_) (fun h7 => ?_)
    · refine wm_iload_n hC 1 (pc := 27) dX3_lastingStates_27 rfl rfl ?_
      refine wm_iretP hC (pc := 28) dX3_lastingStates_28 ?_ rfl
      have : j = 8 := by omega
      rw [this]
    · refine wm_aload_n hC 0 (pc := 10) dX3_lastingStates_10 rfl rfl ?_
      refine wm_iload_n hC 2 (pc := 11) dX3_lastingStates_11 rfl rfl ?_
      refine wm_pV hC cv_X3_46 kc_X3_kindOf hp.1 rfl (s_X3_kindOf hp (by omega)) rfl (by decide) rfl (Nat.le_of_ble_eq_true rfl) (pc := 12) dX3_lastingStates_12 ?_
      have hb := (hk j (by omega) (by omega)).1
      refine wm_if_eq hC 21 (pc := 15) dX3_lastingStates_15 (by decide) (by omega) (fun h15 => ?_) (fun h15 => ?_)
      · have e : cnt (fun s => decide (¬ w (p + 1) ((s : Int) * 7) = 0)) (j + 1) = cnt (fun s => decide (¬ w (p + 1) ((s : Int) * 7) = 0)) j := by simp [cnt, h15]
        refine wm_iinc hC (pc := 21) dX3_lastingStates_21 rfl rfl (by decide) rfl ?_
        refine wm_goto hC 4 (pc := 24) dX3_lastingStates_24 (by decide) ?_
        have hh := ih _ (by omega) (j + 1) rfl (by omega)
        rw [e] at hh
        exact hh
      · have e : cnt (fun s => decide (¬ w (p + 1) ((s : Int) * 7) = 0)) (j + 1) = cnt (fun s => decide (¬ w (p + 1) ((s : Int) * 7) = 0)) j + 1 := by simp [cnt, h15]
        refine wm_iinc hC (pc := 18) dX3_lastingStates_18 rfl rfl (by decide) rfl ?_
        refine wm_iinc hC (pc := 21) dX3_lastingStates_21 rfl rfl (by decide) rfl ?_
        refine wm_goto hC 4 (pc := 24) dX3_lastingStates_24 (by decide) ?_
        have hh := ih _ (by omega) (j + 1) rfl (by omega)
        rw [e] at hh
        exact hh
  exact lp4 _ 0 rfl (by omega)
set_option maxRecDepth 100000 in
set_option maxHeartbeats 4000000 in
theorem s_X3_clear {l : Launch} {G : mG} {w : mW} {p : Nat} (hp : PlanIx p) : Mx l G 2 yX3_clear cX3_clear 3 none [mvR p] w (qV (fun w' => w' = pclr w p 56)) := by
  refine Mx.intro (by decide) RX3 rfl [some (mvR p), none, none] (Nat.le_of_ble_eq_true rfl) rfl (fun K hC => ?_)
  refine wm_iconst hC (pc := 0) dX3_clear_0 ?_
  refine wm_istore_n hC 1 (pc := 1) dX3_clear_1 rfl (by decide) rfl ?_
  have lp2 : ∀ (n : Nat) (j : Nat) (o : Option mV), n = 8 - j → j ≤ 8 → Wm l G K 2 3 (qV (fun w' => w' = pclr w p 56)) 2 [some (mvR p), some (mvI (j : Int)), o] [] (pclr w p ((j : Int) * 7)) := by
    intro n
    induction n using Nat.strongRecOn with
    | _ n ih =>
    intro j o hn hj
    refine wm_iload_n hC 1 (pc := 2) dX3_clear_2 rfl rfl ?_
    refine wm_bipush hC (pc := 3) dX3_clear_3 (by decide) ?_
    refine wm_icmp_ge hC 41 (pc := 5) dX3_clear_5 (by decide) (by omega) (by omega) (fun h5 => ?_) (fun h5 => ?_)
    · refine wm_retV hC (pc := 41) dX3_clear_41 ?_
      have : (j : Int) * 7 = 56 := by omega
      rw [this]
    · refine wm_aload_n hC 0 (pc := 8) dX3_clear_8 rfl rfl ?_
      refine wm_iload_n hC 1 (pc := 9) dX3_clear_9 rfl rfl ?_
      refine wm_iconst hC (pc := 10) dX3_clear_10 ?_
      refine wm_vV hC cv_X3_18 kc_X3_setKind hp.1 rfl (s_X3_setKind hp (by omega)) rfl (by decide) rfl (Nat.le_of_ble_eq_true rfl) (pc := 11) dX3_clear_11 (fun w11 hw11 => ?_)
      subst hw11
      rw [pclr_k]
      refine wm_iconst hC (pc := 14) dX3_clear_14 ?_
      refine wm_istore_n hC 2 (pc := 15) dX3_clear_15 rfl (by decide) rfl ?_
      have lp16 : ∀ (n : Nat) (k : Nat), n = 6 - k → k ≤ 6 → Wm l G K 2 3 (qV (fun w' => w' = pclr w p 56)) 16 [some (mvR p), some (mvI (j : Int)), some (mvI (k : Int))] [] (pclr w p ((j : Int) * 7 + 1 + (k : Int))) := by
        intro n
        induction n using Nat.strongRecOn with
        | _ n ih =>
        intro k hm hk2
        rename_i n0 ih0
        refine wm_iload_n hC 2 (pc := 16) dX3_clear_16 rfl rfl ?_
        refine wm_bipush hC (pc := 17) dX3_clear_17 (by decide) ?_
        refine wm_icmp_ge hC 35 (pc := 19) dX3_clear_19 (by decide) (by omega) (by omega) (fun h19 => ?_) (fun h19 => ?_)
        · refine wm_iinc hC (pc := 35) dX3_clear_35 rfl rfl (by decide) rfl ?_
          refine wm_goto hC 2 (pc := 38) dX3_clear_38 (by decide) ?_
          have e : (j : Int) * 7 + 1 + (k : Int) = ((j + 1 : Nat) : Int) * 7 := by omega
          rw [e]
          exact ih0 _ (by omega) (j + 1) _ rfl (by omega)
        · refine wm_aload_n hC 0 (pc := 22) dX3_clear_22 rfl rfl ?_
          refine wm_iload_n hC 1 (pc := 23) dX3_clear_23 rfl rfl ?_
          refine wm_iload_n hC 2 (pc := 24) dX3_clear_24 rfl rfl ?_
          refine wm_iconst hC (pc := 25) dX3_clear_25 ?_
          refine wm_vV hC cv_X3_22 kc_X3_setTarget hp.1 rfl (s_X3_setTarget hp (by omega) (by omega)) rfl (by decide) rfl (Nat.le_of_ble_eq_true rfl) (pc := 26) dX3_clear_26 (fun w26 hw26 => ?_)
          subst hw26
          rw [pclr_w w p j k (by omega)]
          refine wm_iinc hC (pc := 29) dX3_clear_29 rfl rfl (by decide) rfl ?_
          refine wm_goto hC 16 (pc := 32) dX3_clear_32 (by decide) ?_
          exact ih _ (by omega) (k + 1) rfl (by omega)
      have hh := lp16 _ 0 rfl (by omega)
      rw [show (j : Int) * 7 + 1 + ((0 : Nat) : Int) = (j : Int) * 7 + 1 by omega] at hh
      exact hh
  have hh := lp2 _ 0 none rfl (by omega)
  rw [show (((0 : Nat) : Int) * 7) = 0 from rfl, pclr_0] at hh
  exact hh
set_option maxRecDepth 100000 in
set_option maxHeartbeats 4000000 in
theorem s_X3_swapSides {l : Launch} {G : mG} {w : mW} {p : Nat} (hp : PlanIx p) (hk : PlanOK w p) : Mx l G 2 yX3_swapSides cX3_swapSides 3 none [mvR p] w (qV (fun w' => w' = pswp w p 56)) := by
  refine Mx.intro (by decide) RX3 rfl [some (mvR p), none, none] (Nat.le_of_ble_eq_true rfl) rfl (fun K hC => ?_)
  refine wm_iconst hC (pc := 0) dX3_swapSides_0 ?_
  refine wm_istore_n hC 1 (pc := 1) dX3_swapSides_1 rfl (by decide) rfl ?_
  have lp2 : ∀ (n : Nat) (j : Nat) (o : Option mV), n = 8 - j → j ≤ 8 → Wm l G K 2 3 (qV (fun w' => w' = pswp w p 56)) 2 [some (mvR p), some (mvI (j : Int)), o] [] (pswp w p ((j : Int) * 7)) := by
    intro n
    induction n using Nat.strongRecOn with
    | _ n ih =>
    intro j o hn hj
    refine wm_iload_n hC 1 (pc := 2) dX3_swapSides_2 rfl rfl ?_
    refine wm_bipush hC (pc := 3) dX3_swapSides_3 (by decide) ?_
    refine wm_icmp_ge hC 39 (pc := 5) dX3_swapSides_5 (by decide) (by omega) (by omega) (fun h5 => ?_) (fun h5 => ?_)
    · refine wm_retV hC (pc := 39) dX3_swapSides_39 ?_
      have : (j : Int) * 7 = 56 := by omega
      rw [this]
    · refine wm_aload_n hC 0 (pc := 8) dX3_swapSides_8 rfl rfl ?_
      refine wm_iload_n hC 1 (pc := 9) dX3_swapSides_9 rfl rfl ?_
      refine wm_pV hC cv_X3_46 kc_X3_kindOf hp.1 rfl (s_X3_kindOf hp (by omega)) rfl (by decide) rfl (Nat.le_of_ble_eq_true rfl) (pc := 10) dX3_swapSides_10 ?_
      refine wm_istore_n hC 2 (pc := 13) dX3_swapSides_13 rfl (by decide) rfl ?_
      refine wm_iload_n hC 2 (pc := 14) dX3_swapSides_14 rfl rfl ?_
      rw [pswp_at]
      have hb := (hk j (by omega) (by omega)).1
      refine wm_if_eq hC 33 (pc := 15) dX3_swapSides_15 (by decide) (by omega) (fun h15 => ?_) (fun h15 => ?_)
      · rw [pswp_n w p j h15]
        refine wm_iinc hC (pc := 33) dX3_swapSides_33 rfl rfl (by decide) rfl ?_
        refine wm_goto hC 2 (pc := 36) dX3_swapSides_36 (by decide) ?_
        first | (rw [pswp_k w p j _ e]; exact ih _ (by omega) (j + 1) _ rfl (by omega)) | exact ih _ (by omega) (j + 1) _ rfl (by omega)
      · refine wm_aload_n hC 0 (pc := 18) dX3_swapSides_18 rfl rfl ?_
        refine wm_iload_n hC 1 (pc := 19) dX3_swapSides_19 rfl rfl ?_
        refine wm_iload_n hC 2 (pc := 20) dX3_swapSides_20 rfl rfl ?_
        refine wm_iconst hC (pc := 21) dX3_swapSides_21 ?_
        refine wm_icmp_ne hC 29 (pc := 22) dX3_swapSides_22 (by decide) (by omega) (by omega) (fun h22 => ?_) (fun h22 => ?_)
        · have e : (1 : Int) = swp (w (p + 1) ((j : Int) * 7)) := by unfold swp; rw [if_neg (by omega), if_neg (by omega)]
          refine wm_iconst hC (pc := 29) dX3_swapSides_29 ?_
          refine wm_vV hC cv_X3_18 kc_X3_setKind hp.1 rfl (s_X3_setKind hp (by omega)) rfl (by decide) rfl (Nat.le_of_ble_eq_true rfl) (pc := 30) dX3_swapSides_30 (fun w30 hw30 => ?_)
          subst hw30
          refine wm_iinc hC (pc := 33) dX3_swapSides_33 rfl rfl (by decide) rfl ?_
          refine wm_goto hC 2 (pc := 36) dX3_swapSides_36 (by decide) ?_
          first | (rw [pswp_k w p j _ e]; exact ih _ (by omega) (j + 1) _ rfl (by omega)) | exact ih _ (by omega) (j + 1) _ rfl (by omega)
        · have e : (2 : Int) = swp (w (p + 1) ((j : Int) * 7)) := by unfold swp; rw [if_neg (by omega), if_pos (by omega)]
          refine wm_iconst hC (pc := 25) dX3_swapSides_25 ?_
          refine wm_goto hC 30 (pc := 26) dX3_swapSides_26 (by decide) ?_
          refine wm_vV hC cv_X3_18 kc_X3_setKind hp.1 rfl (s_X3_setKind hp (by omega)) rfl (by decide) rfl (Nat.le_of_ble_eq_true rfl) (pc := 30) dX3_swapSides_30 (fun w30 hw30 => ?_)
          subst hw30
          refine wm_iinc hC (pc := 33) dX3_swapSides_33 rfl rfl (by decide) rfl ?_
          refine wm_goto hC 2 (pc := 36) dX3_swapSides_36 (by decide) ?_
          first | (rw [pswp_k w p j _ e]; exact ih _ (by omega) (j + 1) _ rfl (by omega)) | exact ih _ (by omega) (j + 1) _ rfl (by omega)
  have hh := lp2 _ 0 none rfl (by omega)
  rw [show (((0 : Nat) : Int) * 7) = 0 from rfl, pswp_0] at hh
  exact hh
set_option maxRecDepth 100000 in
set_option maxHeartbeats 4000000 in
theorem s_X3_statesBehind {l : Launch} {G : mG} {w : mW} {p : Nat} (hp : PlanIx p) {s : Nat} (hs : s < 8) (hk : PlanOK w p) : Mx l G 2 yX3_statesBehind cX3_statesBehind 5 (some .int) [mvR p, mvI (s : Int)] w (qP (mvI ((sbOf w p s : Nat) : Int)) w) := by
  refine Mx.intro (by decide) RX3 rfl [some (mvR p), some (mvI (s : Int)), none, none, none] (Nat.le_of_ble_eq_true rfl) rfl (fun K hC => ?_)
  refine wm_iconst hC (pc := 0) dX3_statesBehind_0 ?_
  refine wm_istore_n hC 2 (pc := 1) dX3_statesBehind_1 rfl (by decide) rfl ?_
  refine wm_iconst hC (pc := 2) dX3_statesBehind_2 ?_
  refine wm_istore_n hC 3 (pc := 3) dX3_statesBehind_3 rfl (by decide) rfl ?_
  have lp4 : ∀ (n : Nat) (j : Nat) (o : Option mV) (ho : mok [some (mvR p), some (mvI (s : Int)), none, none, o] 4 = true), n = 6 - j → j ≤ 6 → Wm l G K 2 5 (qP (mvI ((sbOf w p s : Nat) : Int)) w) 4 [some (mvR p), some (mvI (s : Int)), some (mvI ((wor (sbF w p s) j : Nat) : Int)), some (mvI (j : Int)), o] [] w := by
    intro n
    induction n using Nat.strongRecOn with
    | _ n ih =>
    intro j o ho hn hj
    refine wm_iload_n hC 3 (pc := 4) dX3_statesBehind_4 rfl rfl ?_
    refine wm_bipush hC (pc := 5) dX3_statesBehind_5 (by decide) ?_
    refine wm_icmp_ge hC 45 (pc := 7) dX3_statesBehind_7 (by decide) (by omega) (by omega) (fun h7 => ?_) (fun h7 => ?_)
    · refine wm_iload_n hC 2 (pc := 45) dX3_statesBehind_45 rfl rfl ?_
      refine wm_iretP hC (pc := 46) dX3_statesBehind_46 ?_ rfl
      have : j = 6 := by omega
      rw [this]
      simp [sbOf, hs]
    · refine wm_aload_n hC 0 (pc := 10) dX3_statesBehind_10 rfl rfl ?_
      refine wm_iload_n hC 1 (pc := 11) dX3_statesBehind_11 rfl rfl ?_
      refine wm_iload_n hC 3 (pc := 12) dX3_statesBehind_12 rfl rfl ?_
      refine wm_pV hC cv_X3_33 kc_X3_targetOf hp.1 rfl (s_X3_targetOf hp (by omega) (by omega)) rfl (by decide) rfl (Nat.le_of_ble_eq_true rfl) (pc := 13) dX3_statesBehind_13 ?_
      refine wm_istore hC  (pc := 16) dX3_statesBehind_16  (by decide) rfl ?_
      have hb := (hk s (by omega) (by omega)).2 j (by omega) (by omega)
      refine wm_iload hC  (pc := 18) dX3_statesBehind_18 rfl ?_
      refine wm_iconst hC (pc := 20) dX3_statesBehind_20 ?_
      refine wm_icmp_eq hC 39 (pc := 21) dX3_statesBehind_21 (by decide) (by omega) (by omega) (fun h21 => ?_) (fun h21 => ?_)
      · have e : wor (sbF w p s) (j + 1) = wor (sbF w p s) j := by simp [wor, sbF, h21]
        refine wm_iinc hC (pc := 39) dX3_statesBehind_39 rfl rfl (by decide) rfl ?_
        refine wm_goto hC 4 (pc := 42) dX3_statesBehind_42 (by decide) ?_
        have hh := ih _ (by omega) (j + 1) (some (mvI (w (p + 1) ((s : Int) * 7 + 1 + (j : Int))))) rfl rfl (by omega)
        rw [e] at hh
        exact hh
      · refine wm_aload_n hC 0 (pc := 24) dX3_statesBehind_24 rfl rfl ?_
        refine wm_iload_n hC 1 (pc := 25) dX3_statesBehind_25 rfl rfl ?_
        refine wm_pV hC cv_X3_46 kc_X3_kindOf hp.1 rfl (s_X3_kindOf hp (by omega)) rfl (by decide) rfl (Nat.le_of_ble_eq_true rfl) (pc := 26) dX3_statesBehind_26 ?_
        have hb0 := (hk s (by omega) (by omega)).1
        refine wm_if_eq hC 39 (pc := 29) dX3_statesBehind_29 (by decide) (by omega) (fun h29 => ?_) (fun h29 => ?_)
        · have e : wor (sbF w p s) (j + 1) = wor (sbF w p s) j := by simp [wor, sbF, h29]
          refine wm_iinc hC (pc := 39) dX3_statesBehind_39 rfl rfl (by decide) rfl ?_
          refine wm_goto hC 4 (pc := 42) dX3_statesBehind_42 (by decide) ?_
          have hh := ih _ (by omega) (j + 1) (some (mvI (w (p + 1) ((s : Int) * 7 + 1 + (j : Int))))) rfl rfl (by omega)
          rw [e] at hh
          exact hh
        · have e : wor (sbF w p s) (j + 1) = wor (sbF w p s) j ||| 2 ^ (w (p + 1) ((s : Int) * 7 + 1 + (j : Int))).toNat := by simp [wor, sbF, h29, h21]
          refine wm_iload_n hC 2 (pc := 32) dX3_statesBehind_32 rfl rfl ?_
          refine wm_iconst hC (pc := 33) dX3_statesBehind_33 ?_
          refine wm_iload hC  (pc := 34) dX3_statesBehind_34 rfl ?_
          have ep : w (p + 1) ((s : Int) * 7 + 1 + (j : Int)) = (((w (p + 1) ((s : Int) * 7 + 1 + (j : Int))).toNat : Nat) : Int) := by omega
          refine wm_ishl1 hC _ (pc := 36) dX3_statesBehind_36 ep (by omega) ?_
          refine wm_ior hC _ _ (pc := 37) dX3_statesBehind_37 rfl rfl ?_
          refine wm_istore_n hC 2 (pc := 38) dX3_statesBehind_38 rfl (by decide) rfl ?_
          refine wm_iinc hC (pc := 39) dX3_statesBehind_39 rfl rfl (by decide) rfl ?_
          refine wm_goto hC 4 (pc := 42) dX3_statesBehind_42 (by decide) ?_
          have hh := ih _ (by omega) (j + 1) (some (mvI (w (p + 1) ((s : Int) * 7 + 1 + (j : Int))))) rfl rfl (by omega)
          rw [e] at hh
          exact hh
  exact lp4 _ 0 none rfl rfl (by omega)
set_option maxRecDepth 100000 in
set_option maxHeartbeats 4000000 in
theorem s_X3_comesTo {l : Launch} {G : mG} {w : mW} {p : Nat} (hp : PlanIx p) {s : Nat} (hs : s < 8) (hk : PlanOK w p) : Mx l G 3 yX3_comesTo cX3_comesTo 5 (some .int) [mvR p, mvI (s : Int)] w (qP (mvI ((comesF w p s : Nat) : Int)) w) := by
  refine Mx.intro (by decide) RX3 rfl [some (mvR p), some (mvI (s : Int)), none, none, none] (Nat.le_of_ble_eq_true rfl) rfl (fun K hC => ?_)
  refine wm_iload_n hC 1 (pc := 0) dX3_comesTo_0 rfl rfl ?_
  refine wm_pN hC cn_X3_26 kc_X8_isState (s_X8_isState (by omega)) rfl (by decide) rfl (Nat.le_of_ble_eq_true rfl) (pc := 1) dX3_comesTo_1 ?_
  refine wm_ifd_eq hC 13 (pc := 4) dX3_comesTo_4 (by decide) (fun h4 => ?_) (fun h4 => ?_)
  · omega
  · refine wm_iconst hC (pc := 7) dX3_comesTo_7 ?_
    refine wm_iload_n hC 1 (pc := 8) dX3_comesTo_8 rfl rfl ?_
    refine wm_ishl1 hC s (pc := 9) dX3_comesTo_9 rfl (by omega) ?_
    refine wm_goto hC 14 (pc := 10) dX3_comesTo_10 (by decide) ?_
    refine wm_istore_n hC 2 (pc := 14) dX3_comesTo_14 rfl (by decide) rfl ?_
    refine wm_iconst hC (pc := 15) dX3_comesTo_15 ?_
    refine wm_istore_n hC 3 (pc := 16) dX3_comesTo_16 rfl (by decide) rfl ?_
    have lp17 : ∀ (n : Nat) (r : Nat) (o : Option mV), n = 7 - r → r ≤ 7 → Wm l G K 3 5 (qP (mvI ((comesF w p s : Nat) : Int)) w) 17 [some (mvR p), some (mvI (s : Int)), some (mvI ((rout (sbOf w p) (2 ^ s) r : Nat) : Int)), some (mvI ((r + 1 : Nat) : Int)), o] [] w := by
      intro n
      induction n using Nat.strongRecOn with
      | _ n ih =>
      intro r o hn hr
      refine wm_iload_n hC 3 (pc := 17) dX3_comesTo_17 rfl rfl ?_
      refine wm_bipush hC (pc := 18) dX3_comesTo_18 (by decide) ?_
      refine wm_icmp_ge hC 63 (pc := 20) dX3_comesTo_20 (by decide) (by omega) (by omega) (fun h20 => ?_) (fun h20 => ?_)
      · refine wm_iload_n hC 2 (pc := 63) dX3_comesTo_63 rfl rfl ?_
        refine wm_iretP hC (pc := 64) dX3_comesTo_64 ?_ rfl
        have : r = 7 := by omega
        rw [this]
        rfl
      · refine wm_iconst hC (pc := 23) dX3_comesTo_23 ?_
        refine wm_istore hC  (pc := 24) dX3_comesTo_24  (by decide) rfl ?_
        have lp26 : ∀ (n : Nat) (f : Nat), n = 8 - f → f ≤ 8 → Wm l G K 3 5 (qP (mvI ((comesF w p s : Nat) : Int)) w) 26 [some (mvR p), some (mvI (s : Int)), some (mvI ((rin (sbOf w p) (rout (sbOf w p) (2 ^ s) r) f : Nat) : Int)), some (mvI ((r + 1 : Nat) : Int)), some (mvI (f : Int))] [] w := by
          intro n
          induction n using Nat.strongRecOn with
          | _ n ih =>
          intro f hm hf
          rename_i n0 ih0
          refine wm_iload hC  (pc := 26) dX3_comesTo_26 rfl ?_
          refine wm_bipush hC (pc := 28) dX3_comesTo_28 (by decide) ?_
          refine wm_icmp_ge hC 57 (pc := 30) dX3_comesTo_30 (by decide) (by omega) (by omega) (fun h30 => ?_) (fun h30 => ?_)
          · refine wm_iinc hC (pc := 57) dX3_comesTo_57 rfl rfl (by decide) rfl ?_
            refine wm_goto hC 17 (pc := 60) dX3_comesTo_60 (by decide) ?_
            obtain rfl : f = 8 := by omega
            exact ih0 _ (by omega) (r + 1) _ rfl (by omega)
          · refine wm_iload_n hC 2 (pc := 33) dX3_comesTo_33 rfl rfl ?_
            refine wm_iload hC  (pc := 34) dX3_comesTo_34 rfl ?_
            refine wm_pN hC cn_X3_49 kc_X8_holds (s_X8_holds (by have := rin_lt _ (sbOf_lt hk) _ (rout_lt _ (sbOf_lt hk) (2 ^ s) (Nat.pow_lt_pow_right (by decide) hs) r) f; omega) (by omega)) rfl (by decide) rfl (Nat.le_of_ble_eq_true rfl) (pc := 36) dX3_comesTo_36 ?_
            refine wm_ifb_eq hC 51 (pc := 39) dX3_comesTo_39 (by decide) (fun h39 => ?_) (fun h39 => ?_)
            · have e : rin (sbOf w p) (rout (sbOf w p) (2 ^ s) r) (f + 1) = rin (sbOf w p) (rout (sbOf w p) (2 ^ s) r) f := by simp [rin, h39]
              refine wm_iinc hC (pc := 51) dX3_comesTo_51 rfl rfl (by decide) rfl ?_
              refine wm_goto hC 26 (pc := 54) dX3_comesTo_54 (by decide) ?_
              have hh := ih _ (by omega) (f + 1) rfl (by omega)
              rw [e] at hh
              exact hh
            · have e : rin (sbOf w p) (rout (sbOf w p) (2 ^ s) r) (f + 1) = rin (sbOf w p) (rout (sbOf w p) (2 ^ s) r) f ||| sbOf w p f := by simp [rin, h39]
              refine wm_iload_n hC 2 (pc := 42) dX3_comesTo_42 rfl rfl ?_
              refine wm_aload_n hC 0 (pc := 43) dX3_comesTo_43 rfl rfl ?_
              refine wm_iload hC  (pc := 44) dX3_comesTo_44 rfl ?_
              refine wm_pV hC cv_X3_53 kc_X3_statesBehind hp.1 rfl (s_X3_statesBehind hp (by omega) hk) rfl (by decide) rfl (Nat.le_of_ble_eq_true rfl) (pc := 46) dX3_comesTo_46 ?_
              refine wm_ior hC _ _ (pc := 49) dX3_comesTo_49 rfl rfl ?_
              refine wm_istore_n hC 2 (pc := 50) dX3_comesTo_50 rfl (by decide) rfl ?_
              refine wm_iinc hC (pc := 51) dX3_comesTo_51 rfl rfl (by decide) rfl ?_
              refine wm_goto hC 26 (pc := 54) dX3_comesTo_54 (by decide) ?_
              have hh := ih _ (by omega) (f + 1) rfl (by omega)
              rw [e] at hh
              exact hh
        exact lp26 _ 0 rfl (by omega)
    exact lp17 _ 0 none rfl (by omega)
set_option maxRecDepth 100000 in
set_option maxHeartbeats 4000000 in
theorem s_X3_take {l : Launch} {G : mG} {w : mW} {p : Nat} (hp : PlanIx p) {q : Nat} (hq : PlanIx q) : Mx l G 1 yX3_take cX3_take 2 none [mvR p, mvR q] w (qV (fun w' => w' = mcopy w (q + 1) (p + 1) 0 0 56)) := by
  refine Mx.intro (by decide) RX3 rfl [some (mvR p), some (mvR q)] (Nat.le_of_ble_eq_true rfl) rfl (fun K hC => ?_)
  refine wm_aload_n hC 1 (pc := 0) dX3_take_0 rfl rfl ?_
  refine wm_getR hC fl_X3_11_2 hq.1 rfl (pc := 1) dX3_take_1 ?_
  refine wm_iconst hC (pc := 4) dX3_take_4 ?_
  refine wm_aload_n hC 0 (pc := 5) dX3_take_5 rfl rfl ?_
  refine wm_getR hC fl_X3_11_2 hp.1 rfl (pc := 6) dX3_take_6 ?_
  refine wm_iconst hC (pc := 9) dX3_take_9 ?_
  refine wm_bipush hC (pc := 10) dX3_take_10 (by decide) ?_
  refine wm_copy hC ac_X3_56 ac_nat ac_stat ac_ini hq.2 hp.2 (by omega) (by decide) (Nat.le_of_ble_eq_true rfl) (pc := 12) dX3_take_12 ?_
  refine wm_retV hC (pc := 15) dX3_take_15 ?_
  rfl
set_option maxRecDepth 100000 in
set_option maxHeartbeats 4000000 in
theorem s_X3_saveTo {l : Launch} {G : mG} {w : mW} {p : Nat} (hp : PlanIx p) {a n : Nat} {f : Int} (ha : mlays[a]? = some (.inr (0, n))) (hn : n ≤ 1000000) (hf : 0 ≤ f ∧ f + 56 ≤ n) : Mx l G 1 yX3_saveTo cX3_saveTo 3 none [mvR p, mvR a, mvI f] w (qV (fun w' => w' = mcopy w (p + 1) a 0 f 56)) := by
  refine Mx.intro (by decide) RX3 rfl [some (mvR p), some (mvR a), some (mvI f)] (Nat.le_of_ble_eq_true rfl) rfl (fun K hC => ?_)
  refine wm_iload_n hC 2 (pc := 0) dX3_saveTo_0 rfl rfl ?_
  refine wm_if_lt hC 25 (pc := 1) dX3_saveTo_1 (by decide) (by omega) (fun h1 => ?_) (fun h1 => ?_)
  · omega
  · refine wm_iload_n hC 2 (pc := 4) dX3_saveTo_4 rfl rfl ?_
    refine wm_aload_n hC 1 (pc := 5) dX3_saveTo_5 rfl rfl ?_
    refine wm_alen hC (n : Int) ha rfl rfl (pc := 6) dX3_saveTo_6 ?_
    refine wm_bipush hC (pc := 7) dX3_saveTo_7 (by decide) ?_
    refine wm_isub hC (pc := 9) dX3_saveTo_9 ?_
    refine wm_icmp_gt hC 25 (pc := 10) dX3_saveTo_10 (by decide) (by omega) (by omega) (fun h10 => ?_) (fun h10 => ?_)
    · omega
    · refine wm_aload_n hC 0 (pc := 13) dX3_saveTo_13 rfl rfl ?_
      refine wm_getR hC fl_X3_11_2 hp.1 rfl (pc := 14) dX3_saveTo_14 ?_
      refine wm_iconst hC (pc := 17) dX3_saveTo_17 ?_
      refine wm_aload_n hC 1 (pc := 18) dX3_saveTo_18 rfl rfl ?_
      refine wm_iload_n hC 2 (pc := 19) dX3_saveTo_19 rfl rfl ?_
      refine wm_bipush hC (pc := 20) dX3_saveTo_20 (by decide) ?_
      refine wm_copy hC ac_X3_56 ac_nat ac_stat ac_ini hp.2 ha (by omega) (by decide) (Nat.le_of_ble_eq_true rfl) (pc := 22) dX3_saveTo_22 ?_
      refine wm_retV hC (pc := 25) dX3_saveTo_25 ?_
      rfl
set_option maxRecDepth 100000 in
set_option maxHeartbeats 4000000 in
theorem s_X3_loadFrom {l : Launch} {G : mG} {w : mW} {p : Nat} (hp : PlanIx p) {a n : Nat} {f : Int} (ha : mlays[a]? = some (.inr (0, n))) (hn : n ≤ 1000000) (hf : 0 ≤ f ∧ f + 56 ≤ n) : Mx l G 1 yX3_loadFrom cX3_loadFrom 3 none [mvR p, mvR a, mvI f] w (qV (fun w' => w' = mcopy w a (p + 1) f 0 56)) := by
  refine Mx.intro (by decide) RX3 rfl [some (mvR p), some (mvR a), some (mvI f)] (Nat.le_of_ble_eq_true rfl) rfl (fun K hC => ?_)
  refine wm_iload_n hC 2 (pc := 0) dX3_loadFrom_0 rfl rfl ?_
  refine wm_if_lt hC 25 (pc := 1) dX3_loadFrom_1 (by decide) (by omega) (fun h1 => ?_) (fun h1 => ?_)
  · omega
  · refine wm_iload_n hC 2 (pc := 4) dX3_loadFrom_4 rfl rfl ?_
    refine wm_aload_n hC 1 (pc := 5) dX3_loadFrom_5 rfl rfl ?_
    refine wm_alen hC (n : Int) ha rfl rfl (pc := 6) dX3_loadFrom_6 ?_
    refine wm_bipush hC (pc := 7) dX3_loadFrom_7 (by decide) ?_
    refine wm_isub hC (pc := 9) dX3_loadFrom_9 ?_
    refine wm_icmp_gt hC 25 (pc := 10) dX3_loadFrom_10 (by decide) (by omega) (by omega) (fun h10 => ?_) (fun h10 => ?_)
    · omega
    · refine wm_aload_n hC 1 (pc := 13) dX3_loadFrom_13 rfl rfl ?_
      refine wm_iload_n hC 2 (pc := 14) dX3_loadFrom_14 rfl rfl ?_
      refine wm_aload_n hC 0 (pc := 15) dX3_loadFrom_15 rfl rfl ?_
      refine wm_getR hC fl_X3_11_2 hp.1 rfl (pc := 16) dX3_loadFrom_16 ?_
      refine wm_iconst hC (pc := 19) dX3_loadFrom_19 ?_
      refine wm_bipush hC (pc := 20) dX3_loadFrom_20 (by decide) ?_
      refine wm_copy hC ac_X3_56 ac_nat ac_stat ac_ini ha hp.2 (by omega) (by decide) (Nat.le_of_ble_eq_true rfl) (pc := 22) dX3_loadFrom_22 ?_
      refine wm_retV hC (pc := 25) dX3_loadFrom_25 ?_
      rfl
end
section
/-! the history; changes of plans -/
theorem planIxP {p : Nat} (hp : p < 3) : PlanIx (2 * p + 1) := by
  rcases (show p = 0 ∨ p = 1 ∨ p = 2 by omega) with rfl | rfl | rfl
  · exact planIx1
  · exact planIx3
  · exact planIx5
theorem mcopy_ne {w : mW} {i j : Nat} {sp dp n : Int} {a : Nat} (h : a ≠ j) : mcopy w i j sp dp n a = w a := by
  funext b; unfold mcopy; rw [if_neg (fun q => h q.1)]
theorem PlanOK.congr {w w' : mW} {p : Nat} (h : w' (p + 1) = w (p + 1)) (hk : PlanOK w p) : PlanOK w' p := by
  unfold PlanOK; rw [h]; exact hk
/-- the class's state as far as calls rest on it -/
def CInv (w : mW) : Prop := (∀ p : Nat, p < 3 → PlanOK w (2 * p + 1)) ∧ (0 ≤ w 7 1 ∧ w 7 1 ≤ 4) ∧ (0 ≤ w 9 1 ∧ w 9 1 ≤ 80) ∧ ∀ i : Int, 0 ≤ i → i < w 9 1 → 0 ≤ w 10 i ∧ w 10 i < 256
def recG (w : mW) : mW := mup (mcopy (mcopy (mcopy w 2 8 0 (w 7 1 * 168) 56) 4 8 0 (w 7 1 * 168 + 56) 56) 6 8 0 (w 7 1 * 168 + 112) 56) 7 1 (w 7 1 + 1)
def recS (w : mW) : mW := mup (mcopy w 8 8 168 0 504) 7 1 3
def recF (w : mW) : mW := if w 7 1 < 4 then recG w else recG (recS w)
theorem recG_ne {w : mW} {a : Nat} (h7 : a ≠ 7) (h8 : a ≠ 8) : recG w a = w a := by
  unfold recG; rw [mup_ne h7, mcopy_ne h8, mcopy_ne h8, mcopy_ne h8]
theorem recF_ne {w : mW} {a : Nat} (h7 : a ≠ 7) (h8 : a ≠ 8) : recF w a = w a := by
  unfold recF; split
  · exact recG_ne h7 h8
  · rw [recG_ne h7 h8]; unfold recS; rw [mup_ne h7, mcopy_ne h8]
def resF (w : mW) : mW := mcopy (mcopy (mcopy (mup w 7 1 (w 7 1 - 1)) 8 2 ((w 7 1 - 1) * 168) 0 56) 8 4 ((w 7 1 - 1) * 168 + 56) 0 56) 8 6 ((w 7 1 - 1) * 168 + 112) 0 56
set_option maxRecDepth 100000 in
set_option maxHeartbeats 4000000 in
theorem s_X0_size {l : Launch} {G : mG} {w : mW}  : Mx l G 0 yX0_size cX0_size 1 (some .int) [mvR 7] w (qP (mvI (w 7 1)) w) := by
  refine Mx.intro (by decide) RX0 rfl [some (mvR 7)] (Nat.le_of_ble_eq_true rfl) rfl (fun K hC => ?_)
  refine wm_aload_n hC 0 (pc := 0) dX0_size_0 rfl rfl ?_
  refine wm_getI hC 7 1 fl_X0_15_0 rfl rfl rfl (pc := 1) dX0_size_1 ?_
  refine wm_iretP hC (pc := 4) dX0_size_4 ?_ rfl
  rfl
set_option maxRecDepth 100000 in
set_option maxHeartbeats 4000000 in
theorem s_X0_record {l : Launch} {G : mG} {w : mW} (h7 : 0 ≤ w 7 1 ∧ w 7 1 ≤ 4) : Mx l G 2 yX0_record cX0_record 5 none [mvR 7, mvR 1, mvR 3, mvR 5] w (qV (fun w' => w' = recF w)) := by
  refine Mx.intro (by decide) RX0 rfl [some (mvR 7), some (mvR 1), some (mvR 3), some (mvR 5), none] (Nat.le_of_ble_eq_true rfl) rfl (fun K hC => ?_)
  have j31 : ∀ (w1 : mW), (0 ≤ w1 7 1 ∧ w1 7 1 ≤ 3) → recG w1 = recF w → Wm l G K 2 5 (qV (fun w' => w' = recF w)) 31 [some (mvR 7), some (mvR 1), some (mvR 3), some (mvR 5), none] [] w1 := by
    intro w1 h1 hG
    refine wm_aload_n hC 0 (pc := 31) dX0_record_31 rfl rfl ?_
    refine wm_getI hC 7 1 fl_X0_15_0 rfl rfl rfl (pc := 32) dX0_record_32 ?_
    refine wm_sipush hC (pc := 35) dX0_record_35 (by decide) ?_
    refine wm_imul hC (pc := 38) dX0_record_38 ?_
    refine wm_istore hC  (pc := 39) dX0_record_39  (by decide) rfl ?_
    refine wm_aload_n hC 1 (pc := 41) dX0_record_41 rfl rfl ?_
    refine wm_aload_n hC 0 (pc := 42) dX0_record_42 rfl rfl ?_
    refine wm_getR hC fl_X0_11_0 rfl rfl (pc := 43) dX0_record_43 ?_
    refine wm_iload hC  (pc := 46) dX0_record_46 rfl ?_
    refine wm_vV hC cv_X0_25 kc_X3_saveTo rfl rfl (s_X3_saveTo planIx1 rfl (by decide) (by omega)) rfl (by decide) rfl (Nat.le_of_ble_eq_true rfl) (pc := 48) dX0_record_48 (fun w48 hw48 => ?_)
    subst hw48
    refine wm_aload_n hC 2 (pc := 51) dX0_record_51 rfl rfl ?_
    refine wm_aload_n hC 0 (pc := 52) dX0_record_52 rfl rfl ?_
    refine wm_getR hC fl_X0_11_0 rfl rfl (pc := 53) dX0_record_53 ?_
    refine wm_iload hC  (pc := 56) dX0_record_56 rfl ?_
    refine wm_bipush hC (pc := 58) dX0_record_58 (by decide) ?_
    refine wm_iadd hC (pc := 60) dX0_record_60 ?_
    refine wm_vV hC cv_X0_25 kc_X3_saveTo rfl rfl (s_X3_saveTo planIx3 rfl (by decide) (by omega)) rfl (by decide) rfl (Nat.le_of_ble_eq_true rfl) (pc := 61) dX0_record_61 (fun w61 hw61 => ?_)
    subst hw61
    refine wm_aload_n hC 3 (pc := 64) dX0_record_64 rfl rfl ?_
    refine wm_aload_n hC 0 (pc := 65) dX0_record_65 rfl rfl ?_
    refine wm_getR hC fl_X0_11_0 rfl rfl (pc := 66) dX0_record_66 ?_
    refine wm_iload hC  (pc := 69) dX0_record_69 rfl ?_
    refine wm_bipush hC (pc := 71) dX0_record_71 (by decide) ?_
    refine wm_iadd hC (pc := 73) dX0_record_73 ?_
    refine wm_vV hC cv_X0_25 kc_X3_saveTo rfl rfl (s_X3_saveTo planIx5 rfl (by decide) (by omega)) rfl (by decide) rfl (Nat.le_of_ble_eq_true rfl) (pc := 74) dX0_record_74 (fun w74 hw74 => ?_)
    subst hw74
    have e7 : mcopy (mcopy (mcopy w1 2 8 0 (w1 7 1 * 168) 56) 4 8 0 (w1 7 1 * 168 + 56) 56) 6 8 0 (w1 7 1 * 168 + 112) 56 7 = w1 7 := by rw [mcopy_ne (by decide), mcopy_ne (by decide), mcopy_ne (by decide)]
    refine wm_aload_n hC 0 (pc := 77) dX0_record_77 rfl rfl ?_
    refine wm_dup hC (pc := 78) dX0_record_78 rfl ?_
    refine wm_getI hC 7 1 fl_X0_15_0 rfl rfl rfl (pc := 79) dX0_record_79 ?_
    rw [e7]
    refine wm_iconst hC (pc := 82) dX0_record_82 ?_
    refine wm_iadd hC (pc := 83) dX0_record_83 ?_
    refine wm_putI hC 7 1 fp_X0_15_0 rfl rfl rfl (pc := 84) dX0_record_84 ?_
    refine wm_retV hC (pc := 87) dX0_record_87 ?_
    exact hG
  refine wm_aload_n hC 0 (pc := 0) dX0_record_0 rfl rfl ?_
  refine wm_getI hC 7 1 fl_X0_15_0 rfl rfl rfl (pc := 1) dX0_record_1 ?_
  refine wm_iconst hC (pc := 4) dX0_record_4 ?_
  refine wm_icmp_lt hC 31 (pc := 5) dX0_record_5 (by decide) (by omega) (by omega) (fun h5 => ?_) (fun h5 => ?_)
  · exact j31 w (by omega) (by unfold recF; rw [if_pos h5])
  · refine wm_aload_n hC 0 (pc := 8) dX0_record_8 rfl rfl ?_
    refine wm_getR hC fl_X0_11_0 rfl rfl (pc := 9) dX0_record_9 ?_
    refine wm_sipush hC (pc := 12) dX0_record_12 (by decide) ?_
    refine wm_aload_n hC 0 (pc := 15) dX0_record_15 rfl rfl ?_
    refine wm_getR hC fl_X0_11_0 rfl rfl (pc := 16) dX0_record_16 ?_
    refine wm_iconst hC (pc := 19) dX0_record_19 ?_
    refine wm_sipush hC (pc := 20) dX0_record_20 (by decide) ?_
    refine wm_copy hC ac_X0_19 ac_nat ac_stat ac_ini rfl rfl (by omega) (by decide) (Nat.le_of_ble_eq_true rfl) (pc := 23) dX0_record_23 ?_
    refine wm_aload_n hC 0 (pc := 26) dX0_record_26 rfl rfl ?_
    refine wm_iconst hC (pc := 27) dX0_record_27 ?_
    refine wm_putI hC 7 1 fp_X0_15_0 rfl rfl rfl (pc := 28) dX0_record_28 ?_
    exact j31 (recS w) (by show 0 ≤ (3 : Int) ∧ (3 : Int) ≤ 3; omega) (by unfold recF; rw [if_neg (by omega)])
set_option maxRecDepth 100000 in
set_option maxHeartbeats 4000000 in
theorem s_X0_restore {l : Launch} {G : mG} {w : mW} (h7 : 0 < w 7 1 ∧ w 7 1 ≤ 4) : Mx l G 2 yX0_restore cX0_restore 5 none [mvR 7, mvR 1, mvR 3, mvR 5] w (qV (fun w' => w' = resF w)) := by
  refine Mx.intro (by decide) RX0 rfl [some (mvR 7), some (mvR 1), some (mvR 3), some (mvR 5), none] (Nat.le_of_ble_eq_true rfl) rfl (fun K hC => ?_)
  refine wm_aload_n hC 0 (pc := 0) dX0_restore_0 rfl rfl ?_
  refine wm_getI hC 7 1 fl_X0_15_0 rfl rfl rfl (pc := 1) dX0_restore_1 ?_
  refine wm_if_le hC 63 (pc := 4) dX0_restore_4 (by decide) (by omega) (fun h4 => ?_) (fun h4 => ?_)
  · omega
  · refine wm_aload_n hC 0 (pc := 7) dX0_restore_7 rfl rfl ?_
    refine wm_dup hC (pc := 8) dX0_restore_8 rfl ?_
    refine wm_getI hC 7 1 fl_X0_15_0 rfl rfl rfl (pc := 9) dX0_restore_9 ?_
    refine wm_iconst hC (pc := 12) dX0_restore_12 ?_
    refine wm_isub hC (pc := 13) dX0_restore_13 ?_
    refine wm_putI hC 7 1 fp_X0_15_0 rfl rfl rfl (pc := 14) dX0_restore_14 ?_
    refine wm_aload_n hC 0 (pc := 17) dX0_restore_17 rfl rfl ?_
    refine wm_getI hC 7 1 fl_X0_15_0 rfl rfl rfl (pc := 18) dX0_restore_18 ?_
    rw [mup_at]
    refine wm_sipush hC (pc := 21) dX0_restore_21 (by decide) ?_
    refine wm_imul hC (pc := 24) dX0_restore_24 ?_
    refine wm_istore hC  (pc := 25) dX0_restore_25  (by decide) rfl ?_
    refine wm_aload_n hC 1 (pc := 27) dX0_restore_27 rfl rfl ?_
    refine wm_aload_n hC 0 (pc := 28) dX0_restore_28 rfl rfl ?_
    refine wm_getR hC fl_X0_11_0 rfl rfl (pc := 29) dX0_restore_29 ?_
    refine wm_iload hC  (pc := 32) dX0_restore_32 rfl ?_
    refine wm_vV hC cv_X0_29 kc_X3_loadFrom rfl rfl (s_X3_loadFrom planIx1 rfl (by decide) (by omega)) rfl (by decide) rfl (Nat.le_of_ble_eq_true rfl) (pc := 34) dX0_restore_34 (fun w34 hw34 => ?_)
    subst hw34
    refine wm_aload_n hC 2 (pc := 37) dX0_restore_37 rfl rfl ?_
    refine wm_aload_n hC 0 (pc := 38) dX0_restore_38 rfl rfl ?_
    refine wm_getR hC fl_X0_11_0 rfl rfl (pc := 39) dX0_restore_39 ?_
    refine wm_iload hC  (pc := 42) dX0_restore_42 rfl ?_
    refine wm_bipush hC (pc := 44) dX0_restore_44 (by decide) ?_
    refine wm_iadd hC (pc := 46) dX0_restore_46 ?_
    refine wm_vV hC cv_X0_29 kc_X3_loadFrom rfl rfl (s_X3_loadFrom planIx3 rfl (by decide) (by omega)) rfl (by decide) rfl (Nat.le_of_ble_eq_true rfl) (pc := 47) dX0_restore_47 (fun w47 hw47 => ?_)
    subst hw47
    refine wm_aload_n hC 3 (pc := 50) dX0_restore_50 rfl rfl ?_
    refine wm_aload_n hC 0 (pc := 51) dX0_restore_51 rfl rfl ?_
    refine wm_getR hC fl_X0_11_0 rfl rfl (pc := 52) dX0_restore_52 ?_
    refine wm_iload hC  (pc := 55) dX0_restore_55 rfl ?_
    refine wm_bipush hC (pc := 57) dX0_restore_57 (by decide) ?_
    refine wm_iadd hC (pc := 59) dX0_restore_59 ?_
    refine wm_vV hC cv_X0_29 kc_X3_loadFrom rfl rfl (s_X3_loadFrom planIx5 rfl (by decide) (by omega)) rfl (by decide) rfl (Nat.le_of_ble_eq_true rfl) (pc := 60) dX0_restore_60 (fun w60 hw60 => ?_)
    subst hw60
    refine wm_retV hC (pc := 63) dX0_restore_63 ?_
    rfl
set_option maxRecDepth 100000 in
set_option maxHeartbeats 4000000 in
theorem s_X8_remember {l : Launch} {G : mG} {w : mW} (hI : CInv w) : Mx l G 3 yX8_remember cX8_remember 1 none [mvR 0] w (qV (fun w' => w' = recF w)) := by
  refine Mx.intro (by decide) RX8 rfl [some (mvR 0)] (Nat.le_of_ble_eq_true rfl) rfl (fun K hC => ?_)
  refine wm_aload_n hC 0 (pc := 0) dX8_remember_0 rfl rfl ?_
  refine wm_getR hC fl_X8_25_7 rfl rfl (pc := 1) dX8_remember_1 ?_
  refine wm_aload_n hC 0 (pc := 4) dX8_remember_4 rfl rfl ?_
  refine wm_getR hC fl_X8_10_7 rfl rfl (pc := 5) dX8_remember_5 ?_
  refine wm_aload_n hC 0 (pc := 8) dX8_remember_8 rfl rfl ?_
  refine wm_getR hC fl_X8_16_7 rfl rfl (pc := 9) dX8_remember_9 ?_
  refine wm_aload_n hC 0 (pc := 12) dX8_remember_12 rfl rfl ?_
  refine wm_getR hC fl_X8_19_7 rfl rfl (pc := 13) dX8_remember_13 ?_
  refine wm_vV hC cv_X8_251 kc_X0_record rfl rfl (s_X0_record hI.2.1) rfl (by decide) rfl (Nat.le_of_ble_eq_true rfl) (pc := 16) dX8_remember_16 (fun w16 hw16 => ?_)
  refine wm_retV hC (pc := 19) dX8_remember_19 ?_
  exact hw16
theorem CInv.rec {w : mW} (hI : CInv w) {p : Nat} (hp : p < 3) : PlanOK (recF w) (2 * p + 1) := (hI.1 p hp).congr (recF_ne (by omega) (by omega))
theorem PlanOK.arrow {w : mW} {p : Nat} (hk : PlanOK w p) {s k t : Int} (hs : 0 ≤ s ∧ s < 8) (hkk : 0 ≤ k ∧ k < 6) (ht : -1 ≤ t ∧ t < 8) : PlanOK (mup w (p + 1) (s * 7 + 1 + k) t) p := by
  intro s' h1 h2
  have h := hk s' h1 h2
  refine ⟨?_, fun k' h3 h4 => ?_⟩
  · rw [mup_get, if_neg (by omega)]; exact h.1
  · rw [mup_get]
    split
    · exact ht
    · exact h.2 k' h3 h4
theorem PlanOK.kind {w : mW} {p : Nat} (hk : PlanOK w p) {s t : Int} (hs : 0 ≤ s ∧ s < 8) (ht : 0 ≤ t ∧ t < 3) : PlanOK (mup w (p + 1) (s * 7) t) p := by
  intro s' h1 h2
  have h := hk s' h1 h2
  refine ⟨?_, fun k' h3 h4 => ?_⟩
  · rw [mup_get]
    split
    · exact ht
    · exact h.1
  · rw [mup_get, if_neg (by omega)]; exact h.2 k' h3 h4
theorem PlanOK.swap {w : mW} {p : Nat} (hk : PlanOK w p) : PlanOK (pswp w p 56) p := by
  intro s' h1 h2
  have h := hk s' h1 h2
  refine ⟨?_, fun k' h3 h4 => ?_⟩
  · unfold pswp
    rw [if_pos (by omega)]
    unfold swp
    split
    · omega
    · split <;> omega
  · unfold pswp
    rw [if_neg (by omega)]; exact h.2 k' h3 h4
theorem PlanOK.take {w : mW} {p q : Nat} (hk : PlanOK w q) : PlanOK (mcopy w (q + 1) (p + 1) 0 0 56) p := by
  intro s' h1 h2
  have h := hk s' h1 h2
  refine ⟨?_, fun k' h3 h4 => ?_⟩
  · unfold mcopy
    rw [if_pos (by omega), show (0 : Int) + (s' * 7 - 0) = s' * 7 by omega]; exact h.1
  · unfold mcopy
    rw [if_pos (by omega), show (0 : Int) + (s' * 7 + 1 + k' - 0) = s' * 7 + 1 + k' by omega]; exact h.2 k' h3 h4
set_option maxRecDepth 100000 in
set_option maxHeartbeats 4000000 in
theorem s_X8_kind {l : Launch} {G : mG} {w : mW} {a b c : Int} (hI : CInv w) (ha : -2147483648 ≤ a ∧ a < 2147483648) (hb : -2147483648 ≤ b ∧ b < 2147483648) (hc : -2147483648 ≤ c ∧ c < 2147483648) : Mx l G 4 yX8_kind cX8_kind 5 (some .int) [mvR 0, mvI a, mvI b, mvI c] w (qI (fun z w' => (¬ (0 ≤ a ∧ a < 3 ∧ 0 ≤ b ∧ b < 8 ∧ 0 ≤ c ∧ c < 3) ∧ z = -1000001 ∧ w' = w) ∨ ((0 ≤ a ∧ a < 3 ∧ 0 ≤ b ∧ b < 8 ∧ 0 ≤ c ∧ c < 3) ∧ z = w (2 * a.toNat + 2) (b * 7) ∧ w' = mup (recF w) (2 * a.toNat + 2) (b * 7) c))) := by
  refine Mx.intro (by decide) RX8 rfl [some (mvR 0), some (mvI a), some (mvI b), some (mvI c), none] (Nat.le_of_ble_eq_true rfl) rfl (fun K hC => ?_)
  refine wm_iload_n hC 1 (pc := 0) dX8_kind_0 rfl rfl ?_
  refine wm_pS hC cs_X8_66 kc_X8_isPlan (s_X8_isPlan (by omega)) rfl (by decide) rfl (Nat.le_of_ble_eq_true rfl) (pc := 1) dX8_kind_1 ?_
  refine wm_ifd_eq hC 21 (pc := 4) dX8_kind_4 (by decide) (fun h4 => ?_) (fun h4 => ?_)
  · refine wm_ldc hC (-1000001) kI_X8_76 (pc := 21) dX8_kind_21 ?_
    refine wm_iretI hC (pc := 23) dX8_kind_23 ?_
    left
    exact ⟨by omega, rfl, rfl⟩
  · refine wm_iload_n hC 2 (pc := 7) dX8_kind_7 rfl rfl ?_
    refine wm_pS hC cs_X8_70 kc_X8_isState (s_X8_isState (by omega)) rfl (by decide) rfl (Nat.le_of_ble_eq_true rfl) (pc := 8) dX8_kind_8 ?_
    refine wm_ifd_eq hC 21 (pc := 11) dX8_kind_11 (by decide) (fun h11 => ?_) (fun h11 => ?_)
    · refine wm_ldc hC (-1000001) kI_X8_76 (pc := 21) dX8_kind_21 ?_
      refine wm_iretI hC (pc := 23) dX8_kind_23 ?_
      left
      exact ⟨by omega, rfl, rfl⟩
    · refine wm_iload_n hC 3 (pc := 14) dX8_kind_14 rfl rfl ?_
      refine wm_pS hC cs_X8_73 kc_X8_isKind (s_X8_isKind (by omega)) rfl (by decide) rfl (Nat.le_of_ble_eq_true rfl) (pc := 15) dX8_kind_15 ?_
      refine wm_ifd_ne hC 24 (pc := 18) dX8_kind_18 (by decide) (fun h18 => ?_) (fun h18 => ?_)
      · obtain ⟨p, rfl⟩ : ∃ p : Nat, a = (p : Int) := ⟨a.toNat, by omega⟩
        have hp : p < 3 := by omega
        refine wm_aload_n hC 0 (pc := 24) dX8_kind_24 rfl rfl ?_
        refine wm_vV hC cv_X8_77 kc_X8_remember rfl rfl (s_X8_remember hI) rfl (by decide) rfl (Nat.le_of_ble_eq_true rfl) (pc := 25) dX8_kind_25 (fun w25 hw25 => ?_)
        subst hw25
        refine wm_aload_n hC 0 (pc := 28) dX8_kind_28 rfl rfl ?_
        refine wm_iload_n hC 1 (pc := 29) dX8_kind_29 rfl rfl ?_
        refine wm_pV hC cv_X8_80 kc_X8_planAt rfl rfl (s_X8_planAt hp) rfl (by decide) rfl (Nat.le_of_ble_eq_true rfl) (pc := 30) dX8_kind_30 ?_
        refine wm_iload_n hC 2 (pc := 33) dX8_kind_33 rfl rfl ?_
        refine wm_pV hC cv_X8_84 kc_X3_kindOf (planIxP hp).1 rfl (s_X3_kindOf (planIxP hp) (by omega)) rfl (by decide) rfl (Nat.le_of_ble_eq_true rfl) (pc := 34) dX8_kind_34 ?_
        refine wm_istore hC  (pc := 37) dX8_kind_37  (by decide) rfl ?_
        refine wm_aload_n hC 0 (pc := 39) dX8_kind_39 rfl rfl ?_
        refine wm_iload_n hC 1 (pc := 40) dX8_kind_40 rfl rfl ?_
        refine wm_pV hC cv_X8_80 kc_X8_planAt rfl rfl (s_X8_planAt hp) rfl (by decide) rfl (Nat.le_of_ble_eq_true rfl) (pc := 41) dX8_kind_41 ?_
        refine wm_iload_n hC 2 (pc := 44) dX8_kind_44 rfl rfl ?_
        refine wm_iload_n hC 3 (pc := 45) dX8_kind_45 rfl rfl ?_
        refine wm_vV hC cv_X8_88 kc_X3_setKind (planIxP hp).1 rfl (s_X3_setKind (planIxP hp) (by omega)) rfl (by decide) rfl (Nat.le_of_ble_eq_true rfl) (pc := 46) dX8_kind_46 (fun w46 hw46 => ?_)
        subst hw46
        refine wm_iload hC  (pc := 49) dX8_kind_49 rfl ?_
        refine wm_iretI hC (pc := 51) dX8_kind_51 ?_
        right
        exact ⟨by omega, by rw [recF_ne (by omega) (by omega)]; rfl, rfl⟩
      · refine wm_ldc hC (-1000001) kI_X8_76 (pc := 21) dX8_kind_21 ?_
        refine wm_iretI hC (pc := 23) dX8_kind_23 ?_
        left
        exact ⟨by omega, rfl, rfl⟩
set_option maxRecDepth 100000 in
set_option maxHeartbeats 4000000 in
theorem s_X8_arrow {l : Launch} {G : mG} {w : mW} {a b c e : Int} (hI : CInv w) (ha : -2147483648 ≤ a ∧ a < 2147483648) (hb : -2147483648 ≤ b ∧ b < 2147483648) (hc : -2147483648 ≤ c ∧ c < 2147483648) (he : -2147483648 ≤ e ∧ e < 2147483648) : Mx l G 4 yX8_arrow cX8_arrow 5 (some .int) [mvR 0, mvI a, mvI b, mvI c, mvI e] w (qI (fun z w' => (¬ (0 ≤ a ∧ a < 3 ∧ 0 ≤ b ∧ b < 8 ∧ 0 ≤ c ∧ c < 6 ∧ 0 ≤ e ∧ e < 8) ∧ z = -1000001 ∧ w' = w) ∨ ((0 ≤ a ∧ a < 3 ∧ 0 ≤ b ∧ b < 8 ∧ 0 ≤ c ∧ c < 6 ∧ 0 ≤ e ∧ e < 8) ∧ z = ((mpop (wmask (hasW w' (2 * a.toNat + 1) b) 6) : Nat) : Int) ∧ w' = mup (recF w) (2 * a.toNat + 2) (b * 7 + 1 + c) e))) := by
  refine Mx.intro (by decide) RX8 rfl [some (mvR 0), some (mvI a), some (mvI b), some (mvI c), some (mvI e)] (Nat.le_of_ble_eq_true rfl) rfl (fun K hC => ?_)
  refine wm_iload_n hC 1 (pc := 0) dX8_arrow_0 rfl rfl ?_
  refine wm_pS hC cs_X8_66 kc_X8_isPlan (s_X8_isPlan (by omega)) rfl (by decide) rfl (Nat.le_of_ble_eq_true rfl) (pc := 1) dX8_arrow_1 ?_
  refine wm_ifd_eq hC 29 (pc := 4) dX8_arrow_4 (by decide) (fun h4 => ?_) (fun h4 => ?_)
  · refine wm_ldc hC (-1000001) kI_X8_76 (pc := 29) dX8_arrow_29 ?_
    refine wm_iretI hC (pc := 31) dX8_arrow_31 ?_
    left
    exact ⟨by omega, rfl, rfl⟩
  · refine wm_iload_n hC 2 (pc := 7) dX8_arrow_7 rfl rfl ?_
    refine wm_pS hC cs_X8_70 kc_X8_isState (s_X8_isState (by omega)) rfl (by decide) rfl (Nat.le_of_ble_eq_true rfl) (pc := 8) dX8_arrow_8 ?_
    refine wm_ifd_eq hC 29 (pc := 11) dX8_arrow_11 (by decide) (fun h11 => ?_) (fun h11 => ?_)
    · refine wm_ldc hC (-1000001) kI_X8_76 (pc := 29) dX8_arrow_29 ?_
      refine wm_iretI hC (pc := 31) dX8_arrow_31 ?_
      left
      exact ⟨by omega, rfl, rfl⟩
    · refine wm_iload_n hC 3 (pc := 14) dX8_arrow_14 rfl rfl ?_
      refine wm_pS hC cs_X8_92 kc_X8_isWord (s_X8_isWord (by omega)) rfl (by decide) rfl (Nat.le_of_ble_eq_true rfl) (pc := 15) dX8_arrow_15 ?_
      refine wm_ifd_eq hC 29 (pc := 18) dX8_arrow_18 (by decide) (fun h18 => ?_) (fun h18 => ?_)
      · refine wm_ldc hC (-1000001) kI_X8_76 (pc := 29) dX8_arrow_29 ?_
        refine wm_iretI hC (pc := 31) dX8_arrow_31 ?_
        left
        exact ⟨by omega, rfl, rfl⟩
      · refine wm_iload hC  (pc := 21) dX8_arrow_21 rfl ?_
        refine wm_pS hC cs_X8_70 kc_X8_isState (s_X8_isState (by omega)) rfl (by decide) rfl (Nat.le_of_ble_eq_true rfl) (pc := 23) dX8_arrow_23 ?_
        refine wm_ifd_ne hC 32 (pc := 26) dX8_arrow_26 (by decide) (fun h26 => ?_) (fun h26 => ?_)
        · obtain ⟨p, rfl⟩ : ∃ p : Nat, a = (p : Int) := ⟨a.toNat, by omega⟩
          have hp : p < 3 := by omega
          refine wm_aload_n hC 0 (pc := 32) dX8_arrow_32 rfl rfl ?_
          refine wm_vV hC cv_X8_77 kc_X8_remember rfl rfl (s_X8_remember hI) rfl (by decide) rfl (Nat.le_of_ble_eq_true rfl) (pc := 33) dX8_arrow_33 (fun w33 hw33 => ?_)
          subst hw33
          refine wm_aload_n hC 0 (pc := 36) dX8_arrow_36 rfl rfl ?_
          refine wm_iload_n hC 1 (pc := 37) dX8_arrow_37 rfl rfl ?_
          refine wm_pV hC cv_X8_80 kc_X8_planAt rfl rfl (s_X8_planAt hp) rfl (by decide) rfl (Nat.le_of_ble_eq_true rfl) (pc := 38) dX8_arrow_38 ?_
          refine wm_iload_n hC 2 (pc := 41) dX8_arrow_41 rfl rfl ?_
          refine wm_iload_n hC 3 (pc := 42) dX8_arrow_42 rfl rfl ?_
          refine wm_iload hC  (pc := 43) dX8_arrow_43 rfl ?_
          refine wm_vV hC cv_X8_95 kc_X3_setTarget (planIxP hp).1 rfl (s_X3_setTarget (planIxP hp) (by omega) (by omega)) rfl (by decide) rfl (Nat.le_of_ble_eq_true rfl) (pc := 45) dX8_arrow_45 (fun w45 hw45 => ?_)
          subst hw45
          refine wm_aload_n hC 0 (pc := 48) dX8_arrow_48 rfl rfl ?_
          refine wm_iload_n hC 1 (pc := 49) dX8_arrow_49 rfl rfl ?_
          refine wm_pV hC cv_X8_80 kc_X8_planAt rfl rfl (s_X8_planAt hp) rfl (by decide) rfl (Nat.le_of_ble_eq_true rfl) (pc := 50) dX8_arrow_50 ?_
          refine wm_iload_n hC 2 (pc := 53) dX8_arrow_53 rfl rfl ?_
          refine wm_pV hC cv_X8_99 kc_X3_wordsOf (planIxP hp).1 rfl (s_X3_wordsOf (planIxP hp) (by omega) (PlanOK.arrow (hI.rec hp) (by omega) (by omega) (by omega))) rfl (by decide) rfl (Nat.le_of_ble_eq_true rfl) (pc := 54) dX8_arrow_54 ?_
          refine wm_pS hC cs_X8_102 kc_J6_bitCount_0f7a4 (s_J6_bitCount_0f7a4 (Nat.lt_of_lt_of_le (wmask_lt _ 6) (by decide))) rfl (by decide) rfl (Nat.le_of_ble_eq_true rfl) (pc := 57) dX8_arrow_57 ?_
          refine wm_iretI hC (pc := 60) dX8_arrow_60 ?_
          right
          exact ⟨by omega, rfl, rfl⟩
        · refine wm_ldc hC (-1000001) kI_X8_76 (pc := 29) dX8_arrow_29 ?_
          refine wm_iretI hC (pc := 31) dX8_arrow_31 ?_
          left
          exact ⟨by omega, rfl, rfl⟩
set_option maxRecDepth 100000 in
set_option maxHeartbeats 4000000 in
theorem s_X8_erase {l : Launch} {G : mG} {w : mW} {a b c : Int} (hI : CInv w) (ha : -2147483648 ≤ a ∧ a < 2147483648) (hb : -2147483648 ≤ b ∧ b < 2147483648) (hc : -2147483648 ≤ c ∧ c < 2147483648) : Mx l G 4 yX8_erase cX8_erase 5 (some .int) [mvR 0, mvI a, mvI b, mvI c] w (qI (fun z w' => (¬ (0 ≤ a ∧ a < 3 ∧ 0 ≤ b ∧ b < 8 ∧ 0 ≤ c ∧ c < 6) ∧ z = -1000001 ∧ w' = w) ∨ ((0 ≤ a ∧ a < 3 ∧ 0 ≤ b ∧ b < 8 ∧ 0 ≤ c ∧ c < 6) ∧ ((w (2 * a.toNat + 2) (b * 7 + 1 + c) = -1 ∧ z = -1000002 ∧ w' = w) ∨ (¬ w (2 * a.toNat + 2) (b * 7 + 1 + c) = -1 ∧ z = w (2 * a.toNat + 2) (b * 7 + 1 + c) ∧ w' = mup (recF w) (2 * a.toNat + 2) (b * 7 + 1 + c) (-1)))))) := by
  refine Mx.intro (by decide) RX8 rfl [some (mvR 0), some (mvI a), some (mvI b), some (mvI c), none] (Nat.le_of_ble_eq_true rfl) rfl (fun K hC => ?_)
  refine wm_iload_n hC 1 (pc := 0) dX8_erase_0 rfl rfl ?_
  refine wm_pS hC cs_X8_66 kc_X8_isPlan (s_X8_isPlan (by omega)) rfl (by decide) rfl (Nat.le_of_ble_eq_true rfl) (pc := 1) dX8_erase_1 ?_
  refine wm_ifd_eq hC 21 (pc := 4) dX8_erase_4 (by decide) (fun h4 => ?_) (fun h4 => ?_)
  · refine wm_ldc hC (-1000001) kI_X8_76 (pc := 21) dX8_erase_21 ?_
    refine wm_iretI hC (pc := 23) dX8_erase_23 ?_
    left
    exact ⟨by omega, rfl, rfl⟩
  · refine wm_iload_n hC 2 (pc := 7) dX8_erase_7 rfl rfl ?_
    refine wm_pS hC cs_X8_70 kc_X8_isState (s_X8_isState (by omega)) rfl (by decide) rfl (Nat.le_of_ble_eq_true rfl) (pc := 8) dX8_erase_8 ?_
    refine wm_ifd_eq hC 21 (pc := 11) dX8_erase_11 (by decide) (fun h11 => ?_) (fun h11 => ?_)
    · refine wm_ldc hC (-1000001) kI_X8_76 (pc := 21) dX8_erase_21 ?_
      refine wm_iretI hC (pc := 23) dX8_erase_23 ?_
      left
      exact ⟨by omega, rfl, rfl⟩
    · refine wm_iload_n hC 3 (pc := 14) dX8_erase_14 rfl rfl ?_
      refine wm_pS hC cs_X8_92 kc_X8_isWord (s_X8_isWord (by omega)) rfl (by decide) rfl (Nat.le_of_ble_eq_true rfl) (pc := 15) dX8_erase_15 ?_
      refine wm_ifd_ne hC 24 (pc := 18) dX8_erase_18 (by decide) (fun h18 => ?_) (fun h18 => ?_)
      · obtain ⟨p, rfl⟩ : ∃ p : Nat, a = (p : Int) := ⟨a.toNat, by omega⟩
        have hp : p < 3 := by omega
        refine wm_aload_n hC 0 (pc := 24) dX8_erase_24 rfl rfl ?_
        refine wm_iload_n hC 1 (pc := 25) dX8_erase_25 rfl rfl ?_
        refine wm_pV hC cv_X8_80 kc_X8_planAt rfl rfl (s_X8_planAt hp) rfl (by decide) rfl (Nat.le_of_ble_eq_true rfl) (pc := 26) dX8_erase_26 ?_
        refine wm_iload_n hC 2 (pc := 29) dX8_erase_29 rfl rfl ?_
        refine wm_iload_n hC 3 (pc := 30) dX8_erase_30 rfl rfl ?_
        refine wm_pV hC cv_X8_107 kc_X3_targetOf (planIxP hp).1 rfl (s_X3_targetOf (planIxP hp) (by omega) (by omega)) rfl (by decide) rfl (Nat.le_of_ble_eq_true rfl) (pc := 31) dX8_erase_31 ?_
        refine wm_istore hC  (pc := 34) dX8_erase_34  (by decide) rfl ?_
        refine wm_iload hC  (pc := 36) dX8_erase_36 rfl ?_
        refine wm_iconst hC (pc := 38) dX8_erase_38 ?_
        have hb := ((hI.1 p hp) b (by omega) (by omega)).2 c (by omega) (by omega)
        refine wm_icmp_ne hC 45 (pc := 39) dX8_erase_39 (by decide) (by omega) (by omega) (fun h39 => ?_) (fun h39 => ?_)
        · refine wm_aload_n hC 0 (pc := 45) dX8_erase_45 rfl rfl ?_
          refine wm_vV hC cv_X8_77 kc_X8_remember rfl rfl (s_X8_remember hI) rfl (by decide) rfl (Nat.le_of_ble_eq_true rfl) (pc := 46) dX8_erase_46 (fun w46 hw46 => ?_)
          subst hw46
          refine wm_aload_n hC 0 (pc := 49) dX8_erase_49 rfl rfl ?_
          refine wm_iload_n hC 1 (pc := 50) dX8_erase_50 rfl rfl ?_
          refine wm_pV hC cv_X8_80 kc_X8_planAt rfl rfl (s_X8_planAt hp) rfl (by decide) rfl (Nat.le_of_ble_eq_true rfl) (pc := 51) dX8_erase_51 ?_
          refine wm_iload_n hC 2 (pc := 54) dX8_erase_54 rfl rfl ?_
          refine wm_iload_n hC 3 (pc := 55) dX8_erase_55 rfl rfl ?_
          refine wm_iconst hC (pc := 56) dX8_erase_56 ?_
          refine wm_vV hC cv_X8_95 kc_X3_setTarget (planIxP hp).1 rfl (s_X3_setTarget (planIxP hp) (by omega) (by omega)) rfl (by decide) rfl (Nat.le_of_ble_eq_true rfl) (pc := 57) dX8_erase_57 (fun w57 hw57 => ?_)
          subst hw57
          refine wm_iload hC  (pc := 60) dX8_erase_60 rfl ?_
          refine wm_iretI hC (pc := 62) dX8_erase_62 ?_
          right
          exact ⟨by omega, Or.inr ⟨h39, rfl, rfl⟩⟩
        · refine wm_ldc hC (-1000002) kI_X8_111 (pc := 42) dX8_erase_42 ?_
          refine wm_iretI hC (pc := 44) dX8_erase_44 ?_
          right
          exact ⟨by omega, Or.inl ⟨h39, rfl, rfl⟩⟩
      · refine wm_ldc hC (-1000001) kI_X8_76 (pc := 21) dX8_erase_21 ?_
        refine wm_iretI hC (pc := 23) dX8_erase_23 ?_
        left
        exact ⟨by omega, rfl, rfl⟩
set_option maxRecDepth 100000 in
set_option maxHeartbeats 4000000 in
theorem s_X8_copy {l : Launch} {G : mG} {w : mW} {a b : Int} (hI : CInv w) (ha : -2147483648 ≤ a ∧ a < 2147483648) (hb : -2147483648 ≤ b ∧ b < 2147483648) : Mx l G 4 yX8_copy cX8_copy 3 (some .int) [mvR 0, mvI a, mvI b] w (qI (fun z w' => (¬ (0 ≤ a ∧ a < 3 ∧ 0 ≤ b ∧ b < 3 ∧ ¬ a = b) ∧ z = -1000001 ∧ w' = w) ∨ ((0 ≤ a ∧ a < 3 ∧ 0 ≤ b ∧ b < 3 ∧ ¬ a = b) ∧ z = ((cnt (fun s => decide (¬ w' (2 * b.toNat + 2) ((s : Int) * 7) = 0)) 8 : Nat) : Int) ∧ w' = mcopy (recF w) (2 * a.toNat + 2) (2 * b.toNat + 2) 0 0 56))) := by
  refine Mx.intro (by decide) RX8 rfl [some (mvR 0), some (mvI a), some (mvI b)] (Nat.le_of_ble_eq_true rfl) rfl (fun K hC => ?_)
  refine wm_iload_n hC 1 (pc := 0) dX8_copy_0 rfl rfl ?_
  refine wm_pS hC cs_X8_66 kc_X8_isPlan (s_X8_isPlan (by omega)) rfl (by decide) rfl (Nat.le_of_ble_eq_true rfl) (pc := 1) dX8_copy_1 ?_
  refine wm_ifd_eq hC 19 (pc := 4) dX8_copy_4 (by decide) (fun h4 => ?_) (fun h4 => ?_)
  · refine wm_ldc hC (-1000001) kI_X8_76 (pc := 19) dX8_copy_19 ?_
    refine wm_iretI hC (pc := 21) dX8_copy_21 ?_
    left
    exact ⟨by omega, rfl, rfl⟩
  · refine wm_iload_n hC 2 (pc := 7) dX8_copy_7 rfl rfl ?_
    refine wm_pS hC cs_X8_66 kc_X8_isPlan (s_X8_isPlan (by omega)) rfl (by decide) rfl (Nat.le_of_ble_eq_true rfl) (pc := 8) dX8_copy_8 ?_
    refine wm_ifd_eq hC 19 (pc := 11) dX8_copy_11 (by decide) (fun h11 => ?_) (fun h11 => ?_)
    · refine wm_ldc hC (-1000001) kI_X8_76 (pc := 19) dX8_copy_19 ?_
      refine wm_iretI hC (pc := 21) dX8_copy_21 ?_
      left
      exact ⟨by omega, rfl, rfl⟩
    · refine wm_iload_n hC 1 (pc := 14) dX8_copy_14 rfl rfl ?_
      refine wm_iload_n hC 2 (pc := 15) dX8_copy_15 rfl rfl ?_
      refine wm_icmp_ne hC 22 (pc := 16) dX8_copy_16 (by decide) (by omega) (by omega) (fun h16 => ?_) (fun h16 => ?_)
      · obtain ⟨p, rfl⟩ : ∃ p : Nat, a = (p : Int) := ⟨a.toNat, by omega⟩
        have hp : p < 3 := by omega
        obtain ⟨q, rfl⟩ : ∃ q : Nat, b = (q : Int) := ⟨b.toNat, by omega⟩
        have hq : q < 3 := by omega
        refine wm_aload_n hC 0 (pc := 22) dX8_copy_22 rfl rfl ?_
        refine wm_vV hC cv_X8_77 kc_X8_remember rfl rfl (s_X8_remember hI) rfl (by decide) rfl (Nat.le_of_ble_eq_true rfl) (pc := 23) dX8_copy_23 (fun w23 hw23 => ?_)
        subst hw23
        refine wm_aload_n hC 0 (pc := 26) dX8_copy_26 rfl rfl ?_
        refine wm_iload_n hC 2 (pc := 27) dX8_copy_27 rfl rfl ?_
        refine wm_pV hC cv_X8_80 kc_X8_planAt rfl rfl (s_X8_planAt hq) rfl (by decide) rfl (Nat.le_of_ble_eq_true rfl) (pc := 28) dX8_copy_28 ?_
        refine wm_aload_n hC 0 (pc := 31) dX8_copy_31 rfl rfl ?_
        refine wm_iload_n hC 1 (pc := 32) dX8_copy_32 rfl rfl ?_
        refine wm_pV hC cv_X8_80 kc_X8_planAt rfl rfl (s_X8_planAt hp) rfl (by decide) rfl (Nat.le_of_ble_eq_true rfl) (pc := 33) dX8_copy_33 ?_
        refine wm_vV hC cv_X8_112 kc_X3_take (planIxP hq).1 rfl (s_X3_take (planIxP hq) (planIxP hp)) rfl (by decide) rfl (Nat.le_of_ble_eq_true rfl) (pc := 36) dX8_copy_36 (fun w36 hw36 => ?_)
        subst hw36
        refine wm_aload_n hC 0 (pc := 39) dX8_copy_39 rfl rfl ?_
        refine wm_iload_n hC 2 (pc := 40) dX8_copy_40 rfl rfl ?_
        refine wm_pV hC cv_X8_80 kc_X8_planAt rfl rfl (s_X8_planAt hq) rfl (by decide) rfl (Nat.le_of_ble_eq_true rfl) (pc := 41) dX8_copy_41 ?_
        refine wm_pV hC cv_X8_115 kc_X3_lastingStates (planIxP hq).1 rfl (s_X3_lastingStates (planIxP hq) (PlanOK.take (hI.rec hp))) rfl (by decide) rfl (Nat.le_of_ble_eq_true rfl) (pc := 44) dX8_copy_44 ?_
        refine wm_iretI hC (pc := 47) dX8_copy_47 ?_
        right
        exact ⟨by omega, rfl, rfl⟩
      · refine wm_ldc hC (-1000001) kI_X8_76 (pc := 19) dX8_copy_19 ?_
        refine wm_iretI hC (pc := 21) dX8_copy_21 ?_
        left
        exact ⟨by omega, rfl, rfl⟩
set_option maxRecDepth 100000 in
set_option maxHeartbeats 4000000 in
theorem s_X8_mirror {l : Launch} {G : mG} {w : mW} {a : Int} (hI : CInv w) (ha : -2147483648 ≤ a ∧ a < 2147483648) : Mx l G 4 yX8_mirror cX8_mirror 2 (some .int) [mvR 0, mvI a] w (qI (fun z w' => (¬ (0 ≤ a ∧ a < 3) ∧ z = -1000001 ∧ w' = w) ∨ ((0 ≤ a ∧ a < 3) ∧ z = ((cnt (fun s => decide (¬ w' (2 * a.toNat + 2) ((s : Int) * 7) = 0)) 8 : Nat) : Int) ∧ w' = pswp (recF w) (2 * a.toNat + 1) 56))) := by
  refine Mx.intro (by decide) RX8 rfl [some (mvR 0), some (mvI a)] (Nat.le_of_ble_eq_true rfl) rfl (fun K hC => ?_)
  refine wm_iload_n hC 1 (pc := 0) dX8_mirror_0 rfl rfl ?_
  refine wm_pS hC cs_X8_66 kc_X8_isPlan (s_X8_isPlan (by omega)) rfl (by decide) rfl (Nat.le_of_ble_eq_true rfl) (pc := 1) dX8_mirror_1 ?_
  refine wm_ifd_ne hC 10 (pc := 4) dX8_mirror_4 (by decide) (fun h4 => ?_) (fun h4 => ?_)
  · obtain ⟨p, rfl⟩ : ∃ p : Nat, a = (p : Int) := ⟨a.toNat, by omega⟩
    have hp : p < 3 := by omega
    refine wm_aload_n hC 0 (pc := 10) dX8_mirror_10 rfl rfl ?_
    refine wm_vV hC cv_X8_77 kc_X8_remember rfl rfl (s_X8_remember hI) rfl (by decide) rfl (Nat.le_of_ble_eq_true rfl) (pc := 11) dX8_mirror_11 (fun w11 hw11 => ?_)
    subst hw11
    refine wm_aload_n hC 0 (pc := 14) dX8_mirror_14 rfl rfl ?_
    refine wm_iload_n hC 1 (pc := 15) dX8_mirror_15 rfl rfl ?_
    refine wm_pV hC cv_X8_80 kc_X8_planAt rfl rfl (s_X8_planAt hp) rfl (by decide) rfl (Nat.le_of_ble_eq_true rfl) (pc := 16) dX8_mirror_16 ?_
    refine wm_vV hC cv_X8_119 kc_X3_swapSides (planIxP hp).1 rfl (s_X3_swapSides (planIxP hp) (hI.rec hp)) rfl (by decide) rfl (Nat.le_of_ble_eq_true rfl) (pc := 19) dX8_mirror_19 (fun w19 hw19 => ?_)
    subst hw19
    refine wm_aload_n hC 0 (pc := 22) dX8_mirror_22 rfl rfl ?_
    refine wm_iload_n hC 1 (pc := 23) dX8_mirror_23 rfl rfl ?_
    refine wm_pV hC cv_X8_80 kc_X8_planAt rfl rfl (s_X8_planAt hp) rfl (by decide) rfl (Nat.le_of_ble_eq_true rfl) (pc := 24) dX8_mirror_24 ?_
    refine wm_pV hC cv_X8_115 kc_X3_lastingStates (planIxP hp).1 rfl (s_X3_lastingStates (planIxP hp) (PlanOK.swap (hI.rec hp))) rfl (by decide) rfl (Nat.le_of_ble_eq_true rfl) (pc := 27) dX8_mirror_27 ?_
    refine wm_iretI hC (pc := 30) dX8_mirror_30 ?_
    right
    exact ⟨by omega, rfl, rfl⟩
  · refine wm_ldc hC (-1000001) kI_X8_76 (pc := 7) dX8_mirror_7 ?_
    refine wm_iretI hC (pc := 9) dX8_mirror_9 ?_
    left
    exact ⟨by omega, rfl, rfl⟩
set_option maxRecDepth 100000 in
set_option maxHeartbeats 4000000 in
theorem s_X8_undo {l : Launch} {G : mG} {w : mW} (hI : CInv w) : Mx l G 3 yX8_undo cX8_undo 1 (some .int) [mvR 0] w (qI (fun z w' => (w 7 1 = 0 ∧ z = -1000002 ∧ w' = w) ∨ (¬ w 7 1 = 0 ∧ z = w' 7 1 ∧ w' = resF w))) := by
  refine Mx.intro (by decide) RX8 rfl [some (mvR 0)] (Nat.le_of_ble_eq_true rfl) rfl (fun K hC => ?_)
  refine wm_aload_n hC 0 (pc := 0) dX8_undo_0 rfl rfl ?_
  refine wm_getR hC fl_X8_25_7 rfl rfl (pc := 1) dX8_undo_1 ?_
  refine wm_pV hC cv_X8_209 kc_X0_size rfl rfl (s_X0_size) rfl (by decide) rfl (Nat.le_of_ble_eq_true rfl) (pc := 4) dX8_undo_4 ?_
  have hb := hI.2.1
  refine wm_if_ne hC 13 (pc := 7) dX8_undo_7 (by decide) (by omega) (fun h7 => ?_) (fun h7 => ?_)
  · refine wm_aload_n hC 0 (pc := 13) dX8_undo_13 rfl rfl ?_
    refine wm_getR hC fl_X8_25_7 rfl rfl (pc := 14) dX8_undo_14 ?_
    refine wm_aload_n hC 0 (pc := 17) dX8_undo_17 rfl rfl ?_
    refine wm_getR hC fl_X8_10_7 rfl rfl (pc := 18) dX8_undo_18 ?_
    refine wm_aload_n hC 0 (pc := 21) dX8_undo_21 rfl rfl ?_
    refine wm_getR hC fl_X8_16_7 rfl rfl (pc := 22) dX8_undo_22 ?_
    refine wm_aload_n hC 0 (pc := 25) dX8_undo_25 rfl rfl ?_
    refine wm_getR hC fl_X8_19_7 rfl rfl (pc := 26) dX8_undo_26 ?_
    refine wm_vV hC cv_X8_213 kc_X0_restore rfl rfl (s_X0_restore (by omega)) rfl (by decide) rfl (Nat.le_of_ble_eq_true rfl) (pc := 29) dX8_undo_29 (fun w29 hw29 => ?_)
    subst hw29
    refine wm_aload_n hC 0 (pc := 32) dX8_undo_32 rfl rfl ?_
    refine wm_getR hC fl_X8_25_7 rfl rfl (pc := 33) dX8_undo_33 ?_
    refine wm_pV hC cv_X8_209 kc_X0_size rfl rfl (s_X0_size) rfl (by decide) rfl (Nat.le_of_ble_eq_true rfl) (pc := 36) dX8_undo_36 ?_
    refine wm_iretI hC (pc := 39) dX8_undo_39 ?_
    right
    exact ⟨h7, rfl, rfl⟩
  · refine wm_ldc hC (-1000002) kI_X8_111 (pc := 10) dX8_undo_10 ?_
    refine wm_iretI hC (pc := 12) dX8_undo_12 ?_
    left
    exact ⟨h7, rfl, rfl⟩
end
section
/-! which states are alike; what is told of a state -/
def allb (f : Nat → Bool) : Nat → Bool
  | 0 => true
  | n + 1 => allb f n && f n
def alk (w : mW) (a b : Int) : Bool := decide (w 14 (a * 8 + b) = 1)
def AlkOK (w : mW) : Prop := ∀ t : Int, 0 ≤ t → t < 64 → w 14 t = 0 ∨ w 14 t = 1
def lookF (w : mW) (p : Nat) (i j : Int) : Bool := decide (w (p + 1) (i * 7) = w (p + 1) (j * 7)) && (decide (w (p + 1) (i * 7) = 0) || decide (wmask (hasW w p i) 6 = wmask (hasW w p j) 6))
def ldK (w : mW) (p : Nat) (i j : Int) (k : Nat) : Bool := decide (w (p + 1) (i * 7 + 1 + (k : Int)) = -1) || decide (w (p + 1) (j * 7 + 1 + (k : Int)) = -1) || alk w (w (p + 1) (i * 7 + 1 + (k : Int))) (w (p + 1) (j * 7 + 1 + (k : Int)))
def ldF (w : mW) (p : Nat) (i j : Int) : Bool := decide (w (p + 1) (i * 7) = 0) || allb (ldK w p i j) 6
def irow (w : mW) (p : Nat) (i : Nat) : Nat → mW
  | 0 => w
  | n + 1 => mup (irow w p i n) 14 ((i : Int) * 8 + (n : Int)) (mb (lookF w p i n))
def iall (w : mW) (p : Nat) : Nat → mW
  | 0 => w
  | n + 1 => irow (iall w p n) p n 8
def prow (w : mW) (p : Nat) (i : Nat) : Nat → mW
  | 0 => w
  | n + 1 => if ldF (prow w p i n) p i n then prow w p i n else mup (prow w p i n) 14 ((i : Int) * 8 + (n : Int)) 0
def pall (w : mW) (p : Nat) : Nat → mW
  | 0 => w
  | n + 1 => prow (pall w p n) p n 8
def cmpF (w : mW) (p : Nat) : Nat → mW
  | 0 => iall w p 8
  | n + 1 => pall (cmpF w p n) p 8
theorem irow_ne {w : mW} {p i : Nat} {a : Nat} (h : a ≠ 14) : ∀ n, irow w p i n a = w a
  | 0 => rfl
  | n + 1 => by unfold irow; rw [mup_ne h]; exact irow_ne h n
theorem iall_ne {w : mW} {p : Nat} {a : Nat} (h : a ≠ 14) : ∀ n, iall w p n a = w a
  | 0 => rfl
  | n + 1 => by unfold iall; rw [irow_ne h]; exact iall_ne h n
theorem prow_ne {w : mW} {p i : Nat} {a : Nat} (h : a ≠ 14) : ∀ n, prow w p i n a = w a
  | 0 => rfl
  | n + 1 => by
    unfold prow; split
    · exact prow_ne h n
    · rw [mup_ne h]; exact prow_ne h n
theorem pall_ne {w : mW} {p : Nat} {a : Nat} (h : a ≠ 14) : ∀ n, pall w p n a = w a
  | 0 => rfl
  | n + 1 => by unfold pall; rw [prow_ne h]; exact pall_ne h n
theorem cmpF_ne {w : mW} {p : Nat} {a : Nat} (h : a ≠ 14) : ∀ n, cmpF w p n a = w a
  | 0 => iall_ne h 8
  | n + 1 => by unfold cmpF; rw [pall_ne h]; exact cmpF_ne h n
theorem lookF_congr {w u : mW} {p : Nat} (h : u (p + 1) = w (p + 1)) (i j : Int) : lookF u p i j = lookF w p i j := by unfold lookF hasW; rw [h]
theorem mb01 (b : Bool) : mb b = 0 ∨ mb b = 1 := mb_01 b
theorem mup_01 {w : mW} {k v : Int} (hv : v = 0 ∨ v = 1) {t : Int} (h : w 14 t = 0 ∨ w 14 t = 1) : mup w 14 k v 14 t = 0 ∨ mup w 14 k v 14 t = 1 := by
  rw [mup_get]; split
  · exact hv
  · exact h
theorem irow_01 (w : mW) (p i : Nat) : ∀ (n : Nat) (t : Int), ((i : Int) * 8 ≤ t ∧ t < (i : Int) * 8 + n) ∨ (w 14 t = 0 ∨ w 14 t = 1) → irow w p i n 14 t = 0 ∨ irow w p i n 14 t = 1
  | 0, t, h => by rcases h with h | h
                  · omega
                  · exact h
  | n + 1, t, h => by
    unfold irow
    by_cases e : t = (i : Int) * 8 + (n : Int)
    · rw [mup_get, if_pos ⟨rfl, e⟩]; exact mb_01 _
    · rw [mup_get, if_neg (fun q => e q.2)]
      refine irow_01 w p i n t ?_
      rcases h with h | h
      · exact Or.inl (by omega)
      · exact Or.inr h
theorem iall_01 (w : mW) (p : Nat) : ∀ (n : Nat) (t : Int), 0 ≤ t → t < (n : Int) * 8 → iall w p n 14 t = 0 ∨ iall w p n 14 t = 1
  | 0, t, h1, h2 => by omega
  | n + 1, t, h1, h2 => by
    unfold iall
    by_cases e : t < (n : Int) * 8
    · exact irow_01 _ p n 8 t (Or.inr (iall_01 w p n t h1 e))
    · exact irow_01 _ p n 8 t (Or.inl (by omega))
theorem alkOK_prow {w : mW} {p i : Nat} (h : AlkOK w) : ∀ n, AlkOK (prow w p i n)
  | 0 => h
  | n + 1 => by
    unfold prow; split
    · exact alkOK_prow h n
    · exact fun t h1 h2 => mup_01 (Or.inl rfl) (alkOK_prow h n t h1 h2)
theorem alkOK_pall {w : mW} {p : Nat} (h : AlkOK w) : ∀ n, AlkOK (pall w p n)
  | 0 => h
  | n + 1 => alkOK_prow (alkOK_pall h n) 8
theorem alkOK_cmpF (w : mW) (p : Nat) : ∀ n, AlkOK (cmpF w p n)
  | 0 => fun t h1 h2 => iall_01 w p 8 t h1 (by omega)
  | n + 1 => alkOK_pall (alkOK_cmpF w p n) 8
theorem PlanIx.ne14 {p : Nat} (hp : PlanIx p) : p + 1 ≠ 14 := by
  intro h
  have h2 := hp.2
  rw [h] at h2
  cases h2
def lowst (f : Nat → Bool) (d : Nat) : Nat → Nat → Nat
  | 0, _ => d
  | k + 1, j => if f j then j else lowst f d k (j + 1)
theorem lowst_lt (f : Nat → Bool) (d b : Nat) (hd : d < b) : ∀ k j, j + k ≤ b → lowst f d k j < b
  | 0, _, _ => hd
  | k + 1, j, h => by
    unfold lowst; split
    · omega
    · exact lowst_lt f d b hd k (j + 1) (by omega)
/-- the lowest state that is alike, as the class tells it -/
def lowF (w : mW) (p : Nat) (s : Nat) : Nat := lowst (fun j => alk (cmpF w p 7) s j) s 8 0
def unF (r : Nat) (low : Nat → Nat) : Nat → Nat
  | 0 => 0
  | n + 1 => if r.testBit n then unF r low n ||| 2 ^ low n else unF r low n
theorem unF_lt (r : Nat) (low : Nat → Nat) (hl : ∀ n, n < 8 → low n < 8) : ∀ n, n ≤ 8 → unF r low n < 2 ^ 8
  | 0, _ => Nat.two_pow_pos 8
  | n + 1, h => by
    unfold unF; split
    · exact Nat.or_lt_two_pow (unF_lt r low hl n (by omega)) (Nat.pow_lt_pow_right (by decide) (hl n (by omega)))
    · exact unF_lt r low hl n (by omega)
set_option maxRecDepth 100000 in
set_option maxHeartbeats 4000000 in
theorem s_X1_areAlike {l : Launch} {G : mG} {w : mW} {a b : Int} (ha : 0 ≤ a ∧ a < 8) (hb : 0 ≤ b ∧ b < 8) (hA : AlkOK w) : Mx l G 1 yX1_areAlike cX1_areAlike 3 (some .boolean) [mvR 13, mvI a, mvI b] w (qP (mvI (mb (alk w a b))) w) := by
  refine Mx.intro (by decide) RX1 rfl [some (mvR 13), some (mvI a), some (mvI b)] (Nat.le_of_ble_eq_true rfl) rfl (fun K hC => ?_)
  refine wm_iload_n hC 1 (pc := 0) dX1_areAlike_0 rfl rfl ?_
  refine wm_pN hC cn_X1_43 kc_X8_isState (s_X8_isState (by omega)) rfl (by decide) rfl (Nat.le_of_ble_eq_true rfl) (pc := 1) dX1_areAlike_1 ?_
  refine wm_ifd_eq hC 32 (pc := 4) dX1_areAlike_4 (by decide) (fun h4 => ?_) (fun h4 => ?_)
  · omega
  · refine wm_iload_n hC 2 (pc := 7) dX1_areAlike_7 rfl rfl ?_
    refine wm_pN hC cn_X1_43 kc_X8_isState (s_X8_isState (by omega)) rfl (by decide) rfl (Nat.le_of_ble_eq_true rfl) (pc := 8) dX1_areAlike_8 ?_
    refine wm_ifd_eq hC 32 (pc := 11) dX1_areAlike_11 (by decide) (fun h11 => ?_) (fun h11 => ?_)
    · omega
    · refine wm_aload_n hC 0 (pc := 14) dX1_areAlike_14 rfl rfl ?_
      refine wm_getR hC fl_X1_9_1 rfl rfl (pc := 15) dX1_areAlike_15 ?_
      refine wm_iload_n hC 1 (pc := 18) dX1_areAlike_18 rfl rfl ?_
      refine wm_bipush hC (pc := 19) dX1_areAlike_19 (by decide) ?_
      refine wm_imul hC (pc := 21) dX1_areAlike_21 ?_
      refine wm_iload_n hC 2 (pc := 22) dX1_areAlike_22 rfl rfl ?_
      refine wm_iadd hC (pc := 23) dX1_areAlike_23 ?_
      refine wm_baload hC rfl (by omega) (by decide) (pc := 24) dX1_areAlike_24 ?_
      have hq := hA (a * 8 + b) (by omega) (by omega)
      refine wm_if_eq hC 32 (pc := 25) dX1_areAlike_25 (by decide) (by omega) (fun h25 => ?_) (fun h25 => ?_)
      · have e : alk w a b = false := decide_eq_false (by omega)
        refine wm_iconst hC (pc := 32) dX1_areAlike_32 ?_
        refine wm_zretP hC (pc := 33) dX1_areAlike_33 ?_ rfl
        rw [e]; rfl
      · have e : alk w a b = true := decide_eq_true (by omega)
        refine wm_iconst hC (pc := 28) dX1_areAlike_28 ?_
        refine wm_goto hC 33 (pc := 29) dX1_areAlike_29 (by decide) ?_
        refine wm_zretP hC (pc := 33) dX1_areAlike_33 ?_ rfl
        rw [e]; rfl
set_option maxRecDepth 100000 in
set_option maxHeartbeats 4000000 in
theorem s_X1_looksAlike {l : Launch} {G : mG} {w : mW} {p : Nat} (hp : PlanIx p) {i j : Nat} (hi : i < 8) (hj : j < 8) (hk : PlanOK w p) : Mx l G 3 yX1_looksAlike cX1_looksAlike 4 (some .boolean) [mvR p, mvI (i : Int), mvI (j : Int)] w (qP (mvI (mb (lookF w p i j))) w) := by
  refine Mx.intro (by decide) RX1 rfl [some (mvR p), some (mvI (i : Int)), some (mvI (j : Int)), none] (Nat.le_of_ble_eq_true rfl) rfl (fun K hC => ?_)
  refine wm_aload_n hC 0 (pc := 0) dX1_looksAlike_0 rfl rfl ?_
  refine wm_iload_n hC 1 (pc := 1) dX1_looksAlike_1 rfl rfl ?_
  refine wm_pV hC cv_X1_26 kc_X3_kindOf hp.1 rfl (s_X3_kindOf hp (by omega)) rfl (by decide) rfl (Nat.le_of_ble_eq_true rfl) (pc := 2) dX1_looksAlike_2 ?_
  refine wm_istore_n hC 3 (pc := 5) dX1_looksAlike_5 rfl (by decide) rfl ?_
  refine wm_iload_n hC 3 (pc := 6) dX1_looksAlike_6 rfl rfl ?_
  refine wm_aload_n hC 0 (pc := 7) dX1_looksAlike_7 rfl rfl ?_
  refine wm_iload_n hC 2 (pc := 8) dX1_looksAlike_8 rfl rfl ?_
  refine wm_pV hC cv_X1_26 kc_X3_kindOf hp.1 rfl (s_X3_kindOf hp (by omega)) rfl (by decide) rfl (Nat.le_of_ble_eq_true rfl) (pc := 9) dX1_looksAlike_9 ?_
  refine wm_icmp_ne hC 36 (pc := 12) dX1_looksAlike_12 (by decide) (by have := (hk i (by omega) (by omega)).1; omega) (by have := (hk j (by omega) (by omega)).1; omega) (fun h12 => ?_) (fun h12 => ?_)
  · have e : lookF w p i j = false := by unfold lookF; rw [decide_eq_false h12]; rfl
    refine wm_iconst hC (pc := 36) dX1_looksAlike_36 ?_
    refine wm_zretP hC (pc := 37) dX1_looksAlike_37 ?_ rfl
    rw [e]; rfl
  · refine wm_iload_n hC 3 (pc := 15) dX1_looksAlike_15 rfl rfl ?_
    refine wm_if_eq hC 32 (pc := 16) dX1_looksAlike_16 (by decide) (by have := (hk i (by omega) (by omega)).1; omega) (fun h16 => ?_) (fun h16 => ?_)
    · have e : lookF w p i j = true := by unfold lookF; rw [decide_eq_true h12, decide_eq_true h16]; rfl
      refine wm_iconst hC (pc := 32) dX1_looksAlike_32 ?_
      refine wm_goto hC 37 (pc := 33) dX1_looksAlike_33 (by decide) ?_
      refine wm_zretP hC (pc := 37) dX1_looksAlike_37 ?_ rfl
      rw [e]; rfl
    · refine wm_aload_n hC 0 (pc := 19) dX1_looksAlike_19 rfl rfl ?_
      refine wm_iload_n hC 1 (pc := 20) dX1_looksAlike_20 rfl rfl ?_
      refine wm_pV hC cv_X1_32 kc_X3_wordsOf hp.1 rfl (s_X3_wordsOf hp (by omega) hk) rfl (by decide) rfl (Nat.le_of_ble_eq_true rfl) (pc := 21) dX1_looksAlike_21 ?_
      refine wm_aload_n hC 0 (pc := 24) dX1_looksAlike_24 rfl rfl ?_
      refine wm_iload_n hC 2 (pc := 25) dX1_looksAlike_25 rfl rfl ?_
      refine wm_pV hC cv_X1_32 kc_X3_wordsOf hp.1 rfl (s_X3_wordsOf hp (by omega) hk) rfl (by decide) rfl (Nat.le_of_ble_eq_true rfl) (pc := 26) dX1_looksAlike_26 ?_
      refine wm_icmp_ne hC 36 (pc := 29) dX1_looksAlike_29 (by decide) (by have := wmask_lt (hasW w p i) 6; omega) (by have := wmask_lt (hasW w p j) 6; omega) (fun h29 => ?_) (fun h29 => ?_)
      · have e : lookF w p i j = false := by unfold lookF; rw [decide_eq_true h12, decide_eq_false h16, decide_eq_false (by omega)]; rfl
        refine wm_iconst hC (pc := 36) dX1_looksAlike_36 ?_
        refine wm_zretP hC (pc := 37) dX1_looksAlike_37 ?_ rfl
        rw [e]; rfl
      · have e : lookF w p i j = true := by unfold lookF; rw [decide_eq_true h12, decide_eq_false h16, decide_eq_true (by omega)]; rfl
        refine wm_iconst hC (pc := 32) dX1_looksAlike_32 ?_
        refine wm_goto hC 37 (pc := 33) dX1_looksAlike_33 (by decide) ?_
        refine wm_zretP hC (pc := 37) dX1_looksAlike_37 ?_ rfl
        rw [e]; rfl
set_option maxRecDepth 100000 in
set_option maxHeartbeats 4000000 in
theorem s_X1_leadsAlike {l : Launch} {G : mG} {w : mW} {p : Nat} (hp : PlanIx p) {i j : Nat} (hi : i < 8) (hj : j < 8) (hk : PlanOK w p) (hA : AlkOK w) : Mx l G 2 yX1_leadsAlike cX1_leadsAlike 7 (some .boolean) [mvR 13, mvR p, mvI (i : Int), mvI (j : Int)] w (qP (mvI (mb (ldF w p i j))) w) := by
  refine Mx.intro (by decide) RX1 rfl [some (mvR 13), some (mvR p), some (mvI (i : Int)), some (mvI (j : Int)), none, none, none] (Nat.le_of_ble_eq_true rfl) rfl (fun K hC => ?_)
  refine wm_aload_n hC 1 (pc := 0) dX1_leadsAlike_0 rfl rfl ?_
  refine wm_iload_n hC 2 (pc := 1) dX1_leadsAlike_1 rfl rfl ?_
  refine wm_pV hC cv_X1_26 kc_X3_kindOf hp.1 rfl (s_X3_kindOf hp (by omega)) rfl (by decide) rfl (Nat.le_of_ble_eq_true rfl) (pc := 2) dX1_leadsAlike_2 ?_
  refine wm_if_ne hC 10 (pc := 5) dX1_leadsAlike_5 (by decide) (by have := (hk i (by omega) (by omega)).1; omega) (fun h5 => ?_) (fun h5 => ?_)
  · have e0 : ldF w p i j = allb (ldK w p i j) 6 := by unfold ldF; rw [decide_eq_false h5]; rfl
    refine wm_iconst hC (pc := 10) dX1_leadsAlike_10 ?_
    refine wm_istore hC  (pc := 11) dX1_leadsAlike_11  (by decide) rfl ?_
    have lp13 : ∀ (n : Nat) (k : Nat) (o1 o2 : Option mV) (ho : mok [none, none, none, none, none, o1, o2] 5 = true ∧ mok [none, none, none, none, none, some (mvI 0), o2] 6 = true ∧ mok [none, none, none, none, none, o1, o2] 6 = true), n = 6 - k → k ≤ 6 → allb (ldK w p i j) k = true → Wm l G K 2 7 (qP (mvI (mb (ldF w p i j))) w) 13 [some (mvR 13), some (mvR p), some (mvI (i : Int)), some (mvI (j : Int)), some (mvI (k : Int)), o1, o2] [] w := by
      intro n
      induction n using Nat.strongRecOn with
      | _ n ih =>
      intro k o1 o2 ho hn hk6 hall
      refine wm_iload hC  (pc := 13) dX1_leadsAlike_13 rfl ?_
      refine wm_bipush hC (pc := 15) dX1_leadsAlike_15 (by decide) ?_
      refine wm_icmp_ge hC 69 (pc := 17) dX1_leadsAlike_17 (by decide) (by omega) (by omega) (fun h17 => ?_) (fun h17 => ?_)
      · refine wm_iconst hC (pc := 69) dX1_leadsAlike_69 ?_
        refine wm_zretP hC (pc := 70) dX1_leadsAlike_70 ?_ rfl
        have : k = 6 := by omega
        rw [this] at hall
        rw [e0, hall]; rfl
      · refine wm_aload_n hC 1 (pc := 20) dX1_leadsAlike_20 rfl rfl ?_
        refine wm_iload_n hC 2 (pc := 21) dX1_leadsAlike_21 rfl rfl ?_
        refine wm_iload hC  (pc := 22) dX1_leadsAlike_22 rfl ?_
        refine wm_pV hC cv_X1_35 kc_X3_targetOf hp.1 rfl (s_X3_targetOf hp (by omega) (by omega)) rfl (by decide) rfl (Nat.le_of_ble_eq_true rfl) (pc := 24) dX1_leadsAlike_24 ?_
        refine wm_istore hC  (pc := 27) dX1_leadsAlike_27  (by decide) rfl ?_
        refine wm_aload_n hC 1 (pc := 29) dX1_leadsAlike_29 rfl rfl ?_
        refine wm_iload_n hC 3 (pc := 30) dX1_leadsAlike_30 rfl rfl ?_
        refine wm_iload hC  (pc := 31) dX1_leadsAlike_31 rfl ?_
        refine wm_pV hC cv_X1_35 kc_X3_targetOf hp.1 rfl (s_X3_targetOf hp (by omega) (by omega)) rfl (by decide) rfl (Nat.le_of_ble_eq_true rfl) (pc := 33) dX1_leadsAlike_33 ?_
        refine wm_istore hC  (pc := 36) dX1_leadsAlike_36  (by decide) rfl ?_
        refine wm_iload hC  (pc := 38) dX1_leadsAlike_38 rfl ?_
        refine wm_iconst hC (pc := 40) dX1_leadsAlike_40 ?_
        have hb1 := (hk i (by omega) (by omega)).2 k (by omega) (by omega)
        have hb2 := (hk j (by omega) (by omega)).2 k (by omega) (by omega)
        refine wm_icmp_eq hC 63 (pc := 41) dX1_leadsAlike_41 (by decide) (by omega) (by omega) (fun h41 => ?_) (fun h41 => ?_)
        · have e : ldK w p i j k = true := by simp [ldK, h41]
          refine wm_iinc hC (pc := 63) dX1_leadsAlike_63 rfl rfl (by decide) rfl ?_
          refine wm_goto hC 13 (pc := 66) dX1_leadsAlike_66 (by decide) ?_
          exact ih _ (by omega) (k + 1) _ _ ⟨rfl, rfl, rfl⟩ rfl (by omega) (by simp [allb, hall, e])
        · refine wm_iload hC  (pc := 44) dX1_leadsAlike_44 rfl ?_
          refine wm_iconst hC (pc := 46) dX1_leadsAlike_46 ?_
          refine wm_icmp_eq hC 63 (pc := 47) dX1_leadsAlike_47 (by decide) (by omega) (by omega) (fun h47 => ?_) (fun h47 => ?_)
          · have e : ldK w p i j k = true := by simp [ldK, h47]
            refine wm_iinc hC (pc := 63) dX1_leadsAlike_63 rfl rfl (by decide) rfl ?_
            refine wm_goto hC 13 (pc := 66) dX1_leadsAlike_66 (by decide) ?_
            exact ih _ (by omega) (k + 1) _ _ ⟨rfl, rfl, rfl⟩ rfl (by omega) (by simp [allb, hall, e])
          · refine wm_aload_n hC 0 (pc := 50) dX1_leadsAlike_50 rfl rfl ?_
            refine wm_iload hC  (pc := 51) dX1_leadsAlike_51 rfl ?_
            refine wm_iload hC  (pc := 53) dX1_leadsAlike_53 rfl ?_
            refine wm_pV hC cv_X1_39 kc_X1_areAlike rfl rfl (s_X1_areAlike (by omega) (by omega) hA) rfl (by decide) rfl (Nat.le_of_ble_eq_true rfl) (pc := 55) dX1_leadsAlike_55 ?_
            refine wm_ifb_ne hC 63 (pc := 58) dX1_leadsAlike_58 (by decide) (fun h58 => ?_) (fun h58 => ?_)
            · have e : ldK w p i j k = true := by simp [ldK, h58]
              refine wm_iinc hC (pc := 63) dX1_leadsAlike_63 rfl rfl (by decide) rfl ?_
              refine wm_goto hC 13 (pc := 66) dX1_leadsAlike_66 (by decide) ?_
              exact ih _ (by omega) (k + 1) _ _ ⟨rfl, rfl, rfl⟩ rfl (by omega) (by simp [allb, hall, e])
            · have e : ldK w p i j k = false := by simp [ldK, h58, h41, h47]
              refine wm_iconst hC (pc := 61) dX1_leadsAlike_61 ?_
              refine wm_zretP hC (pc := 62) dX1_leadsAlike_62 ?_ rfl
              have e1 : allb (ldK w p i j) 6 = false := by
                have : ∀ m, k < m → allb (ldK w p i j) m = false := by
                  intro m
                  induction m with
                  | zero => intro h; omega
                  | succ m ihm =>
                    intro h
                    by_cases hkm : k = m
                    · subst hkm; simp [allb, e]
                    · simp [allb, ihm (by omega)]
                exact this 6 (by omega)
              rw [e0, e1]; rfl
    exact lp13 _ 0 none none ⟨rfl, rfl, rfl⟩ rfl (by omega) rfl
  · have e0 : ldF w p i j = true := by unfold ldF; rw [decide_eq_true h5]; rfl
    refine wm_iconst hC (pc := 8) dX1_leadsAlike_8 ?_
    refine wm_zretP hC (pc := 9) dX1_leadsAlike_9 ?_ rfl
    rw [e0]; rfl
set_option maxRecDepth 100000 in
set_option maxHeartbeats 4000000 in
theorem s_X1_lowestAlike {l : Launch} {G : mG} {w : mW} {s : Nat} (hs : s < 8) (hA : AlkOK w) : Mx l G 2 yX1_lowestAlike cX1_lowestAlike 3 (some .int) [mvR 13, mvI (s : Int)] w (qP (mvI ((lowst (fun j => alk w s j) s 8 0 : Nat) : Int)) w) := by
  refine Mx.intro (by decide) RX1 rfl [some (mvR 13), some (mvI (s : Int)), none] (Nat.le_of_ble_eq_true rfl) rfl (fun K hC => ?_)
  refine wm_iconst hC (pc := 0) dX1_lowestAlike_0 ?_
  refine wm_istore_n hC 2 (pc := 1) dX1_lowestAlike_1 rfl (by decide) rfl ?_
  have lp2 : ∀ (n : Nat) (j : Nat), n = 8 - j → j ≤ 8 → lowst (fun j => alk w s j) s 8 0 = lowst (fun j => alk w s j) s (8 - j) j → Wm l G K 2 3 (qP (mvI ((lowst (fun j => alk w s j) s 8 0 : Nat) : Int)) w) 2 [some (mvR 13), some (mvI (s : Int)), some (mvI (j : Int))] [] w := by
    intro n
    induction n using Nat.strongRecOn with
    | _ n ih =>
    intro j hn hj he
    refine wm_iload_n hC 2 (pc := 2) dX1_lowestAlike_2 rfl rfl ?_
    refine wm_bipush hC (pc := 3) dX1_lowestAlike_3 (by decide) ?_
    refine wm_icmp_ge hC 25 (pc := 5) dX1_lowestAlike_5 (by decide) (by omega) (by omega) (fun h5 => ?_) (fun h5 => ?_)
    · refine wm_iload_n hC 1 (pc := 25) dX1_lowestAlike_25 rfl rfl ?_
      refine wm_iretP hC (pc := 26) dX1_lowestAlike_26 ?_ rfl
      have : j = 8 := by omega
      subst this
      rw [he]; rfl
    · refine wm_aload_n hC 0 (pc := 8) dX1_lowestAlike_8 rfl rfl ?_
      refine wm_iload_n hC 1 (pc := 9) dX1_lowestAlike_9 rfl rfl ?_
      refine wm_iload_n hC 2 (pc := 10) dX1_lowestAlike_10 rfl rfl ?_
      refine wm_pV hC cv_X1_39 kc_X1_areAlike rfl rfl (s_X1_areAlike (by omega) (by omega) hA) rfl (by decide) rfl (Nat.le_of_ble_eq_true rfl) (pc := 11) dX1_lowestAlike_11 ?_
      refine wm_ifb_eq hC 19 (pc := 14) dX1_lowestAlike_14 (by decide) (fun h14 => ?_) (fun h14 => ?_)
      · refine wm_iinc hC (pc := 19) dX1_lowestAlike_19 rfl rfl (by decide) rfl ?_
        refine wm_goto hC 2 (pc := 22) dX1_lowestAlike_22 (by decide) ?_
        exact ih _ (by omega) (j + 1) rfl (by omega) (by rw [he, show 8 - j = (8 - (j + 1)) + 1 by omega]; simp [lowst, h14])
      · refine wm_iload_n hC 2 (pc := 17) dX1_lowestAlike_17 rfl rfl ?_
        refine wm_iretP hC (pc := 18) dX1_lowestAlike_18 ?_ rfl
        rw [he, show 8 - j = (8 - (j + 1)) + 1 by omega]; simp [lowst, h14]
  exact lp2 _ 0 rfl (by omega) rfl
set_option maxRecDepth 100000 in
set_option maxHeartbeats 4000000 in
theorem s_X1_part {l : Launch} {G : mG} {w : mW} {p : Nat} (hp : PlanIx p) (hk : PlanOK w p) (hA : AlkOK w) : Mx l G 3 yX1_part cX1_part 4 none [mvR 13, mvR p] w (qV (fun w' => w' = pall w p 8)) := by
  refine Mx.intro (by decide) RX1 rfl [some (mvR 13), some (mvR p), none, none] (Nat.le_of_ble_eq_true rfl) rfl (fun K hC => ?_)
  refine wm_iconst hC (pc := 0) dX1_part_0 ?_
  refine wm_istore_n hC 2 (pc := 1) dX1_part_1 rfl (by decide) rfl ?_
  have lp2 : ∀ (n : Nat) (i : Nat) (o : Option mV), n = 8 - i → i ≤ 8 → Wm l G K 3 4 (qV (fun w' => w' = pall w p 8)) 2 [some (mvR 13), some (mvR p), some (mvI (i : Int)), o] [] (pall w p i) := by
    intro n
    induction n using Nat.strongRecOn with
    | _ n ih =>
    intro i o hn hi
    refine wm_iload_n hC 2 (pc := 2) dX1_part_2 rfl rfl ?_
    refine wm_bipush hC (pc := 3) dX1_part_3 (by decide) ?_
    refine wm_icmp_ge hC 50 (pc := 5) dX1_part_5 (by decide) (by omega) (by omega) (fun h5 => ?_) (fun h5 => ?_)
    · refine wm_retV hC (pc := 50) dX1_part_50 ?_
      obtain rfl : i = 8 := by omega
      rfl
    · refine wm_iconst hC (pc := 8) dX1_part_8 ?_
      refine wm_istore_n hC 3 (pc := 9) dX1_part_9 rfl (by decide) rfl ?_
      have lp10 : ∀ (n : Nat) (j : Nat), n = 8 - j → j ≤ 8 → Wm l G K 3 4 (qV (fun w' => w' = pall w p 8)) 10 [some (mvR 13), some (mvR p), some (mvI (i : Int)), some (mvI (j : Int))] [] (prow (pall w p i) p i j) := by
        intro n
        induction n using Nat.strongRecOn with
        | _ n ih =>
        intro j hm hj
        rename_i n0 ih0
        refine wm_iload_n hC 3 (pc := 10) dX1_part_10 rfl rfl ?_
        refine wm_bipush hC (pc := 11) dX1_part_11 (by decide) ?_
        refine wm_icmp_ge hC 44 (pc := 13) dX1_part_13 (by decide) (by omega) (by omega) (fun h13 => ?_) (fun h13 => ?_)
        · refine wm_iinc hC (pc := 44) dX1_part_44 rfl rfl (by decide) rfl ?_
          refine wm_goto hC 2 (pc := 47) dX1_part_47 (by decide) ?_
          obtain rfl : j = 8 := by omega
          exact ih0 _ (by omega) (i + 1) _ rfl (by omega)
        · refine wm_aload_n hC 0 (pc := 16) dX1_part_16 rfl rfl ?_
          refine wm_aload_n hC 1 (pc := 17) dX1_part_17 rfl rfl ?_
          refine wm_iload_n hC 2 (pc := 18) dX1_part_18 rfl rfl ?_
          refine wm_iload_n hC 3 (pc := 19) dX1_part_19 rfl rfl ?_
          refine wm_pV hC cv_X1_23 kc_X1_leadsAlike rfl rfl (s_X1_leadsAlike hp (by omega) (by omega) (hk.congr (prow_ne hp.ne14 _ |>.trans (pall_ne hp.ne14 _))) (alkOK_prow (alkOK_pall hA _) _)) rfl (by decide) rfl (Nat.le_of_ble_eq_true rfl) (pc := 20) dX1_part_20 ?_
          refine wm_ifb_ne hC 38 (pc := 23) dX1_part_23 (by decide) (fun h23 => ?_) (fun h23 => ?_)
          · have e : prow (pall w p i) p i (j + 1) = prow (pall w p i) p i j := by simp [prow, h23]
            refine wm_iinc hC (pc := 38) dX1_part_38 rfl rfl (by decide) rfl ?_
            refine wm_goto hC 10 (pc := 41) dX1_part_41 (by decide) ?_
            have hh := ih _ (by omega) (j + 1) rfl (by omega)
            rw [e] at hh
            exact hh
          · have e : prow (pall w p i) p i (j + 1) = mup (prow (pall w p i) p i j) 14 ((i : Int) * 8 + (j : Int)) 0 := by simp [prow, h23]
            refine wm_aload_n hC 0 (pc := 26) dX1_part_26 rfl rfl ?_
            refine wm_getR hC fl_X1_9_1 rfl rfl (pc := 27) dX1_part_27 ?_
            refine wm_iload_n hC 2 (pc := 30) dX1_part_30 rfl rfl ?_
            refine wm_bipush hC (pc := 31) dX1_part_31 (by decide) ?_
            refine wm_imul hC (pc := 33) dX1_part_33 ?_
            refine wm_iload_n hC 3 (pc := 34) dX1_part_34 rfl rfl ?_
            refine wm_iadd hC (pc := 35) dX1_part_35 ?_
            refine wm_iconst hC (pc := 36) dX1_part_36 ?_
            refine wm_bastore hC rfl (by omega) (by decide) (Or.inl rfl) (pc := 37) dX1_part_37 ?_
            refine wm_iinc hC (pc := 38) dX1_part_38 rfl rfl (by decide) rfl ?_
            refine wm_goto hC 10 (pc := 41) dX1_part_41 (by decide) ?_
            have hh := ih _ (by omega) (j + 1) rfl (by omega)
            rw [e] at hh
            exact hh
      exact lp10 _ 0 rfl (by omega)
  exact lp2 _ 0 none rfl (by omega)
set_option maxRecDepth 100000 in
set_option maxHeartbeats 4000000 in
theorem s_X1_compare {l : Launch} {G : mG} {w : mW} {p : Nat} (hp : PlanIx p) (hk : PlanOK w p) : Mx l G 4 yX1_compare cX1_compare 4 none [mvR 13, mvR p] w (qV (fun w' => w' = cmpF w p 7)) := by
  refine Mx.intro (by decide) RX1 rfl [some (mvR 13), some (mvR p), none, none] (Nat.le_of_ble_eq_true rfl) rfl (fun K hC => ?_)
  refine wm_iconst hC (pc := 0) dX1_compare_0 ?_
  refine wm_istore_n hC 2 (pc := 1) dX1_compare_1 rfl (by decide) rfl ?_
  have lp2 : ∀ (n : Nat) (i : Nat) (o : Option mV), n = 8 - i → i ≤ 8 → Wm l G K 4 4 (qV (fun w' => w' = cmpF w p 7)) 2 [some (mvR 13), some (mvR p), some (mvI (i : Int)), o] [] (iall w p i) := by
    intro n
    induction n using Nat.strongRecOn with
    | _ n ih =>
    intro i o hn hi
    refine wm_iload_n hC 2 (pc := 2) dX1_compare_2 rfl rfl ?_
    refine wm_bipush hC (pc := 3) dX1_compare_3 (by decide) ?_
    refine wm_icmp_ge hC 45 (pc := 5) dX1_compare_5 (by decide) (by omega) (by omega) (fun h5 => ?_) (fun h5 => ?_)
    · refine wm_iconst hC (pc := 45) dX1_compare_45 ?_
      refine wm_istore_n hC 2 (pc := 46) dX1_compare_46 rfl (by decide) rfl ?_
      have lp47 : ∀ (n : Nat) (r : Nat) (o : Option mV), n = 7 - r → r ≤ 7 → Wm l G K 4 4 (qV (fun w' => w' = cmpF w p 7)) 47 [some (mvR 13), some (mvR p), some (mvI ((r + 1 : Nat) : Int)), o] [] (cmpF w p r) := by
        intro n
        induction n using Nat.strongRecOn with
        | _ n ih =>
        intro r o hn hr
        refine wm_iload_n hC 2 (pc := 47) dX1_compare_47 rfl rfl ?_
        refine wm_bipush hC (pc := 48) dX1_compare_48 (by decide) ?_
        refine wm_icmp_ge hC 64 (pc := 50) dX1_compare_50 (by decide) (by omega) (by omega) (fun h50 => ?_) (fun h50 => ?_)
        · refine wm_retV hC (pc := 64) dX1_compare_64 ?_
          obtain rfl : r = 7 := by omega
          rfl
        · refine wm_aload_n hC 0 (pc := 53) dX1_compare_53 rfl rfl ?_
          refine wm_aload_n hC 1 (pc := 54) dX1_compare_54 rfl rfl ?_
          refine wm_vV hC cv_X1_19 kc_X1_part rfl rfl (s_X1_part hp (hk.congr (cmpF_ne hp.ne14 _)) (alkOK_cmpF _ _ _)) rfl (by decide) rfl (Nat.le_of_ble_eq_true rfl) (pc := 55) dX1_compare_55 (fun w55 hw55 => ?_)
          subst hw55
          refine wm_iinc hC (pc := 58) dX1_compare_58 rfl rfl (by decide) rfl ?_
          refine wm_goto hC 47 (pc := 61) dX1_compare_61 (by decide) ?_
          exact ih _ (by omega) (r + 1) _ rfl (by omega)
      obtain rfl : i = 8 := by omega
      exact lp47 _ 0 _ rfl (by omega)
    · refine wm_iconst hC (pc := 8) dX1_compare_8 ?_
      refine wm_istore_n hC 3 (pc := 9) dX1_compare_9 rfl (by decide) rfl ?_
      have lp10 : ∀ (n : Nat) (j : Nat), n = 8 - j → j ≤ 8 → Wm l G K 4 4 (qV (fun w' => w' = cmpF w p 7)) 10 [some (mvR 13), some (mvR p), some (mvI (i : Int)), some (mvI (j : Int))] [] (irow (iall w p i) p i j) := by
        intro n
        induction n using Nat.strongRecOn with
        | _ n ih =>
        intro j hm hj
        rename_i n0 ih0
        refine wm_iload_n hC 3 (pc := 10) dX1_compare_10 rfl rfl ?_
        refine wm_bipush hC (pc := 11) dX1_compare_11 (by decide) ?_
        refine wm_icmp_ge hC 39 (pc := 13) dX1_compare_13 (by decide) (by omega) (by omega) (fun h13 => ?_) (fun h13 => ?_)
        · refine wm_iinc hC (pc := 39) dX1_compare_39 rfl rfl (by decide) rfl ?_
          refine wm_goto hC 2 (pc := 42) dX1_compare_42 (by decide) ?_
          obtain rfl : j = 8 := by omega
          exact ih0 _ (by omega) (i + 1) _ rfl (by omega)
        · refine wm_aload_n hC 0 (pc := 16) dX1_compare_16 rfl rfl ?_
          refine wm_getR hC fl_X1_9_1 rfl rfl (pc := 17) dX1_compare_17 ?_
          refine wm_iload_n hC 2 (pc := 20) dX1_compare_20 rfl rfl ?_
          refine wm_bipush hC (pc := 21) dX1_compare_21 (by decide) ?_
          refine wm_imul hC (pc := 23) dX1_compare_23 ?_
          refine wm_iload_n hC 3 (pc := 24) dX1_compare_24 rfl rfl ?_
          refine wm_iadd hC (pc := 25) dX1_compare_25 ?_
          refine wm_aload_n hC 1 (pc := 26) dX1_compare_26 rfl rfl ?_
          refine wm_iload_n hC 2 (pc := 27) dX1_compare_27 rfl rfl ?_
          refine wm_iload_n hC 3 (pc := 28) dX1_compare_28 rfl rfl ?_
          refine wm_pS hC cs_X1_15 kc_X1_looksAlike (s_X1_looksAlike hp (by omega) (by omega) (hk.congr (irow_ne hp.ne14 _ |>.trans (iall_ne hp.ne14 _)))) rfl (by decide) rfl (Nat.le_of_ble_eq_true rfl) (pc := 29) dX1_compare_29 ?_
          refine wm_bastore hC rfl (by omega) (by decide) (mb_01 _) (pc := 32) dX1_compare_32 ?_
          refine wm_iinc hC (pc := 33) dX1_compare_33 rfl rfl (by decide) rfl ?_
          refine wm_goto hC 10 (pc := 36) dX1_compare_36 (by decide) ?_
          have e : irow (iall w p i) p i (j + 1) = mup (irow (iall w p i) p i j) 14 ((i : Int) * 8 + (j : Int)) (mb (lookF (irow (iall w p i) p i j) p i j)) := by
            rw [lookF_congr (irow_ne hp.ne14 _)]; rfl
          have hh := ih _ (by omega) (j + 1) rfl (by omega)
          rw [e] at hh
          exact hh
      exact lp10 _ 0 rfl (by omega)
  exact lp2 _ 0 none rfl (by omega)
/-- what is told of a state -/
def stF (w : mW) (p : Nat) (s : Nat) (c : Int) : Int :=
  if c = 0 then w (p + 1) ((s : Int) * 7) else if c = 1 then ((wmask (hasW w p s) 6 : Nat) : Int) else if c = 2 then ((lowF w p s : Nat) : Int) else if c = 3 then ((comesF w p s : Nat) : Int)
  else if w (p + 1) ((s : Int) * 7 + 1 + (c - 10)) = -1 then -1000004 else w (p + 1) ((s : Int) * 7 + 1 + (c - 10))
set_option maxRecDepth 100000 in
set_option maxHeartbeats 4000000 in
theorem s_X8_stateOf {l : Launch} {G : mG} {w : mW} {a b c : Int} (hI : CInv w) (ha : -2147483648 ≤ a ∧ a < 2147483648) (hb : -2147483648 ≤ b ∧ b < 2147483648) (hc : -2147483648 ≤ c ∧ c < 2147483648) : Mx l G 5 yX8_stateOf cX8_stateOf 6 (some .int) [mvR 0, mvI a, mvI b, mvI c] w (qI (fun z w' => (¬ (0 ≤ a ∧ a < 3 ∧ 0 ≤ b ∧ b < 8 ∧ ((0 ≤ c ∧ c ≤ 3) ∨ (10 ≤ c ∧ c < 16))) ∧ z = -1000001 ∧ w' = w) ∨ ((0 ≤ a ∧ a < 3 ∧ 0 ≤ b ∧ b < 8 ∧ ((0 ≤ c ∧ c ≤ 3) ∨ (10 ≤ c ∧ c < 16))) ∧ z = stF w (2 * a.toNat + 1) b.toNat c ∧ ∀ i : Nat, i ≠ 14 → w' i = w i))) := by
  refine Mx.intro (by decide) RX8 rfl [some (mvR 0), some (mvI a), some (mvI b), some (mvI c), none, none] (Nat.le_of_ble_eq_true rfl) rfl (fun K hC => ?_)
  have j50 : ∀ (x : Int), (0 ≤ a ∧ a < 3 ∧ 0 ≤ b ∧ b < 8 ∧ ((0 ≤ c ∧ c ≤ 3) ∨ (10 ≤ c ∧ c < 16))) → Wm l G K 5 6 (qI (fun z w' => (¬ (0 ≤ a ∧ a < 3 ∧ 0 ≤ b ∧ b < 8 ∧ ((0 ≤ c ∧ c ≤ 3) ∨ (10 ≤ c ∧ c < 16))) ∧ z = -1000001 ∧ w' = w) ∨ ((0 ≤ a ∧ a < 3 ∧ 0 ≤ b ∧ b < 8 ∧ ((0 ≤ c ∧ c ≤ 3) ∨ (10 ≤ c ∧ c < 16))) ∧ z = stF w (2 * a.toNat + 1) b.toNat c ∧ ∀ i : Nat, i ≠ 14 → w' i = w i))) 50 [some (mvR 0), some (mvI a), some (mvI b), some (mvI c), some (mvI x), none] [] w := by
    intro x hv
    have ho : True := trivial
    obtain ⟨p, rfl⟩ : ∃ p : Nat, a = (p : Int) := ⟨a.toNat, by omega⟩
    have hp : p < 3 := by omega
    obtain ⟨s, rfl⟩ : ∃ s : Nat, b = (s : Int) := ⟨b.toNat, by omega⟩
    refine wm_aload_n hC 0 (pc := 50) dX8_stateOf_50 rfl rfl ?_
    refine wm_iload_n hC 1 (pc := 51) dX8_stateOf_51 rfl rfl ?_
    refine wm_pV hC cv_X8_80 kc_X8_planAt rfl rfl (s_X8_planAt hp) rfl (by decide) rfl (Nat.le_of_ble_eq_true rfl) (pc := 52) dX8_stateOf_52 ?_
    refine wm_astore hC  (pc := 55) dX8_stateOf_55  (by decide) rfl ?_
    refine wm_iload_n hC 3 (pc := 57) dX8_stateOf_57 rfl rfl ?_
    by_cases sw58_0 : c = 0
    · refine wm_tableIn hC 88 (0) (pc := 58) dX8_stateOf_58 sw58_0 (by decide) rfl (by decide) ?_
      refine wm_aload hC  (pc := 88) dX8_stateOf_88 rfl ?_
      refine wm_iload_n hC 2 (pc := 90) dX8_stateOf_90 rfl rfl ?_
      refine wm_pV hC cv_X8_84 kc_X3_kindOf (planIxP hp).1 rfl (s_X3_kindOf (planIxP hp) (by omega)) rfl (by decide) rfl (Nat.le_of_ble_eq_true rfl) (pc := 91) dX8_stateOf_91 ?_
      refine wm_iretI hC (pc := 94) dX8_stateOf_94 ?_
      right
      exact ⟨hv, by subst sw58_0; rfl, fun i _ => rfl⟩
    by_cases sw58_1 : c = 1
    · refine wm_tableIn hC 95 (1) (pc := 58) dX8_stateOf_58 sw58_1 (by decide) rfl (by decide) ?_
      refine wm_aload hC  (pc := 95) dX8_stateOf_95 rfl ?_
      refine wm_iload_n hC 2 (pc := 97) dX8_stateOf_97 rfl rfl ?_
      refine wm_pV hC cv_X8_99 kc_X3_wordsOf (planIxP hp).1 rfl (s_X3_wordsOf (planIxP hp) (by omega) (hI.1 p hp)) rfl (by decide) rfl (Nat.le_of_ble_eq_true rfl) (pc := 98) dX8_stateOf_98 ?_
      refine wm_iretI hC (pc := 101) dX8_stateOf_101 ?_
      right
      exact ⟨hv, by subst sw58_1; rfl, fun i _ => rfl⟩
    by_cases sw58_2 : c = 2
    · refine wm_tableIn hC 102 (2) (pc := 58) dX8_stateOf_58 sw58_2 (by decide) rfl (by decide) ?_
      refine wm_aload_n hC 0 (pc := 102) dX8_stateOf_102 rfl rfl ?_
      refine wm_getR hC fl_X8_39_7 rfl rfl (pc := 103) dX8_stateOf_103 ?_
      refine wm_aload hC  (pc := 106) dX8_stateOf_106 rfl ?_
      refine wm_vV hC cv_X8_122 kc_X1_compare rfl rfl (s_X1_compare (planIxP hp) (hI.1 p hp)) rfl (by decide) rfl (Nat.le_of_ble_eq_true rfl) (pc := 108) dX8_stateOf_108 (fun w108 hw108 => ?_)
      subst hw108
      refine wm_aload_n hC 0 (pc := 111) dX8_stateOf_111 rfl rfl ?_
      refine wm_getR hC fl_X8_39_7 rfl rfl (pc := 112) dX8_stateOf_112 ?_
      refine wm_iload_n hC 2 (pc := 115) dX8_stateOf_115 rfl rfl ?_
      refine wm_pV hC cv_X8_125 kc_X1_lowestAlike rfl rfl (s_X1_lowestAlike (by omega) (alkOK_cmpF _ _ _)) rfl (by decide) rfl (Nat.le_of_ble_eq_true rfl) (pc := 116) dX8_stateOf_116 ?_
      refine wm_iretI hC (pc := 119) dX8_stateOf_119 ?_
      right
      exact ⟨hv, by subst sw58_2; rfl, fun i h => cmpF_ne h 7⟩
    by_cases sw58_3 : c = 3
    · refine wm_tableIn hC 120 (3) (pc := 58) dX8_stateOf_58 sw58_3 (by decide) rfl (by decide) ?_
      refine wm_aload hC  (pc := 120) dX8_stateOf_120 rfl ?_
      refine wm_iload_n hC 2 (pc := 122) dX8_stateOf_122 rfl rfl ?_
      refine wm_pV hC cv_X8_128 kc_X3_comesTo (planIxP hp).1 rfl (s_X3_comesTo (planIxP hp) (by omega) (hI.1 p hp)) rfl (by decide) rfl (Nat.le_of_ble_eq_true rfl) (pc := 123) dX8_stateOf_123 ?_
      refine wm_iretI hC (pc := 126) dX8_stateOf_126 ?_
      right
      exact ⟨hv, by subst sw58_3; rfl, fun i _ => rfl⟩
    refine wm_tableOut hC 127 (pc := 58) dX8_stateOf_58 (by decide) (by omega) (by omega) ?_
    refine wm_aload hC  (pc := 127) dX8_stateOf_127 rfl ?_
    refine wm_iload_n hC 2 (pc := 129) dX8_stateOf_129 rfl rfl ?_
    refine wm_iload_n hC 3 (pc := 130) dX8_stateOf_130 rfl rfl ?_
    refine wm_bipush hC (pc := 131) dX8_stateOf_131 (by decide) ?_
    refine wm_isub hC (pc := 133) dX8_stateOf_133 ?_
    refine wm_pV hC cv_X8_107 kc_X3_targetOf (planIxP hp).1 rfl (s_X3_targetOf (planIxP hp) (by omega) (by omega)) rfl (by decide) rfl (Nat.le_of_ble_eq_true rfl) (pc := 134) dX8_stateOf_134 ?_
    refine wm_pS hC cs_X8_131 kc_X8_foundOr (s_X8_foundOr (by have := (hI.1 p hp s (by omega) (by omega)).2 (c - 10) (by omega) (by omega); omega)) rfl (by decide) rfl (Nat.le_of_ble_eq_true rfl) (pc := 137) dX8_stateOf_137 ?_
    refine wm_iretI hC (pc := 140) dX8_stateOf_140 ?_
    right
    exact ⟨hv, by simp only [stF, sw58_0, sw58_1, sw58_2, sw58_3, if_false]; rfl, fun i _ => rfl⟩
  refine wm_iload_n hC 3 (pc := 0) dX8_stateOf_0 rfl rfl ?_
  refine wm_bipush hC (pc := 1) dX8_stateOf_1 (by decide) ?_
  refine wm_icmp_lt hC 16 (pc := 3) dX8_stateOf_3 (by decide) (by omega) (by omega) (fun h3 => ?_) (fun h3 => ?_)
  · refine wm_iconst hC (pc := 16) dX8_stateOf_16 ?_
    refine wm_istore hC  (pc := 17) dX8_stateOf_17  (by decide) rfl ?_
    refine wm_iload_n hC 1 (pc := 19) dX8_stateOf_19 rfl rfl ?_
    refine wm_pS hC cs_X8_66 kc_X8_isPlan (s_X8_isPlan (by omega)) rfl (by decide) rfl (Nat.le_of_ble_eq_true rfl) (pc := 20) dX8_stateOf_20 ?_
    refine wm_ifd_eq hC 47 (pc := 23) dX8_stateOf_23 (by decide) (fun h23 => ?_) (fun h23 => ?_)
    · refine wm_ldc hC (-1000001) kI_X8_76 (pc := 47) dX8_stateOf_47 ?_
      refine wm_iretI hC (pc := 49) dX8_stateOf_49 ?_
      left
      exact ⟨by omega, rfl, rfl⟩
    · refine wm_iload_n hC 2 (pc := 26) dX8_stateOf_26 rfl rfl ?_
      refine wm_pS hC cs_X8_70 kc_X8_isState (s_X8_isState (by omega)) rfl (by decide) rfl (Nat.le_of_ble_eq_true rfl) (pc := 27) dX8_stateOf_27 ?_
      refine wm_ifd_eq hC 47 (pc := 30) dX8_stateOf_30 (by decide) (fun h30 => ?_) (fun h30 => ?_)
      · refine wm_ldc hC (-1000001) kI_X8_76 (pc := 47) dX8_stateOf_47 ?_
        refine wm_iretI hC (pc := 49) dX8_stateOf_49 ?_
        left
        exact ⟨by omega, rfl, rfl⟩
      · refine wm_iload hC  (pc := 33) dX8_stateOf_33 rfl ?_
        refine wm_if_ne hC 50 (pc := 35) dX8_stateOf_35 (by decide) (by omega) (fun h35 => ?_) (fun h35 => ?_)
        · exact j50 _ (by omega)
        · refine wm_iload_n hC 3 (pc := 38) dX8_stateOf_38 rfl rfl ?_
          refine wm_if_lt hC 47 (pc := 39) dX8_stateOf_39 (by decide) (by omega) (fun h39 => ?_) (fun h39 => ?_)
          · refine wm_ldc hC (-1000001) kI_X8_76 (pc := 47) dX8_stateOf_47 ?_
            refine wm_iretI hC (pc := 49) dX8_stateOf_49 ?_
            left
            exact ⟨by omega, rfl, rfl⟩
          · refine wm_iload_n hC 3 (pc := 42) dX8_stateOf_42 rfl rfl ?_
            refine wm_iconst hC (pc := 43) dX8_stateOf_43 ?_
            refine wm_icmp_le hC 50 (pc := 44) dX8_stateOf_44 (by decide) (by omega) (by omega) (fun h44 => ?_) (fun h44 => ?_)
            · exact j50 _ (by omega)
            · refine wm_ldc hC (-1000001) kI_X8_76 (pc := 47) dX8_stateOf_47 ?_
              refine wm_iretI hC (pc := 49) dX8_stateOf_49 ?_
              left
              exact ⟨by omega, rfl, rfl⟩
  · refine wm_iload_n hC 3 (pc := 6) dX8_stateOf_6 rfl rfl ?_
    refine wm_bipush hC (pc := 7) dX8_stateOf_7 (by decide) ?_
    refine wm_icmp_ge hC 16 (pc := 9) dX8_stateOf_9 (by decide) (by omega) (by omega) (fun h9 => ?_) (fun h9 => ?_)
    · refine wm_iconst hC (pc := 16) dX8_stateOf_16 ?_
      refine wm_istore hC  (pc := 17) dX8_stateOf_17  (by decide) rfl ?_
      refine wm_iload_n hC 1 (pc := 19) dX8_stateOf_19 rfl rfl ?_
      refine wm_pS hC cs_X8_66 kc_X8_isPlan (s_X8_isPlan (by omega)) rfl (by decide) rfl (Nat.le_of_ble_eq_true rfl) (pc := 20) dX8_stateOf_20 ?_
      refine wm_ifd_eq hC 47 (pc := 23) dX8_stateOf_23 (by decide) (fun h23 => ?_) (fun h23 => ?_)
      · refine wm_ldc hC (-1000001) kI_X8_76 (pc := 47) dX8_stateOf_47 ?_
        refine wm_iretI hC (pc := 49) dX8_stateOf_49 ?_
        left
        exact ⟨by omega, rfl, rfl⟩
      · refine wm_iload_n hC 2 (pc := 26) dX8_stateOf_26 rfl rfl ?_
        refine wm_pS hC cs_X8_70 kc_X8_isState (s_X8_isState (by omega)) rfl (by decide) rfl (Nat.le_of_ble_eq_true rfl) (pc := 27) dX8_stateOf_27 ?_
        refine wm_ifd_eq hC 47 (pc := 30) dX8_stateOf_30 (by decide) (fun h30 => ?_) (fun h30 => ?_)
        · refine wm_ldc hC (-1000001) kI_X8_76 (pc := 47) dX8_stateOf_47 ?_
          refine wm_iretI hC (pc := 49) dX8_stateOf_49 ?_
          left
          exact ⟨by omega, rfl, rfl⟩
        · refine wm_iload hC  (pc := 33) dX8_stateOf_33 rfl ?_
          refine wm_if_ne hC 50 (pc := 35) dX8_stateOf_35 (by decide) (by omega) (fun h35 => ?_) (fun h35 => ?_)
          · exact j50 _ (by omega)
          · refine wm_iload_n hC 3 (pc := 38) dX8_stateOf_38 rfl rfl ?_
            refine wm_if_lt hC 47 (pc := 39) dX8_stateOf_39 (by decide) (by omega) (fun h39 => ?_) (fun h39 => ?_)
            · refine wm_ldc hC (-1000001) kI_X8_76 (pc := 47) dX8_stateOf_47 ?_
              refine wm_iretI hC (pc := 49) dX8_stateOf_49 ?_
              left
              exact ⟨by omega, rfl, rfl⟩
            · refine wm_iload_n hC 3 (pc := 42) dX8_stateOf_42 rfl rfl ?_
              refine wm_iconst hC (pc := 43) dX8_stateOf_43 ?_
              refine wm_icmp_le hC 50 (pc := 44) dX8_stateOf_44 (by decide) (by omega) (by omega) (fun h44 => ?_) (fun h44 => ?_)
              · exact j50 _ (by omega)
              · refine wm_ldc hC (-1000001) kI_X8_76 (pc := 47) dX8_stateOf_47 ?_
                refine wm_iretI hC (pc := 49) dX8_stateOf_49 ?_
                left
                exact ⟨by omega, rfl, rfl⟩
    · refine wm_iconst hC (pc := 12) dX8_stateOf_12 ?_
      refine wm_goto hC 17 (pc := 13) dX8_stateOf_13 (by decide) ?_
      refine wm_istore hC  (pc := 17) dX8_stateOf_17  (by decide) rfl ?_
      refine wm_iload_n hC 1 (pc := 19) dX8_stateOf_19 rfl rfl ?_
      refine wm_pS hC cs_X8_66 kc_X8_isPlan (s_X8_isPlan (by omega)) rfl (by decide) rfl (Nat.le_of_ble_eq_true rfl) (pc := 20) dX8_stateOf_20 ?_
      refine wm_ifd_eq hC 47 (pc := 23) dX8_stateOf_23 (by decide) (fun h23 => ?_) (fun h23 => ?_)
      · refine wm_ldc hC (-1000001) kI_X8_76 (pc := 47) dX8_stateOf_47 ?_
        refine wm_iretI hC (pc := 49) dX8_stateOf_49 ?_
        left
        exact ⟨by omega, rfl, rfl⟩
      · refine wm_iload_n hC 2 (pc := 26) dX8_stateOf_26 rfl rfl ?_
        refine wm_pS hC cs_X8_70 kc_X8_isState (s_X8_isState (by omega)) rfl (by decide) rfl (Nat.le_of_ble_eq_true rfl) (pc := 27) dX8_stateOf_27 ?_
        refine wm_ifd_eq hC 47 (pc := 30) dX8_stateOf_30 (by decide) (fun h30 => ?_) (fun h30 => ?_)
        · refine wm_ldc hC (-1000001) kI_X8_76 (pc := 47) dX8_stateOf_47 ?_
          refine wm_iretI hC (pc := 49) dX8_stateOf_49 ?_
          left
          exact ⟨by omega, rfl, rfl⟩
        · refine wm_iload hC  (pc := 33) dX8_stateOf_33 rfl ?_
          refine wm_if_ne hC 50 (pc := 35) dX8_stateOf_35 (by decide) (by omega) (fun h35 => ?_) (fun h35 => ?_)
          · exact j50 _ (by omega)
          · refine wm_iload_n hC 3 (pc := 38) dX8_stateOf_38 rfl rfl ?_
            refine wm_if_lt hC 47 (pc := 39) dX8_stateOf_39 (by decide) (by omega) (fun h39 => ?_) (fun h39 => ?_)
            · refine wm_ldc hC (-1000001) kI_X8_76 (pc := 47) dX8_stateOf_47 ?_
              refine wm_iretI hC (pc := 49) dX8_stateOf_49 ?_
              left
              exact ⟨by omega, rfl, rfl⟩
            · refine wm_iload_n hC 3 (pc := 42) dX8_stateOf_42 rfl rfl ?_
              refine wm_iconst hC (pc := 43) dX8_stateOf_43 ?_
              refine wm_icmp_le hC 50 (pc := 44) dX8_stateOf_44 (by decide) (by omega) (by omega) (fun h44 => ?_) (fun h44 => ?_)
              · exact j50 _ (by omega)
              · refine wm_ldc hC (-1000001) kI_X8_76 (pc := 47) dX8_stateOf_47 ?_
                refine wm_iretI hC (pc := 49) dX8_stateOf_49 ?_
                left
                exact ⟨by omega, rfl, rfl⟩
set_option maxRecDepth 100000 in
set_option maxHeartbeats 4000000 in
theorem s_X8_unlike {l : Launch} {G : mG} {w : mW} {a : Int} (hI : CInv w) (ha : -2147483648 ≤ a ∧ a < 2147483648) : Mx l G 5 yX8_unlike cX8_unlike 5 (some .int) [mvR 0, mvI a] w (qI (fun z w' => (¬ (0 ≤ a ∧ a < 3) ∧ z = -1000001 ∧ w' = w) ∨ ((0 ≤ a ∧ a < 3) ∧ z = ((mpop (unF (comesF w (2 * a.toNat + 1) 0) (lowF w (2 * a.toNat + 1)) 8) : Nat) : Int) ∧ ∀ i : Nat, i ≠ 14 → w' i = w i))) := by
  refine Mx.intro (by decide) RX8 rfl [some (mvR 0), some (mvI a), none, none, none] (Nat.le_of_ble_eq_true rfl) rfl (fun K hC => ?_)
  refine wm_iload_n hC 1 (pc := 0) dX8_unlike_0 rfl rfl ?_
  refine wm_pS hC cs_X8_66 kc_X8_isPlan (s_X8_isPlan (by omega)) rfl (by decide) rfl (Nat.le_of_ble_eq_true rfl) (pc := 1) dX8_unlike_1 ?_
  refine wm_ifd_ne hC 10 (pc := 4) dX8_unlike_4 (by decide) (fun h4 => ?_) (fun h4 => ?_)
  · obtain ⟨p, rfl⟩ : ∃ p : Nat, a = (p : Int) := ⟨a.toNat, by omega⟩
    have hp : p < 3 := by omega
    refine wm_aload_n hC 0 (pc := 10) dX8_unlike_10 rfl rfl ?_
    refine wm_iload_n hC 1 (pc := 11) dX8_unlike_11 rfl rfl ?_
    refine wm_pV hC cv_X8_80 kc_X8_planAt rfl rfl (s_X8_planAt hp) rfl (by decide) rfl (Nat.le_of_ble_eq_true rfl) (pc := 12) dX8_unlike_12 ?_
    refine wm_iconst hC (pc := 15) dX8_unlike_15 ?_
    refine wm_pV hC cv_X8_128 kc_X3_comesTo (planIxP hp).1 rfl (s_X3_comesTo (s := 0) (planIxP hp) (by decide) (hI.1 p hp)) rfl (by decide) rfl (Nat.le_of_ble_eq_true rfl) (pc := 16) dX8_unlike_16 ?_
    refine wm_istore_n hC 2 (pc := 19) dX8_unlike_19 rfl (by decide) rfl ?_
    refine wm_aload_n hC 0 (pc := 20) dX8_unlike_20 rfl rfl ?_
    refine wm_getR hC fl_X8_39_7 rfl rfl (pc := 21) dX8_unlike_21 ?_
    refine wm_aload_n hC 0 (pc := 24) dX8_unlike_24 rfl rfl ?_
    refine wm_iload_n hC 1 (pc := 25) dX8_unlike_25 rfl rfl ?_
    refine wm_pV hC cv_X8_80 kc_X8_planAt rfl rfl (s_X8_planAt hp) rfl (by decide) rfl (Nat.le_of_ble_eq_true rfl) (pc := 26) dX8_unlike_26 ?_
    refine wm_vV hC cv_X8_122 kc_X1_compare rfl rfl (s_X1_compare (planIxP hp) (hI.1 p hp)) rfl (by decide) rfl (Nat.le_of_ble_eq_true rfl) (pc := 29) dX8_unlike_29 (fun w29 hw29 => ?_)
    subst hw29
    refine wm_iconst hC (pc := 32) dX8_unlike_32 ?_
    refine wm_istore_n hC 3 (pc := 33) dX8_unlike_33 rfl (by decide) rfl ?_
    refine wm_iconst hC (pc := 34) dX8_unlike_34 ?_
    refine wm_istore hC  (pc := 35) dX8_unlike_35  (by decide) rfl ?_
    have lp37 : ∀ (n : Nat) (j : Nat), n = 8 - j → j ≤ 8 → Wm l G K 5 5 (qI (fun z w' => (¬ (0 ≤ (p : Int) ∧ (p : Int) < 3) ∧ z = -1000001 ∧ w' = w) ∨ ((0 ≤ (p : Int) ∧ (p : Int) < 3) ∧ z = ((mpop (unF (comesF w (2 * (p : Int).toNat + 1) 0) (lowF w (2 * (p : Int).toNat + 1)) 8) : Nat) : Int) ∧ ∀ i : Nat, i ≠ 14 → w' i = w i))) 37 [some (mvR 0), some (mvI (p : Int)), some (mvI ((comesF w (2 * p + 1) 0 : Nat) : Int)), some (mvI ((unF (comesF w (2 * p + 1) 0) (lowF w (2 * p + 1)) j : Nat) : Int)), some (mvI (j : Int))] [] (cmpF w (2 * p + 1) 7) := by
      intro n
      induction n using Nat.strongRecOn with
      | _ n ih =>
      intro j hn hj
      refine wm_iload hC  (pc := 37) dX8_unlike_37 rfl ?_
      refine wm_bipush hC (pc := 39) dX8_unlike_39 (by decide) ?_
      refine wm_icmp_ge hC 73 (pc := 41) dX8_unlike_41 (by decide) (by omega) (by omega) (fun h41 => ?_) (fun h41 => ?_)
      · refine wm_iload_n hC 3 (pc := 73) dX8_unlike_73 rfl rfl ?_
        refine wm_pS hC cs_X8_102 kc_J6_bitCount_0f7a4 (s_J6_bitCount_0f7a4 (unF_lt (comesF w (2 * p + 1) 0) (lowF w (2 * p + 1)) (fun n hn => lowst_lt _ n 8 hn 8 0 (by omega)) j hj)) rfl (by decide) rfl (Nat.le_of_ble_eq_true rfl) (pc := 74) dX8_unlike_74 ?_
        refine wm_iretI hC (pc := 77) dX8_unlike_77 ?_
        right
        obtain rfl : j = 8 := by omega
        exact ⟨by omega, rfl, fun i h => cmpF_ne h 7⟩
      · refine wm_iload_n hC 2 (pc := 44) dX8_unlike_44 rfl rfl ?_
        refine wm_iload hC  (pc := 45) dX8_unlike_45 rfl ?_
        refine wm_pS hC cs_X8_134 kc_X8_holds (s_X8_holds (by have := comesF_lt (hI.1 p hp) (s := 0) (by omega); omega) (by omega)) rfl (by decide) rfl (Nat.le_of_ble_eq_true rfl) (pc := 47) dX8_unlike_47 ?_
        refine wm_ifb_eq hC 67 (pc := 50) dX8_unlike_50 (by decide) (fun h50 => ?_) (fun h50 => ?_)
        · have e : unF (comesF w (2 * p + 1) 0) (lowF w (2 * p + 1)) (j + 1) = unF (comesF w (2 * p + 1) 0) (lowF w (2 * p + 1)) j := by simp [unF, h50]
          refine wm_iinc hC (pc := 67) dX8_unlike_67 rfl rfl (by decide) rfl ?_
          refine wm_goto hC 37 (pc := 70) dX8_unlike_70 (by decide) ?_
          have hh := ih _ (by omega) (j + 1) rfl (by omega)
          rw [e] at hh
          exact hh
        · have e : unF (comesF w (2 * p + 1) 0) (lowF w (2 * p + 1)) (j + 1) = unF (comesF w (2 * p + 1) 0) (lowF w (2 * p + 1)) j ||| 2 ^ lowF w (2 * p + 1) j := by simp [unF, h50]
          refine wm_iload_n hC 3 (pc := 53) dX8_unlike_53 rfl rfl ?_
          refine wm_iconst hC (pc := 54) dX8_unlike_54 ?_
          refine wm_aload_n hC 0 (pc := 55) dX8_unlike_55 rfl rfl ?_
          refine wm_getR hC fl_X8_39_7 rfl rfl (pc := 56) dX8_unlike_56 ?_
          refine wm_iload hC  (pc := 59) dX8_unlike_59 rfl ?_
          refine wm_pV hC cv_X8_125 kc_X1_lowestAlike rfl rfl (s_X1_lowestAlike (by omega) (alkOK_cmpF _ _ _)) rfl (by decide) rfl (Nat.le_of_ble_eq_true rfl) (pc := 61) dX8_unlike_61 ?_
          refine wm_ishl1 hC _ (pc := 64) dX8_unlike_64 rfl (by have : lowF w (2 * p + 1) j < 8 := lowst_lt _ _ 8 (by omega) 8 0 (by omega); exact Nat.lt_of_lt_of_le this (by decide)) ?_
          refine wm_ior hC _ _ (pc := 65) dX8_unlike_65 rfl rfl ?_
          refine wm_istore_n hC 3 (pc := 66) dX8_unlike_66 rfl (by decide) rfl ?_
          refine wm_iinc hC (pc := 67) dX8_unlike_67 rfl rfl (by decide) rfl ?_
          refine wm_goto hC 37 (pc := 70) dX8_unlike_70 (by decide) ?_
          have hh := ih _ (by omega) (j + 1) rfl (by omega)
          rw [e] at hh
          exact hh
    exact lp37 _ 0 rfl (by omega)
  · refine wm_ldc hC (-1000001) kI_X8_76 (pc := 7) dX8_unlike_7 ?_
    refine wm_iretI hC (pc := 9) dX8_unlike_9 ?_
    left
    exact ⟨by omega, rfl, rfl⟩
end
