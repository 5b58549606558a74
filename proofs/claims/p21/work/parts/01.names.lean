-- ===== PART A: goes FIRST, ahead of the names: the tables' words, and 'selects' of the private methods out of them =====
/-- a private method of a class that the tables say can be made, by its rows of tables_1 -/
def lw_okq (q : MethodName × Nat) : Prop := (q.1.cls ≠ "java/lang/invoke/MethodHandle" ∧ q.1.cls ≠ "java/lang/invoke/VarHandle") ∧ Cond.instantiable q.1.cls q.2 ∈ tables_1 ∧ Cond.privateMethod q.1 ∈ tables_1 ∧ Cond.instanceMethod q.1 ∈ tables_1
theorem lw_p0 : lw_okq (⟨"MirroredTalks", "remember", "()V"⟩, 9) := ⟨⟨by decide +kernel, by decide +kernel⟩, List.mem_of_getElem? (i := 15) (by decide +kernel), List.mem_of_getElem? (i := 215) (by decide +kernel), List.mem_of_getElem? (i := 216) (by decide +kernel)⟩
theorem lw_p1 : lw_okq (⟨"MirroredTalks", "planAt", "(I)LMirroredTalks$Plan;"⟩, 9) := ⟨⟨by decide +kernel, by decide +kernel⟩, List.mem_of_getElem? (i := 15) (by decide +kernel), List.mem_of_getElem? (i := 231) (by decide +kernel), List.mem_of_getElem? (i := 232) (by decide +kernel)⟩
theorem lw_p2 : lw_okq (⟨"MirroredTalks$Likeness", "part", "(LMirroredTalks$Plan;)V"⟩, 1) := ⟨⟨by decide +kernel, by decide +kernel⟩, List.mem_of_getElem? (i := 95) (by decide +kernel), List.mem_of_getElem? (i := 300) (by decide +kernel), List.mem_of_getElem? (i := 301) (by decide +kernel)⟩
theorem lw_p3 : lw_okq (⟨"MirroredTalks$Likeness", "leadsAlike", "(LMirroredTalks$Plan;II)Z"⟩, 1) := ⟨⟨by decide +kernel, by decide +kernel⟩, List.mem_of_getElem? (i := 95) (by decide +kernel), List.mem_of_getElem? (i := 304) (by decide +kernel), List.mem_of_getElem? (i := 305) (by decide +kernel)⟩
theorem lw_p4 : lw_okq (⟨"MirroredTalks$Likeness", "areAlike", "(II)Z"⟩, 1) := ⟨⟨by decide +kernel, by decide +kernel⟩, List.mem_of_getElem? (i := 95) (by decide +kernel), List.mem_of_getElem? (i := 309) (by decide +kernel), List.mem_of_getElem? (i := 310) (by decide +kernel)⟩
theorem lw_p5 : lw_okq (⟨"MirroredTalks$Plan", "statesBehind", "(I)I"⟩, 1) := ⟨⟨by decide +kernel, by decide +kernel⟩, List.mem_of_getElem? (i := 23) (by decide +kernel), List.mem_of_getElem? (i := 325) (by decide +kernel), List.mem_of_getElem? (i := 326) (by decide +kernel)⟩
theorem lw_p6 : lw_okq (⟨"MirroredTalks$PlanText", "setFault", "(III)V"⟩, 7) := ⟨⟨by decide +kernel, by decide +kernel⟩, List.mem_of_getElem? (i := 65) (by decide +kernel), List.mem_of_getElem? (i := 461) (by decide +kernel), List.mem_of_getElem? (i := 462) (by decide +kernel)⟩
theorem lw_p7 : lw_okq (⟨"MirroredTalks$PlanText", "characterAt", "(I)I"⟩, 7) := ⟨⟨by decide +kernel, by decide +kernel⟩, List.mem_of_getElem? (i := 65) (by decide +kernel), List.mem_of_getElem? (i := 469) (by decide +kernel), List.mem_of_getElem? (i := 470) (by decide +kernel)⟩
theorem lw_p8 : lw_okq (⟨"MirroredTalks$PlanText", "takeState", "(II)V"⟩, 7) := ⟨⟨by decide +kernel, by decide +kernel⟩, List.mem_of_getElem? (i := 65) (by decide +kernel), List.mem_of_getElem? (i := 479) (by decide +kernel), List.mem_of_getElem? (i := 480) (by decide +kernel)⟩
theorem lw_p9 : lw_okq (⟨"MirroredTalks$RowCount", "countWays", "(LMirroredTalks$TalkPairs;)V"⟩, 4) := ⟨⟨by decide +kernel, by decide +kernel⟩, List.mem_of_getElem? (i := 140) (by decide +kernel), List.mem_of_getElem? (i := 556) (by decide +kernel), List.mem_of_getElem? (i := 557) (by decide +kernel)⟩
theorem lw_p10 : lw_okq (⟨"MirroredTalks$RowCount", "setReady", "(I)V"⟩, 4) := ⟨⟨by decide +kernel, by decide +kernel⟩, List.mem_of_getElem? (i := 140) (by decide +kernel), List.mem_of_getElem? (i := 574) (by decide +kernel), List.mem_of_getElem? (i := 575) (by decide +kernel)⟩
theorem lw_p11 : lw_okq (⟨"MirroredTalks$RowCount", "rowsTo", "(I)J"⟩, 4) := ⟨⟨by decide +kernel, by decide +kernel⟩, List.mem_of_getElem? (i := 140) (by decide +kernel), List.mem_of_getElem? (i := 579) (by decide +kernel), List.mem_of_getElem? (i := 580) (by decide +kernel)⟩
theorem lw_p12 : lw_okq (⟨"MirroredTalks$RowCount", "goAlong", "(IJ)V"⟩, 4) := ⟨⟨by decide +kernel, by decide +kernel⟩, List.mem_of_getElem? (i := 140) (by decide +kernel), List.mem_of_getElem? (i := 590) (by decide +kernel), List.mem_of_getElem? (i := 591) (by decide +kernel)⟩
def lw_privs_1 : List (MethodName × Nat) := [(⟨"MirroredTalks", "remember", "()V"⟩, 9), (⟨"MirroredTalks", "planAt", "(I)LMirroredTalks$Plan;"⟩, 9), (⟨"MirroredTalks$Likeness", "part", "(LMirroredTalks$Plan;)V"⟩, 1), (⟨"MirroredTalks$Likeness", "leadsAlike", "(LMirroredTalks$Plan;II)Z"⟩, 1), (⟨"MirroredTalks$Likeness", "areAlike", "(II)Z"⟩, 1), (⟨"MirroredTalks$Plan", "statesBehind", "(I)I"⟩, 1), (⟨"MirroredTalks$PlanText", "setFault", "(III)V"⟩, 7), (⟨"MirroredTalks$PlanText", "characterAt", "(I)I"⟩, 7), (⟨"MirroredTalks$PlanText", "takeState", "(II)V"⟩, 7), (⟨"MirroredTalks$RowCount", "countWays", "(LMirroredTalks$TalkPairs;)V"⟩, 4), (⟨"MirroredTalks$RowCount", "setReady", "(I)V"⟩, 4), (⟨"MirroredTalks$RowCount", "rowsTo", "(I)J"⟩, 4), (⟨"MirroredTalks$RowCount", "goAlong", "(IJ)V"⟩, 4)]
theorem lw_r1 : ∀ q ∈ lw_privs_1, lw_okq q := List.forall_mem_cons.mpr ⟨lw_p0, List.forall_mem_cons.mpr ⟨lw_p1, List.forall_mem_cons.mpr ⟨lw_p2, List.forall_mem_cons.mpr ⟨lw_p3, List.forall_mem_cons.mpr ⟨lw_p4, List.forall_mem_cons.mpr ⟨lw_p5, List.forall_mem_cons.mpr ⟨lw_p6, List.forall_mem_cons.mpr ⟨lw_p7, List.forall_mem_cons.mpr ⟨lw_p8, List.forall_mem_cons.mpr ⟨lw_p9, List.forall_mem_cons.mpr ⟨lw_p10, List.forall_mem_cons.mpr ⟨lw_p11, List.forall_mem_cons.mpr ⟨lw_p12, fun _ h => absurd h List.not_mem_nil⟩⟩⟩⟩⟩⟩⟩⟩⟩⟩⟩⟩⟩
def lw_privs : List (MethodName × Nat) := lw_privs_1
def lw_tbl : List Cond := k2_sels lw_privs ++ tables_1
theorem lw_privs_ok : ∀ q ∈ lw_privs, lw_okq q := lw_r1
-- ===== end of PART A; then your names; then what follows =====
/-! ===== BEGIN words of one list among another's, by their places ===== -/
theorem goodIn_r {big : List Cond} (ws : List Cond) (ps : List Nat) (hp : ws = ps.filterMap (fun i => big[i]?)) (h : ws.all goodWord = true) : GoodIn big ws := by
  intro w hw
  have h1 := List.all_eq_true.mp h w hw
  rw [hp] at hw
  obtain ⟨i, -, hi⟩ := List.mem_filterMap.mp hw
  have hm : w ∈ big := by first | exact List.mem_of_getElem? hi | exact List.getElem?_mem hi
  exact ⟨hm, good_of_word h1⟩
theorem goodIn_app {big a b : List Cond} (ha : GoodIn big a) (hb : GoodIn big b) : GoodIn big (a ++ b) := fun w h => (List.mem_append.mp h).elim (ha w) (hb w)
theorem goodIn_ca {big a b : List Cond} {c : Cond} (ha : GoodIn big (c :: a)) (hb : GoodIn big b) : GoodIn big (c :: (a ++ b)) := fun w h => (List.mem_cons.mp h).elim (fun e => ha w (List.mem_cons.mpr (Or.inl e))) (fun h => (List.mem_append.mp h).elim (fun h => ha w (List.mem_cons.mpr (Or.inr h))) (hb w))
theorem goodIn_sub {big ws : List Cond} (hm : ∀ w ∈ ws, w ∈ big) (h : ws.all goodWord = true) : GoodIn big ws := fun w hw => ⟨hm w hw, good_of_word (List.all_eq_true.mp h w hw)⟩
/-! ===== END ===== -/

/-! ===== BEGIN printed: names, fields, word lists, decode rows ===== -/
def RX0 : String := "MirroredTalks$History"
def TX0 : u_T := fun k => match k with
  | 0 => ("MirroredTalks$History", "entries", "[I", true)
  | _ => ("MirroredTalks$History", "size", "I", false)
def tyX0 : Nat → FieldType := fun k => match k with
  | 0 => .array .int
  | _ => .int
abbrev wsX00 : List Cond := u_ws RX0 TX0 2
theorem nmX0 : ∀ a, a < 2 → ∀ b, b < 2 → a ≠ b → (TX0 a).2.1 ≠ (TX0 b).2.1 := by decide +kernel
theorem tyX0_ok : ∀ k, k < 2 → parseFieldDescriptor (TX0 k).2.2.1 = some (tyX0 k) := by decide +kernel
abbrev cX0_init : ByteArray := prog_2_method_1_code
def yX0_init : MethodName := ⟨RX0, "<init>", "()V"⟩
abbrev cX0_size : ByteArray := prog_2_method_2_code
def yX0_size : MethodName := ⟨RX0, "size", "()I"⟩
abbrev cX0_record : ByteArray := prog_2_method_3_code
def yX0_record : MethodName := ⟨RX0, "record", "(LMirroredTalks$Plan;LMirroredTalks$Plan;LMirroredTalks$Plan;)V"⟩
abbrev cX0_restore : ByteArray := prog_2_method_4_code
def yX0_restore : MethodName := ⟨RX0, "restore", "(LMirroredTalks$Plan;LMirroredTalks$Plan;LMirroredTalks$Plan;)V"⟩
def RX1 : String := "MirroredTalks$Likeness"
def TX1 : u_T := fun k => match k with
  | _ => ("MirroredTalks$Likeness", "alike", "[Z", true)
def tyX1 : Nat → FieldType := fun k => match k with
  | _ => .array .boolean
abbrev wsX10 : List Cond := u_ws RX1 TX1 1
theorem nmX1 : ∀ a, a < 1 → ∀ b, b < 1 → a ≠ b → (TX1 a).2.1 ≠ (TX1 b).2.1 := by decide +kernel
theorem tyX1_ok : ∀ k, k < 1 → parseFieldDescriptor (TX1 k).2.2.1 = some (tyX1 k) := by decide +kernel
abbrev cX1_init : ByteArray := prog_3_method_1_code
def yX1_init : MethodName := ⟨RX1, "<init>", "()V"⟩
abbrev cX1_compare : ByteArray := prog_3_method_2_code
def yX1_compare : MethodName := ⟨RX1, "compare", "(LMirroredTalks$Plan;)V"⟩
abbrev cX1_part : ByteArray := prog_3_method_3_code
def yX1_part : MethodName := ⟨RX1, "part", "(LMirroredTalks$Plan;)V"⟩
abbrev cX1_looksAlike : ByteArray := prog_3_method_4_code
def yX1_looksAlike : MethodName := ⟨RX1, "looksAlike", "(LMirroredTalks$Plan;II)Z"⟩
abbrev cX1_leadsAlike : ByteArray := prog_3_method_5_code
def yX1_leadsAlike : MethodName := ⟨RX1, "leadsAlike", "(LMirroredTalks$Plan;II)Z"⟩
abbrev cX1_areAlike : ByteArray := prog_3_method_6_code
def yX1_areAlike : MethodName := ⟨RX1, "areAlike", "(II)Z"⟩
abbrev cX1_lowestAlike : ByteArray := prog_3_method_7_code
def yX1_lowestAlike : MethodName := ⟨RX1, "lowestAlike", "(I)I"⟩
def RX2 : String := "MirroredTalks$Pairs"
def TX2 : u_T := fun k => match k with
  | _ => ("", "", "", false)
def tyX2 : Nat → FieldType := fun k => match k with
  | _ => .int
abbrev wsX20 : List Cond := u_ws RX2 TX2 0
theorem nmX2 : ∀ a, a < 0 → ∀ b, b < 0 → a ≠ b → (TX2 a).2.1 ≠ (TX2 b).2.1 := by decide +kernel
theorem tyX2_ok : ∀ k, k < 0 → parseFieldDescriptor (TX2 k).2.2.1 = some (tyX2 k) := by decide +kernel
abbrev cX2_init : ByteArray := prog_4_method_1_code
def yX2_init : MethodName := ⟨RX2, "<init>", "(LMirroredTalks$Plan;)V"⟩
abbrev cX2_walk : ByteArray := prog_4_method_4_code
def yX2_walk : MethodName := ⟨RX2, "walk", "(LMirroredTalks$Plan;LMirroredTalks$Plan;)V"⟩
abbrev cX2_add : ByteArray := prog_4_method_5_code
def yX2_add : MethodName := ⟨RX2, "add", "(IIII)V"⟩
abbrev cX2_pairBehind : ByteArray := prog_4_method_6_code
def yX2_pairBehind : MethodName := ⟨RX2, "pairBehind", "(II)I"⟩
abbrev cX2_positionBehind : ByteArray := prog_4_method_7_code
def yX2_positionBehind : MethodName := ⟨RX2, "positionBehind", "(II)I"⟩
abbrev cX2_size : ByteArray := prog_4_method_8_code
def yX2_size : MethodName := ⟨RX2, "size", "()I"⟩
abbrev cX2_has : ByteArray := prog_4_method_9_code
def yX2_has : MethodName := ⟨RX2, "has", "(I)Z"⟩
abbrev cX2_stateOfOne : ByteArray := prog_4_method_10_code
def yX2_stateOfOne : MethodName := ⟨RX2, "stateOfOne", "(I)I"⟩
abbrev cX2_stateOfOther : ByteArray := prog_4_method_11_code
def yX2_stateOfOther : MethodName := ⟨RX2, "stateOfOther", "(I)I"⟩
abbrev cX2_kindOfOne : ByteArray := prog_4_method_12_code
def yX2_kindOfOne : MethodName := ⟨RX2, "kindOfOne", "(I)I"⟩
abbrev cX2_kindOfOther : ByteArray := prog_4_method_13_code
def yX2_kindOfOther : MethodName := ⟨RX2, "kindOfOther", "(I)I"⟩
abbrev cX2_lengthOf : ByteArray := prog_4_method_14_code
def yX2_lengthOf : MethodName := ⟨RX2, "lengthOf", "(I)I"⟩
abbrev cX2_reasonOf : ByteArray := prog_4_method_15_code
def yX2_reasonOf : MethodName := ⟨RX2, "reasonOf", "(I)I"⟩
abbrev cX2_firstLackedWord : ByteArray := prog_4_method_16_code
def yX2_firstLackedWord : MethodName := ⟨RX2, "firstLackedWord", "(I)I"⟩
abbrev cX2_lackedWords : ByteArray := prog_4_method_17_code
def yX2_lackedWords : MethodName := ⟨RX2, "lackedWords", "(III)I"⟩
abbrev cX2_firstFaulty : ByteArray := prog_4_method_18_code
def yX2_firstFaulty : MethodName := ⟨RX2, "firstFaulty", "()I"⟩
abbrev cX2_tellMore : ByteArray := prog_4_method_19_code
def yX2_tellMore : MethodName := ⟨RX2, "tellMore", "(II)I"⟩
abbrev cX2_wordOfRow : ByteArray := prog_4_method_20_code
def yX2_wordOfRow : MethodName := ⟨RX2, "wordOfRow", "(II)I"⟩
def RX3 : String := "MirroredTalks$Plan"
def TX3 : u_T := fun k => match k with
  | _ => ("MirroredTalks$Plan", "cells", "[I", true)
def tyX3 : Nat → FieldType := fun k => match k with
  | _ => .array .int
abbrev wsX30 : List Cond := u_ws RX3 TX3 1
theorem nmX3 : ∀ a, a < 1 → ∀ b, b < 1 → a ≠ b → (TX3 a).2.1 ≠ (TX3 b).2.1 := by decide +kernel
theorem tyX3_ok : ∀ k, k < 1 → parseFieldDescriptor (TX3 k).2.2.1 = some (tyX3 k) := by decide +kernel
abbrev cX3_init : ByteArray := prog_5_method_1_code
def yX3_init : MethodName := ⟨RX3, "<init>", "()V"⟩
abbrev cX3_clear : ByteArray := prog_5_method_2_code
def yX3_clear : MethodName := ⟨RX3, "clear", "()V"⟩
abbrev cX3_kindOf : ByteArray := prog_5_method_3_code
def yX3_kindOf : MethodName := ⟨RX3, "kindOf", "(I)I"⟩
abbrev cX3_setKind : ByteArray := prog_5_method_4_code
def yX3_setKind : MethodName := ⟨RX3, "setKind", "(II)V"⟩
abbrev cX3_targetOf : ByteArray := prog_5_method_5_code
def yX3_targetOf : MethodName := ⟨RX3, "targetOf", "(II)I"⟩
abbrev cX3_setTarget : ByteArray := prog_5_method_6_code
def yX3_setTarget : MethodName := ⟨RX3, "setTarget", "(III)V"⟩
abbrev cX3_wordsOf : ByteArray := prog_5_method_7_code
def yX3_wordsOf : MethodName := ⟨RX3, "wordsOf", "(I)I"⟩
abbrev cX3_arrows : ByteArray := prog_5_method_8_code
def yX3_arrows : MethodName := ⟨RX3, "arrows", "()I"⟩
abbrev cX3_lastingStates : ByteArray := prog_5_method_9_code
def yX3_lastingStates : MethodName := ⟨RX3, "lastingStates", "()I"⟩
abbrev cX3_swapSides : ByteArray := prog_5_method_10_code
def yX3_swapSides : MethodName := ⟨RX3, "swapSides", "()V"⟩
abbrev cX3_comesTo : ByteArray := prog_5_method_11_code
def yX3_comesTo : MethodName := ⟨RX3, "comesTo", "(I)I"⟩
abbrev cX3_statesBehind : ByteArray := prog_5_method_12_code
def yX3_statesBehind : MethodName := ⟨RX3, "statesBehind", "(I)I"⟩
abbrev cX3_take : ByteArray := prog_5_method_13_code
def yX3_take : MethodName := ⟨RX3, "take", "(LMirroredTalks$Plan;)V"⟩
abbrev cX3_saveTo : ByteArray := prog_5_method_14_code
def yX3_saveTo : MethodName := ⟨RX3, "saveTo", "([II)V"⟩
abbrev cX3_loadFrom : ByteArray := prog_5_method_15_code
def yX3_loadFrom : MethodName := ⟨RX3, "loadFrom", "([II)V"⟩
def RX4 : String := "MirroredTalks$PlanText"
def TX4 : u_T := fun k => match k with
  | 0 => ("MirroredTalks$PlanText", "characters", "[I", true)
  | 1 => ("MirroredTalks$PlanText", "length", "I", false)
  | 2 => ("MirroredTalks$PlanText", "draft", "LMirroredTalks$Plan;", true)
  | 3 => ("MirroredTalks$PlanText", "told", "I", false)
  | 4 => ("MirroredTalks$PlanText", "faultPosition", "I", false)
  | 5 => ("MirroredTalks$PlanText", "faultReason", "I", false)
  | _ => ("MirroredTalks$PlanText", "faultCause", "I", false)
def tyX4 : Nat → FieldType := fun k => match k with
  | 0 => .array .int
  | 1 => .int
  | 2 => .object "MirroredTalks$Plan"
  | 3 => .int
  | 4 => .int
  | 5 => .int
  | _ => .int
abbrev wsX40 : List Cond := u_ws RX4 TX4 7
theorem nmX4 : ∀ a, a < 7 → ∀ b, b < 7 → a ≠ b → (TX4 a).2.1 ≠ (TX4 b).2.1 := by decide +kernel
theorem tyX4_ok : ∀ k, k < 7 → parseFieldDescriptor (TX4 k).2.2.1 = some (tyX4 k) := by decide +kernel
abbrev cX4_init : ByteArray := prog_6_method_1_code
def yX4_init : MethodName := ⟨RX4, "<init>", "()V"⟩
abbrev cX4_length : ByteArray := prog_6_method_2_code
def yX4_length : MethodName := ⟨RX4, "length", "()I"⟩
abbrev cX4_isFull : ByteArray := prog_6_method_3_code
def yX4_isFull : MethodName := ⟨RX4, "isFull", "()Z"⟩
abbrev cX4_append : ByteArray := prog_6_method_4_code
def yX4_append : MethodName := ⟨RX4, "append", "(I)V"⟩
abbrev cX4_clear : ByteArray := prog_6_method_5_code
def yX4_clear : MethodName := ⟨RX4, "clear", "()V"⟩
abbrev cX4_draft : ByteArray := prog_6_method_6_code
def yX4_draft : MethodName := ⟨RX4, "draft", "()LMirroredTalks$Plan;"⟩
abbrev cX4_toldStates : ByteArray := prog_6_method_7_code
def yX4_toldStates : MethodName := ⟨RX4, "toldStates", "()I"⟩
abbrev cX4_isFaulty : ByteArray := prog_6_method_8_code
def yX4_isFaulty : MethodName := ⟨RX4, "isFaulty", "()Z"⟩
abbrev cX4_faultPosition : ByteArray := prog_6_method_9_code
def yX4_faultPosition : MethodName := ⟨RX4, "faultPosition", "()I"⟩
abbrev cX4_faultReason : ByteArray := prog_6_method_10_code
def yX4_faultReason : MethodName := ⟨RX4, "faultReason", "()I"⟩
abbrev cX4_faultCause : ByteArray := prog_6_method_11_code
def yX4_faultCause : MethodName := ⟨RX4, "faultCause", "()I"⟩
abbrev cX4_parse : ByteArray := prog_6_method_12_code
def yX4_parse : MethodName := ⟨RX4, "parse", "()V"⟩
abbrev cX4_after : ByteArray := prog_6_method_13_code
def yX4_after : MethodName := ⟨RX4, "after", "(II)I"⟩
abbrev cX4_takeState : ByteArray := prog_6_method_14_code
def yX4_takeState : MethodName := ⟨RX4, "takeState", "(II)V"⟩
abbrev cX4_setFault : ByteArray := prog_6_method_15_code
def yX4_setFault : MethodName := ⟨RX4, "setFault", "(III)V"⟩
abbrev cX4_characterAt : ByteArray := prog_6_method_16_code
def yX4_characterAt : MethodName := ⟨RX4, "characterAt", "(I)I"⟩
def RX5 : String := "MirroredTalks$RowCount"
def TX5 : u_T := fun k => match k with
  | 0 => ("MirroredTalks$RowCount", "openWays", "[I", true)
  | 1 => ("MirroredTalks$RowCount", "rows", "[J", true)
  | 2 => ("MirroredTalks$RowCount", "ready", "[I", true)
  | _ => ("MirroredTalks$RowCount", "readySize", "I", false)
def tyX5 : Nat → FieldType := fun k => match k with
  | 0 => .array .int
  | 1 => .array .long
  | 2 => .array .int
  | _ => .int
abbrev wsX50 : List Cond := u_ws RX5 TX5 4
theorem nmX5 : ∀ a, a < 4 → ∀ b, b < 4 → a ≠ b → (TX5 a).2.1 ≠ (TX5 b).2.1 := by decide +kernel
theorem tyX5_ok : ∀ k, k < 4 → parseFieldDescriptor (TX5 k).2.2.1 = some (tyX5 k) := by decide +kernel
abbrev cX5_init : ByteArray := prog_7_method_1_code
def yX5_init : MethodName := ⟨RX5, "<init>", "()V"⟩
abbrev cX5_rowsToEnds : ByteArray := prog_7_method_2_code
def yX5_rowsToEnds : MethodName := ⟨RX5, "rowsToEnds", "(LMirroredTalks$TalkPairs;)J"⟩
abbrev cX5_countWays : ByteArray := prog_7_method_3_code
def yX5_countWays : MethodName := ⟨RX5, "countWays", "(LMirroredTalks$TalkPairs;)V"⟩
abbrev cX5_goAlong : ByteArray := prog_7_method_4_code
def yX5_goAlong : MethodName := ⟨RX5, "goAlong", "(IJ)V"⟩
abbrev cX5_setReady : ByteArray := prog_7_method_5_code
def yX5_setReady : MethodName := ⟨RX5, "setReady", "(I)V"⟩
abbrev cX5_rowsTo : ByteArray := prog_7_method_6_code
def yX5_rowsTo : MethodName := ⟨RX5, "rowsTo", "(I)J"⟩
abbrev cX5_isPosition : ByteArray := prog_7_method_7_code
def yX5_isPosition : MethodName := ⟨RX5, "isPosition", "(I)Z"⟩
abbrev cX5_capped : ByteArray := prog_7_method_8_code
def yX5_capped : MethodName := ⟨RX5, "capped", "(J)J"⟩
def RX6 : String := "MirroredTalks$StandInPairs"
def TX6 : u_T := fun k => match k with
  | 0 => ("MirroredTalks$Pairs", "pairs", "[I", true)
  | 1 => ("MirroredTalks$Pairs", "positions", "[I", true)
  | 2 => ("MirroredTalks$Pairs", "lengths", "[I", true)
  | 3 => ("MirroredTalks$Pairs", "origins", "[I", true)
  | 4 => ("MirroredTalks$Pairs", "lastWords", "[I", true)
  | 5 => ("MirroredTalks$Pairs", "one", "LMirroredTalks$Plan;", false)
  | 6 => ("MirroredTalks$Pairs", "other", "LMirroredTalks$Plan;", false)
  | _ => ("MirroredTalks$Pairs", "size", "I", false)
def tyX6 : Nat → FieldType := fun k => match k with
  | 0 => .array .int
  | 1 => .array .int
  | 2 => .array .int
  | 3 => .array .int
  | 4 => .array .int
  | 5 => .object "MirroredTalks$Plan"
  | 6 => .object "MirroredTalks$Plan"
  | _ => .int
abbrev wsX60 : List Cond := u_ws RX6 TX6 8
theorem nmX6 : ∀ a, a < 8 → ∀ b, b < 8 → a ≠ b → (TX6 a).2.1 ≠ (TX6 b).2.1 := by decide +kernel
theorem tyX6_ok : ∀ k, k < 8 → parseFieldDescriptor (TX6 k).2.2.1 = some (tyX6 k) := by decide +kernel
abbrev cX6_init : ByteArray := prog_8_method_1_code
def yX6_init : MethodName := ⟨RX6, "<init>", "(LMirroredTalks$Plan;)V"⟩
abbrev cX6_goTogether : ByteArray := prog_8_method_2_code
def yX6_goTogether : MethodName := ⟨RX6, "goTogether", "(II)Z"⟩
abbrev cX6_reasonFor : ByteArray := prog_8_method_3_code
def yX6_reasonFor : MethodName := ⟨RX6, "reasonFor", "(IIII)I"⟩
def RX7 : String := "MirroredTalks$TalkPairs"
def TX7 : u_T := fun k => match k with
  | 0 => ("MirroredTalks$Pairs", "pairs", "[I", true)
  | 1 => ("MirroredTalks$Pairs", "positions", "[I", true)
  | 2 => ("MirroredTalks$Pairs", "lengths", "[I", true)
  | 3 => ("MirroredTalks$Pairs", "origins", "[I", true)
  | 4 => ("MirroredTalks$Pairs", "lastWords", "[I", true)
  | 5 => ("MirroredTalks$Pairs", "one", "LMirroredTalks$Plan;", false)
  | 6 => ("MirroredTalks$Pairs", "other", "LMirroredTalks$Plan;", false)
  | _ => ("MirroredTalks$Pairs", "size", "I", false)
def tyX7 : Nat → FieldType := fun k => match k with
  | 0 => .array .int
  | 1 => .array .int
  | 2 => .array .int
  | 3 => .array .int
  | 4 => .array .int
  | 5 => .object "MirroredTalks$Plan"
  | 6 => .object "MirroredTalks$Plan"
  | _ => .int
abbrev wsX70 : List Cond := u_ws RX7 TX7 8
theorem nmX7 : ∀ a, a < 8 → ∀ b, b < 8 → a ≠ b → (TX7 a).2.1 ≠ (TX7 b).2.1 := by decide +kernel
theorem tyX7_ok : ∀ k, k < 8 → parseFieldDescriptor (TX7 k).2.2.1 = some (tyX7 k) := by decide +kernel
abbrev cX7_init : ByteArray := prog_9_method_1_code
def yX7_init : MethodName := ⟨RX7, "<init>", "(LMirroredTalks$Plan;)V"⟩
abbrev cX7_goTogether : ByteArray := prog_9_method_2_code
def yX7_goTogether : MethodName := ⟨RX7, "goTogether", "(II)Z"⟩
abbrev cX7_reasonFor : ByteArray := prog_9_method_3_code
def yX7_reasonFor : MethodName := ⟨RX7, "reasonFor", "(IIII)I"⟩
abbrev cX7_isEnd : ByteArray := prog_9_method_4_code
def yX7_isEnd : MethodName := ⟨RX7, "isEnd", "(I)Z"⟩
abbrev cX7_stuckPairs : ByteArray := prog_9_method_5_code
def yX7_stuckPairs : MethodName := ⟨RX7, "stuckPairs", "()I"⟩
abbrev cX7_ends : ByteArray := prog_9_method_6_code
def yX7_ends : MethodName := ⟨RX7, "ends", "()I"⟩
abbrev cX7_fewestWordsToEnd : ByteArray := prog_9_method_7_code
def yX7_fewestWordsToEnd : MethodName := ⟨RX7, "fewestWordsToEnd", "()I"⟩
abbrev cX7_statesOfOne : ByteArray := prog_9_method_8_code
def yX7_statesOfOne : MethodName := ⟨RX7, "statesOfOne", "()I"⟩
abbrev cX7_statesOfOther : ByteArray := prog_9_method_9_code
def yX7_statesOfOther : MethodName := ⟨RX7, "statesOfOther", "()I"⟩
def RX8 : String := "MirroredTalks"
def TX8 : u_T := fun k => match k with
  | 0 => ("MirroredTalks", "first", "LMirroredTalks$Plan;", true)
  | 1 => ("MirroredTalks", "second", "LMirroredTalks$Plan;", true)
  | 2 => ("MirroredTalks", "third", "LMirroredTalks$Plan;", true)
  | 3 => ("MirroredTalks", "history", "LMirroredTalks$History;", true)
  | 4 => ("MirroredTalks", "text", "LMirroredTalks$PlanText;", true)
  | 5 => ("MirroredTalks", "likeness", "LMirroredTalks$Likeness;", true)
  | 6 => ("MirroredTalks", "talkPairs", "LMirroredTalks$TalkPairs;", true)
  | 7 => ("MirroredTalks", "rowCount", "LMirroredTalks$RowCount;", true)
  | _ => ("MirroredTalks", "standInPairs", "LMirroredTalks$StandInPairs;", true)
def tyX8 : Nat → FieldType := fun k => match k with
  | 0 => .object "MirroredTalks$Plan"
  | 1 => .object "MirroredTalks$Plan"
  | 2 => .object "MirroredTalks$Plan"
  | 3 => .object "MirroredTalks$History"
  | 4 => .object "MirroredTalks$PlanText"
  | 5 => .object "MirroredTalks$Likeness"
  | 6 => .object "MirroredTalks$TalkPairs"
  | 7 => .object "MirroredTalks$RowCount"
  | _ => .object "MirroredTalks$StandInPairs"
abbrev wsX80 : List Cond := u_ws RX8 TX8 9
theorem nmX8 : ∀ a, a < 9 → ∀ b, b < 9 → a ≠ b → (TX8 a).2.1 ≠ (TX8 b).2.1 := by decide +kernel
theorem tyX8_ok : ∀ k, k < 9 → parseFieldDescriptor (TX8 k).2.2.1 = some (tyX8 k) := by decide +kernel
abbrev cX8_init : ByteArray := prog_1_method_1_code
def yX8_init : MethodName := ⟨RX8, "<init>", "()V"⟩
abbrev cX8_kind : ByteArray := prog_1_method_2_code
def yX8_kind : MethodName := ⟨RX8, "kind", "(III)I"⟩
abbrev cX8_arrow : ByteArray := prog_1_method_3_code
def yX8_arrow : MethodName := ⟨RX8, "arrow", "(IIII)I"⟩
abbrev cX8_erase : ByteArray := prog_1_method_4_code
def yX8_erase : MethodName := ⟨RX8, "erase", "(III)I"⟩
abbrev cX8_copy : ByteArray := prog_1_method_5_code
def yX8_copy : MethodName := ⟨RX8, "copy", "(II)I"⟩
abbrev cX8_mirror : ByteArray := prog_1_method_6_code
def yX8_mirror : MethodName := ⟨RX8, "mirror", "(I)I"⟩
abbrev cX8_stateOf : ByteArray := prog_1_method_7_code
def yX8_stateOf : MethodName := ⟨RX8, "stateOf", "(III)I"⟩
abbrev cX8_unlike : ByteArray := prog_1_method_8_code
def yX8_unlike : MethodName := ⟨RX8, "unlike", "(I)I"⟩
abbrev cX8_pairOf : ByteArray := prog_1_method_9_code
def yX8_pairOf : MethodName := ⟨RX8, "pairOf", "(IIII)I"⟩
abbrev cX8_talk : ByteArray := prog_1_method_10_code
def yX8_talk : MethodName := ⟨RX8, "talk", "(III)I"⟩
abbrev cX8_talks : ByteArray := prog_1_method_11_code
def yX8_talks : MethodName := ⟨RX8, "talks", "(II)J"⟩
abbrev cX8_standsIn : ByteArray := prog_1_method_12_code
def yX8_standsIn : MethodName := ⟨RX8, "standsIn", "(II)I"⟩
abbrev cX8_against : ByteArray := prog_1_method_13_code
def yX8_against : MethodName := ⟨RX8, "against", "(III)I"⟩
abbrev cX8_count : ByteArray := prog_1_method_14_code
def yX8_count : MethodName := ⟨RX8, "count", "(I)I"⟩
abbrev cX8_undo : ByteArray := prog_1_method_15_code
def yX8_undo : MethodName := ⟨RX8, "undo", "()I"⟩
abbrev cX8_type : ByteArray := prog_1_method_16_code
def yX8_type : MethodName := ⟨RX8, "type", "(I)I"⟩
abbrev cX8_clearText : ByteArray := prog_1_method_17_code
def yX8_clearText : MethodName := ⟨RX8, "clearText", "()I"⟩
abbrev cX8_fault : ByteArray := prog_1_method_18_code
def yX8_fault : MethodName := ⟨RX8, "fault", "(I)I"⟩
abbrev cX8_read : ByteArray := prog_1_method_19_code
def yX8_read : MethodName := ⟨RX8, "read", "(I)I"⟩
abbrev cX8_remember : ByteArray := prog_1_method_20_code
def yX8_remember : MethodName := ⟨RX8, "remember", "()V"⟩
abbrev cX8_planAt : ByteArray := prog_1_method_21_code
def yX8_planAt : MethodName := ⟨RX8, "planAt", "(I)LMirroredTalks$Plan;"⟩
abbrev cX8_isPlan : ByteArray := prog_1_method_22_code
def yX8_isPlan : MethodName := ⟨RX8, "isPlan", "(I)Z"⟩
abbrev cX8_isState : ByteArray := prog_1_method_23_code
def yX8_isState : MethodName := ⟨RX8, "isState", "(I)Z"⟩
abbrev cX8_isWord : ByteArray := prog_1_method_24_code
def yX8_isWord : MethodName := ⟨RX8, "isWord", "(I)Z"⟩
abbrev cX8_isKind : ByteArray := prog_1_method_25_code
def yX8_isKind : MethodName := ⟨RX8, "isKind", "(I)Z"⟩
abbrev cX8_isPairQuestion : ByteArray := prog_1_method_26_code
def yX8_isPairQuestion : MethodName := ⟨RX8, "isPairQuestion", "(I)Z"⟩
abbrev cX8_foundOr : ByteArray := prog_1_method_27_code
def yX8_foundOr : MethodName := ⟨RX8, "foundOr", "(I)I"⟩
abbrev cX8_holds : ByteArray := prog_1_method_28_code
def yX8_holds : MethodName := ⟨RX8, "holds", "(II)Z"⟩
abbrev cX8_firstWordIn : ByteArray := prog_1_method_29_code
def yX8_firstWordIn : MethodName := ⟨RX8, "firstWordIn", "(I)I"⟩
abbrev cX8_cellOf : ByteArray := prog_1_method_30_code
def yX8_cellOf : MethodName := ⟨RX8, "cellOf", "([II)I"⟩
def RX9 : String := "MirroredTalksModel"
def TX9 : u_T := fun k => match k with
  | _ => ("", "", "", false)
def tyX9 : Nat → FieldType := fun k => match k with
  | _ => .int
abbrev wsX90 : List Cond := u_ws RX9 TX9 0
theorem nmX9 : ∀ a, a < 0 → ∀ b, b < 0 → a ≠ b → (TX9 a).2.1 ≠ (TX9 b).2.1 := by decide +kernel
theorem tyX9_ok : ∀ k, k < 0 → parseFieldDescriptor (TX9 k).2.2.1 = some (tyX9 k) := by decide +kernel
def RJ6 : String := "java/lang/Integer"
def TJ6 : u_T := fun k => match k with
  | _ => ("", "", "", false)
def tyJ6 : Nat → FieldType := fun k => match k with
  | _ => .int
abbrev wsJ60 : List Cond := u_ws RJ6 TJ6 0
theorem nmJ6 : ∀ a, a < 0 → ∀ b, b < 0 → a ≠ b → (TJ6 a).2.1 ≠ (TJ6 b).2.1 := by decide +kernel
theorem tyJ6_ok : ∀ k, k < 0 → parseFieldDescriptor (TJ6 k).2.2.1 = some (tyJ6 k) := by decide +kernel
abbrev cJ6_bitCount_0f7a4 : ByteArray := prog_12_method_49_code
def yJ6_bitCount_0f7a4 : MethodName := ⟨RJ6, "bitCount", "(I)I"⟩
def RJ9 : String := "java/lang/Math"
def TJ9 : u_T := fun k => match k with
  | _ => ("", "", "", false)
def tyJ9 : Nat → FieldType := fun k => match k with
  | _ => .int
abbrev wsJ90 : List Cond := u_ws RJ9 TJ9 0
theorem nmJ9 : ∀ a, a < 0 → ∀ b, b < 0 → a ≠ b → (TJ9 a).2.1 ≠ (TJ9 b).2.1 := by decide +kernel
theorem tyJ9_ok : ∀ k, k < 0 → parseFieldDescriptor (TJ9 k).2.2.1 = some (tyJ9 k) := by decide +kernel
abbrev cJ9_min_f86c9 : ByteArray := prog_13_method_70_code
def yJ9_min_f86c9 : MethodName := ⟨RJ9, "min", "(JJ)J"⟩
def RJ10 : String := "java/lang/System"
def TJ10 : u_T := fun k => match k with
  | _ => ("", "", "", false)
def tyJ10 : Nat → FieldType := fun k => match k with
  | _ => .int
abbrev wsJ100 : List Cond := u_ws RJ10 TJ10 0
theorem nmJ10 : ∀ a, a < 0 → ∀ b, b < 0 → a ≠ b → (TJ10 a).2.1 ≠ (TJ10 b).2.1 := by decide +kernel
theorem tyJ10_ok : ∀ k, k < 0 → parseFieldDescriptor (TJ10 k).2.2.1 = some (tyJ10 k) := by decide +kernel
def RJ7 : String := "java/util/Arrays"
def TJ7 : u_T := fun k => match k with
  | _ => ("", "", "", false)
def tyJ7 : Nat → FieldType := fun k => match k with
  | _ => .int
abbrev wsJ70 : List Cond := u_ws RJ7 TJ7 0
theorem nmJ7 : ∀ a, a < 0 → ∀ b, b < 0 → a ≠ b → (TJ7 a).2.1 ≠ (TJ7 b).2.1 := by decide +kernel
theorem tyJ7_ok : ∀ k, k < 0 → parseFieldDescriptor (TJ7 k).2.2.1 = some (tyJ7 k) := by decide +kernel
abbrev cJ7_fill_d0a16 : ByteArray := prog_15_method_101_code
def yJ7_fill_d0a16 : MethodName := ⟨RJ7, "fill", "([JJ)V"⟩
abbrev cJ7_fill_53178 : ByteArray := prog_15_method_103_code
def yJ7_fill_53178 : MethodName := ⟨RJ7, "fill", "([II)V"⟩
def RL : String := "MirroredTalksLaw"
abbrev cL_part : ByteArray := method_2_code
def yL_part : MethodName := ⟨RL, "part", "(II)I"⟩
abbrev cL_drawn : ByteArray := method_3_code
def yL_drawn : MethodName := ⟨RL, "drawn", "([II)I"⟩
abbrev cL_seen : ByteArray := method_4_code
def yL_seen : MethodName := ⟨RL, "seen", "(LMirroredTalks;)J"⟩
abbrev cL_refusesAny : ByteArray := method_5_code
def yL_refusesAny : MethodName := ⟨RL, "refusesAny", "(LMirroredTalks;I)Z"⟩
abbrev cL_refused : ByteArray := method_6_code
def yL_refused : MethodName := ⟨RL, "refused", "(LMirroredTalks;)Z"⟩
abbrev cL_puts : ByteArray := method_7_code
def yL_puts : MethodName := ⟨RL, "puts", "(LMirroredTalks;J)Z"⟩
abbrev cL_faultOf : ByteArray := method_8_code
def yL_faultOf : MethodName := ⟨RL, "faultOf", "(JJ)I"⟩
abbrev cL_texts : ByteArray := method_9_code
def yL_texts : MethodName := ⟨RL, "texts", "()Z"⟩
abbrev cL_plans : ByteArray := method_10_code
def yL_plans : MethodName := ⟨RL, "plans", "()Z"⟩
abbrev cL_circles : ByteArray := method_11_code
def yL_circles : MethodName := ⟨RL, "circles", "()Z"⟩
abbrev cL_law : ByteArray := code
def yL_law : MethodName := ⟨RL, "law", "([I)Z"⟩
set_option maxRecDepth 20000 in
theorem inX0 : ∀ w ∈ wsX00, w ∈ lw_tbl := by decide +kernel
theorem inX1 : ∀ w ∈ wsX10, w ∈ lw_tbl := by decide +kernel
theorem inX2 : ∀ w ∈ wsX20, w ∈ lw_tbl := by decide +kernel
theorem inX3 : ∀ w ∈ wsX30, w ∈ lw_tbl := by decide +kernel
theorem inX4 : ∀ w ∈ wsX40, w ∈ lw_tbl := by decide +kernel
theorem inX5 : ∀ w ∈ wsX50, w ∈ lw_tbl := by decide +kernel
theorem inX6 : ∀ w ∈ wsX60, w ∈ lw_tbl := by decide +kernel
theorem inX7 : ∀ w ∈ wsX70, w ∈ lw_tbl := by decide +kernel
theorem inX8 : ∀ w ∈ wsX80, w ∈ lw_tbl := by decide +kernel
theorem inX9 : ∀ w ∈ wsX90, w ∈ lw_tbl := by decide +kernel
theorem inJ6 : ∀ w ∈ wsJ60, w ∈ lw_tbl := by decide +kernel
theorem inJ9 : ∀ w ∈ wsJ90, w ∈ lw_tbl := by decide +kernel
theorem inJ10 : ∀ w ∈ wsJ100, w ∈ lw_tbl := by decide +kernel
theorem inJ7 : ∀ w ∈ wsJ70, w ∈ lw_tbl := by decide +kernel
abbrev vwCl : List vw_C := [(RX0, TX0, 2), (RX1, TX1, 1), (RX3, TX3, 1), (RX4, TX4, 7), (RX5, TX5, 4), (RX6, TX6, 8), (RX7, TX7, 8), (RX8, TX8, 9)]
