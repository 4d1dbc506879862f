section
/-! ===== BEGIN words of one list among another's, by their places ===== -/
theorem goodIn_r {big : List Cond} (ws : List Cond) (ps : List Nat) (hp : ws = ps.filterMap (fun i => big[i]?)) (h : ws.all goodWord = true) : GoodIn big ws := by
  intro w hw
  have h1 := List.all_eq_true.mp h w hw
  rw [hp] at hw
  obtain ⟨i, -, hi⟩ := List.mem_filterMap.mp hw
  have hm : w ∈ big := by first | exact List.mem_of_getElem? hi | exact List.getElem?_mem hi
  exact ⟨hm, good_of_word h1⟩
theorem goodIn_app {big a b : List Cond} (ha : GoodIn big a) (hb : GoodIn big b) : GoodIn big (a ++ b) := fun w h => (List.mem_append.mp h).elim (ha w) (hb w)
theorem goodIn_ca {big a b : List Cond} {c : Cond} (ha : GoodIn big (c :: a)) (hb : GoodIn big b) : GoodIn big (c :: (a ++ b)) := fun w h => (List.mem_cons.mp h).elim (fun e => ha w (List.mem_cons.mpr (Or.inl e))) (fun h => (List.mem_append.mp h).elim (fun h => ha w (List.mem_cons.mpr (Or.inr h))) (hb w))
theorem goodIn_sub {big ws : List Cond} (hm : ∀ w ∈ ws, w ∈ big) (h : ws.all goodWord = true) : GoodIn big ws := fun w hw => ⟨hm w hw, good_of_word (List.all_eq_true.mp h w hw)⟩
/-! ===== END ===== -/

/-! ===== BEGIN printed: names, fields, word lists, decode rows ===== -/
def RX0 : String := "SnuffCourt$Court"
def TX0 : u_T := fun k => match k with
  | 0 => ("SnuffCourt$Court", "cases", "I", false)
  | 1 => ("SnuffCourt$Court", "judges", "I", false)
  | 2 => ("SnuffCourt$Court", "draughts", "I", false)
  | 3 => ("SnuffCourt$Court", "hearings", "I", false)
  | 4 => ("SnuffCourt$Court", "kind", "[I", true)
  | 5 => ("SnuffCourt$Court", "length", "[I", true)
  | 6 => ("SnuffCourt$Court", "guard", "[I", true)
  | 7 => ("SnuffCourt$Court", "verdict", "[I", true)
  | 8 => ("SnuffCourt$Court", "appealed", "[I", true)
  | 9 => ("SnuffCourt$Court", "endMinute", "[I", true)
  | 10 => ("SnuffCourt$Court", "endJudge", "[I", true)
  | 11 => ("SnuffCourt$Court", "habit", "[I", true)
  | 12 => ("SnuffCourt$Court", "slow", "[I", true)
  | 13 => ("SnuffCourt$Court", "minute", "[I", true)
  | 14 => ("SnuffCourt$Court", "strength", "[I", true)
  | 15 => ("SnuffCourt$Court", "docketCase", "[I", true)
  | _ => ("SnuffCourt$Court", "docketJudge", "[I", true)
def tyX0 : Nat → FieldType := fun k => match k with
  | 0 => .int
  | 1 => .int
  | 2 => .int
  | 3 => .int
  | 4 => .array .int
  | 5 => .array .int
  | 6 => .array .int
  | 7 => .array .int
  | 8 => .array .int
  | 9 => .array .int
  | 10 => .array .int
  | 11 => .array .int
  | 12 => .array .int
  | 13 => .array .int
  | 14 => .array .int
  | 15 => .array .int
  | _ => .array .int
abbrev wsX00 : List Cond := u_ws RX0 TX0 17
theorem nmX0 : ∀ a, a < 17 → ∀ b, b < 17 → a ≠ b → (TX0 a).2.1 ≠ (TX0 b).2.1 := by decide +kernel
theorem tyX0_ok : ∀ k, k < 17 → parseFieldDescriptor (TX0 k).2.2.1 = some (tyX0 k) := by decide +kernel
abbrev cX0_init : ByteArray := prog_2_method_1_code
def yX0_init : MethodName := ⟨RX0, "<init>", "()V"⟩
abbrev cX0_hasCase : ByteArray := prog_2_method_2_code
def yX0_hasCase : MethodName := ⟨RX0, "hasCase", "(J)Z"⟩
abbrev cX0_hasJudge : ByteArray := prog_2_method_3_code
def yX0_hasJudge : MethodName := ⟨RX0, "hasJudge", "(I)Z"⟩
abbrev cX0_clear : ByteArray := prog_2_method_4_code
def yX0_clear : MethodName := ⟨RX0, "clear", "()V"⟩
abbrev cX0_becomes : ByteArray := prog_2_method_5_code
def yX0_becomes : MethodName := ⟨RX0, "becomes", "(LSnuffCourt$Court;)V"⟩
abbrev cX0_addCase : ByteArray := prog_2_method_6_code
def yX0_addCase : MethodName := ⟨RX0, "addCase", "()V"⟩
abbrev cX0_addJudge : ByteArray := prog_2_method_7_code
def yX0_addJudge : MethodName := ⟨RX0, "addJudge", "(II)Z"⟩
abbrev cX0_addDraught : ByteArray := prog_2_method_8_code
def yX0_addDraught : MethodName := ⟨RX0, "addDraught", "(II)Z"⟩
abbrev cX0_addHearing : ByteArray := prog_2_method_9_code
def yX0_addHearing : MethodName := ⟨RX0, "addHearing", "(II)Z"⟩
abbrev cX0_changeDocketJudges : ByteArray := prog_2_method_10_code
def yX0_changeDocketJudges : MethodName := ⟨RX0, "changeDocketJudges", "(II)V"⟩
abbrev cX0_sumOf : ByteArray := prog_2_method_11_code
def yX0_sumOf : MethodName := ⟨RX0, "sumOf", "([I)I"⟩
def RX1 : String := "SnuffCourt$Memory"
def TX1 : u_T := fun k => match k with
  | 0 => ("SnuffCourt$Memory", "ofCase", "[I", true)
  | 1 => ("SnuffCourt$Memory", "ofJudge", "[I", true)
  | 2 => ("SnuffCourt$Memory", "verdict", "[I", true)
  | _ => ("SnuffCourt$Memory", "size", "I", false)
def tyX1 : Nat → FieldType := fun k => match k with
  | 0 => .array .int
  | 1 => .array .int
  | 2 => .array .int
  | _ => .int
abbrev wsX10 : List Cond := u_ws RX1 TX1 4
theorem nmX1 : ∀ a, a < 4 → ∀ b, b < 4 → a ≠ b → (TX1 a).2.1 ≠ (TX1 b).2.1 := by decide +kernel
theorem tyX1_ok : ∀ k, k < 4 → parseFieldDescriptor (TX1 k).2.2.1 = some (tyX1 k) := by decide +kernel
abbrev cX1_init : ByteArray := prog_3_method_1_code
def yX1_init : MethodName := ⟨RX1, "<init>", "()V"⟩
abbrev cX1_add : ByteArray := prog_3_method_2_code
def yX1_add : MethodName := ⟨RX1, "add", "(III)Z"⟩
abbrev cX1_fits : ByteArray := prog_3_method_3_code
def yX1_fits : MethodName := ⟨RX1, "fits", "(LSnuffCourt$Court;LSnuffCourt$Trial;III)Z"⟩
def RX2 : String := "SnuffCourt$Reader"
def TX2 : u_T := fun k => match k with
  | 0 => ("SnuffCourt$Reader", "tape", "[I", true)
  | 1 => ("SnuffCourt$Reader", "told", "LSnuffCourt$Court;", true)
  | 2 => ("SnuffCourt$Reader", "size", "I", false)
  | 3 => ("SnuffCourt$Reader", "wrong", "I", false)
  | 4 => ("SnuffCourt$Reader", "docketTold", "Z", false)
  | 5 => ("SnuffCourt$Reader", "token", "I", false)
  | 6 => ("SnuffCourt$Reader", "from", "I", false)
  | 7 => ("SnuffCourt$Reader", "behind", "I", false)
  | _ => ("SnuffCourt$Reader", "number", "I", false)
def tyX2 : Nat → FieldType := fun k => match k with
  | 0 => .array .int
  | 1 => .object "SnuffCourt$Court"
  | 2 => .int
  | 3 => .int
  | 4 => .boolean
  | 5 => .int
  | 6 => .int
  | 7 => .int
  | _ => .int
abbrev wsX20 : List Cond := u_ws RX2 TX2 9
theorem nmX2 : ∀ a, a < 9 → ∀ b, b < 9 → a ≠ b → (TX2 a).2.1 ≠ (TX2 b).2.1 := by decide +kernel
theorem tyX2_ok : ∀ k, k < 9 → parseFieldDescriptor (TX2 k).2.2.1 = some (tyX2 k) := by decide +kernel
abbrev cX2_init : ByteArray := prog_4_method_1_code
def yX2_init : MethodName := ⟨RX2, "<init>", "()V"⟩
abbrev cX2_add : ByteArray := prog_4_method_2_code
def yX2_add : MethodName := ⟨RX2, "add", "(I)Z"⟩
abbrev cX2_begins : ByteArray := prog_4_method_3_code
def yX2_begins : MethodName := ⟨RX2, "begins", "()Z"⟩
abbrev cX2_isAtEnd : ByteArray := prog_4_method_4_code
def yX2_isAtEnd : MethodName := ⟨RX2, "isAtEnd", "()Z"⟩
abbrev cX2_fails : ByteArray := prog_4_method_5_code
def yX2_fails : MethodName := ⟨RX2, "fails", "(I)Z"⟩
abbrev cX2_docketStands : ByteArray := prog_4_method_6_code
def yX2_docketStands : MethodName := ⟨RX2, "docketStands", "()Z"⟩
abbrev cX2_takesLine : ByteArray := prog_4_method_7_code
def yX2_takesLine : MethodName := ⟨RX2, "takesLine", "()Z"⟩
abbrev cX2_takesCase : ByteArray := prog_4_method_8_code
def yX2_takesCase : MethodName := ⟨RX2, "takesCase", "()Z"⟩
abbrev cX2_takesFlame : ByteArray := prog_4_method_9_code
def yX2_takesFlame : MethodName := ⟨RX2, "takesFlame", "(I)Z"⟩
abbrev cX2_takesJudge : ByteArray := prog_4_method_10_code
def yX2_takesJudge : MethodName := ⟨RX2, "takesJudge", "(I)Z"⟩
abbrev cX2_takesDraught : ByteArray := prog_4_method_11_code
def yX2_takesDraught : MethodName := ⟨RX2, "takesDraught", "()Z"⟩
abbrev cX2_takesDocket : ByteArray := prog_4_method_12_code
def yX2_takesDocket : MethodName := ⟨RX2, "takesDocket", "()Z"⟩
abbrev cX2_takesHearing : ByteArray := prog_4_method_13_code
def yX2_takesHearing : MethodName := ⟨RX2, "takesHearing", "()Z"⟩
abbrev cX2_takesSign : ByteArray := prog_4_method_14_code
def yX2_takesSign : MethodName := ⟨RX2, "takesSign", "()Z"⟩
abbrev cX2_readsNumber : ByteArray := prog_4_method_15_code
def yX2_readsNumber : MethodName := ⟨RX2, "readsNumber", "(II)Z"⟩
abbrev cX2_isNumberIn : ByteArray := prog_4_method_16_code
def yX2_isNumberIn : MethodName := ⟨RX2, "isNumberIn", "(II)Z"⟩
abbrev cX2_readsNext : ByteArray := prog_4_method_17_code
def yX2_readsNext : MethodName := ⟨RX2, "readsNext", "()Z"⟩
abbrev cX2_figuresRead : ByteArray := prog_4_method_18_code
def yX2_figuresRead : MethodName := ⟨RX2, "figuresRead", "()I"⟩
abbrev cX2_tokenOf : ByteArray := prog_4_method_19_code
def yX2_tokenOf : MethodName := ⟨RX2, "tokenOf", "(I)I"⟩
abbrev cX2_kindNamed : ByteArray := prog_4_method_20_code
def yX2_kindNamed : MethodName := ⟨RX2, "kindNamed", "()I"⟩
abbrev cX2_habitNamed : ByteArray := prog_4_method_21_code
def yX2_habitNamed : MethodName := ⟨RX2, "habitNamed", "()I"⟩
abbrev cX2_isNamed : ByteArray := prog_4_method_22_code
def yX2_isNamed : MethodName := ⟨RX2, "isNamed", "(Ljava/lang/String;)Z"⟩
def RX3 : String := "SnuffCourt$Round"
def TX3 : u_T := fun k => match k with
  | 0 => ("SnuffCourt$Round", "verdict", "[I", true)
  | 1 => ("SnuffCourt$Round", "firstPassed", "I", false)
  | _ => ("SnuffCourt$Round", "minutes", "I", false)
def tyX3 : Nat → FieldType := fun k => match k with
  | 0 => .array .int
  | 1 => .int
  | _ => .int
abbrev wsX30 : List Cond := u_ws RX3 TX3 3
theorem nmX3 : ∀ a, a < 3 → ∀ b, b < 3 → a ≠ b → (TX3 a).2.1 ≠ (TX3 b).2.1 := by decide +kernel
theorem tyX3_ok : ∀ k, k < 3 → parseFieldDescriptor (TX3 k).2.2.1 = some (tyX3 k) := by decide +kernel
abbrev cX3_init : ByteArray := prog_5_method_1_code
def yX3_init : MethodName := ⟨RX3, "<init>", "()V"⟩
abbrev cX3_goByDocket : ByteArray := prog_5_method_2_code
def yX3_goByDocket : MethodName := ⟨RX3, "goByDocket", "(LSnuffCourt$Court;LSnuffCourt$Trial;I)V"⟩
def RX4 : String := "SnuffCourt$Sheets"
def TX4 : u_T := fun k => match k with
  | 0 => ("SnuffCourt$Sheets", "cells", "[I", true)
  | 1 => ("SnuffCourt$Sheets", "lane", "[I", true)
  | _ => ("SnuffCourt$Sheets", "size", "[I", true)
def tyX4 : Nat → FieldType := fun k => match k with
  | 0 => .array .int
  | 1 => .array .int
  | _ => .array .int
abbrev wsX40 : List Cond := u_ws RX4 TX4 3
theorem nmX4 : ∀ a, a < 3 → ∀ b, b < 3 → a ≠ b → (TX4 a).2.1 ≠ (TX4 b).2.1 := by decide +kernel
theorem tyX4_ok : ∀ k, k < 3 → parseFieldDescriptor (TX4 k).2.2.1 = some (tyX4 k) := by decide +kernel
abbrev cX4_init : ByteArray := prog_6_method_1_code
def yX4_init : MethodName := ⟨RX4, "<init>", "()V"⟩
abbrev cX4_renew : ByteArray := prog_6_method_2_code
def yX4_renew : MethodName := ⟨RX4, "renew", "(III)V"⟩
abbrev cX4_isNothing : ByteArray := prog_6_method_3_code
def yX4_isNothing : MethodName := ⟨RX4, "isNothing", "(I)Z"⟩
abbrev cX4_hasCell : ByteArray := prog_6_method_4_code
def yX4_hasCell : MethodName := ⟨RX4, "hasCell", "(II)Z"⟩
abbrev cX4_cell : ByteArray := prog_6_method_5_code
def yX4_cell : MethodName := ⟨RX4, "cell", "(II)I"⟩
abbrev cX4_put : ByteArray := prog_6_method_6_code
def yX4_put : MethodName := ⟨RX4, "put", "(III)V"⟩
abbrev cX4_faultAs : ByteArray := prog_6_method_7_code
def yX4_faultAs : MethodName := ⟨RX4, "faultAs", "(II)I"⟩
abbrev cX4_wholePairs : ByteArray := prog_6_method_8_code
def yX4_wholePairs : MethodName := ⟨RX4, "wholePairs", "(III)I"⟩
def RX5 : String := "SnuffCourt$Trial"
def TX5 : u_T := fun k => match k with
  | 0 => ("SnuffCourt$Trial", "kind", "[I", true)
  | 1 => ("SnuffCourt$Trial", "length", "[I", true)
  | 2 => ("SnuffCourt$Trial", "guard", "[I", true)
  | 3 => ("SnuffCourt$Trial", "strongest", "[I", true)
  | 4 => ("SnuffCourt$Trial", "habit", "I", false)
  | 5 => ("SnuffCourt$Trial", "slow", "I", false)
  | _ => ("SnuffCourt$Trial", "minute", "I", false)
def tyX5 : Nat → FieldType := fun k => match k with
  | 0 => .array .int
  | 1 => .array .int
  | 2 => .array .int
  | 3 => .array .int
  | 4 => .int
  | 5 => .int
  | _ => .int
abbrev wsX50 : List Cond := u_ws RX5 TX5 7
theorem nmX5 : ∀ a, a < 7 → ∀ b, b < 7 → a ≠ b → (TX5 a).2.1 ≠ (TX5 b).2.1 := by decide +kernel
theorem tyX5_ok : ∀ k, k < 7 → parseFieldDescriptor (TX5 k).2.2.1 = some (tyX5 k) := by decide +kernel
abbrev cX5_init : ByteArray := prog_7_method_1_code
def yX5_init : MethodName := ⟨RX5, "<init>", "()V"⟩
abbrev cX5_prepare : ByteArray := prog_7_method_2_code
def yX5_prepare : MethodName := ⟨RX5, "prepare", "(LSnuffCourt$Court;III)V"⟩
abbrev cX5_blows : ByteArray := prog_7_method_3_code
def yX5_blows : MethodName := ⟨RX5, "blows", "(II)V"⟩
abbrev cX5_change : ByteArray := prog_7_method_4_code
def yX5_change : MethodName := ⟨RX5, "change", "(III)V"⟩
abbrev cX5_verdictHeld : ByteArray := prog_7_method_5_code
def yX5_verdictHeld : MethodName := ⟨RX5, "verdictHeld", "()I"⟩
abbrev cX5_burnsStill : ByteArray := prog_7_method_6_code
def yX5_burnsStill : MethodName := ⟨RX5, "burnsStill", "(I)Z"⟩
abbrev cX5_goesTo : ByteArray := prog_7_method_7_code
def yX5_goesTo : MethodName := ⟨RX5, "goesTo", "()I"⟩
def RX6 : String := "SnuffCourt"
def TX6 : u_T := fun k => match k with
  | 0 => ("SnuffCourt", "court", "LSnuffCourt$Court;", true)
  | 1 => ("SnuffCourt", "firstImage", "LSnuffCourt$Court;", true)
  | 2 => ("SnuffCourt", "secondImage", "LSnuffCourt$Court;", true)
  | 3 => ("SnuffCourt", "kept", "[Z", true)
  | 4 => ("SnuffCourt", "reader", "LSnuffCourt$Reader;", true)
  | 5 => ("SnuffCourt", "trial", "LSnuffCourt$Trial;", true)
  | 6 => ("SnuffCourt", "round", "LSnuffCourt$Round;", true)
  | 7 => ("SnuffCourt", "memory", "LSnuffCourt$Memory;", true)
  | 8 => ("SnuffCourt", "sheets", "LSnuffCourt$Sheets;", true)
  | 9 => ("SnuffCourt", "verdictsByGuards", "[I", true)
  | 10 => ("SnuffCourt", "driftLengths", "[I", true)
  | _ => ("SnuffCourt", "lastTorn", "I", false)
def tyX6 : Nat → FieldType := fun k => match k with
  | 0 => .object "SnuffCourt$Court"
  | 1 => .object "SnuffCourt$Court"
  | 2 => .object "SnuffCourt$Court"
  | 3 => .array .boolean
  | 4 => .object "SnuffCourt$Reader"
  | 5 => .object "SnuffCourt$Trial"
  | 6 => .object "SnuffCourt$Round"
  | 7 => .object "SnuffCourt$Memory"
  | 8 => .object "SnuffCourt$Sheets"
  | 9 => .array .int
  | 10 => .array .int
  | _ => .int
abbrev wsX60 : List Cond := u_ws RX6 TX6 12
theorem nmX6 : ∀ a, a < 12 → ∀ b, b < 12 → a ≠ b → (TX6 a).2.1 ≠ (TX6 b).2.1 := by decide +kernel
theorem tyX6_ok : ∀ k, k < 12 → parseFieldDescriptor (TX6 k).2.2.1 = some (tyX6 k) := by decide +kernel
abbrev cX6_init : ByteArray := prog_1_method_1_code
def yX6_init : MethodName := ⟨RX6, "<init>", "()V"⟩
abbrev cX6_feed : ByteArray := prog_1_method_2_code
def yX6_feed : MethodName := ⟨RX6, "feed", "(I)I"⟩
abbrev cX6_end : ByteArray := prog_1_method_3_code
def yX6_end : MethodName := ⟨RX6, "end", "(I)I"⟩
abbrev cX6_text : ByteArray := prog_1_method_4_code
def yX6_text : MethodName := ⟨RX6, "text", "()I"⟩
abbrev cX6_fault : ByteArray := prog_1_method_5_code
def yX6_fault : MethodName := ⟨RX6, "fault", "()I"⟩
abbrev cX6_rule : ByteArray := prog_1_method_6_code
def yX6_rule : MethodName := ⟨RX6, "rule", "(I)I"⟩
abbrev cX6_flame : ByteArray := prog_1_method_7_code
def yX6_flame : MethodName := ⟨RX6, "flame", "(III)I"⟩
abbrev cX6_suit : ByteArray := prog_1_method_8_code
def yX6_suit : MethodName := ⟨RX6, "suit", "(II)I"⟩
abbrev cX6_judge : ByteArray := prog_1_method_9_code
def yX6_judge : MethodName := ⟨RX6, "judge", "(II)I"⟩
abbrev cX6_draught : ByteArray := prog_1_method_10_code
def yX6_draught : MethodName := ⟨RX6, "draught", "(II)I"⟩
abbrev cX6_docket : ByteArray := prog_1_method_11_code
def yX6_docket : MethodName := ⟨RX6, "docket", "(II)I"⟩
abbrev cX6_trim : ByteArray := prog_1_method_12_code
def yX6_trim : MethodName := ⟨RX6, "trim", "(IIII)I"⟩
abbrev cX6_train : ByteArray := prog_1_method_13_code
def yX6_train : MethodName := ⟨RX6, "train", "(III)I"⟩
abbrev cX6_blow : ByteArray := prog_1_method_14_code
def yX6_blow : MethodName := ⟨RX6, "blow", "(II)I"⟩
abbrev cX6_calm : ByteArray := prog_1_method_15_code
def yX6_calm : MethodName := ⟨RX6, "calm", "(I)I"⟩
abbrev cX6_plan : ByteArray := prog_1_method_16_code
def yX6_plan : MethodName := ⟨RX6, "plan", "(II)I"⟩
abbrev cX6_cut : ByteArray := prog_1_method_17_code
def yX6_cut : MethodName := ⟨RX6, "cut", "(I)I"⟩
abbrev cX6_hear : ByteArray := prog_1_method_18_code
def yX6_hear : MethodName := ⟨RX6, "hear", "(II)I"⟩
abbrev cX6_appeal : ByteArray := prog_1_method_19_code
def yX6_appeal : MethodName := ⟨RX6, "appeal", "(I)I"⟩
abbrev cX6_foretell : ByteArray := prog_1_method_20_code
def yX6_foretell : MethodName := ⟨RX6, "foretell", "(III)I"⟩
abbrev cX6_runs : ByteArray := prog_1_method_21_code
def yX6_runs : MethodName := ⟨RX6, "runs", "(I)I"⟩
abbrev cX6_ahead : ByteArray := prog_1_method_22_code
def yX6_ahead : MethodName := ⟨RX6, "ahead", "(I)I"⟩
abbrev cX6_friends : ByteArray := prog_1_method_23_code
def yX6_friends : MethodName := ⟨RX6, "friends", "(II)I"⟩
abbrev cX6_wax : ByteArray := prog_1_method_24_code
def yX6_wax : MethodName := ⟨RX6, "wax", "(III)I"⟩
abbrev cX6_least : ByteArray := prog_1_method_25_code
def yX6_least : MethodName := ⟨RX6, "least", "(III)I"⟩
abbrev cX6_hand : ByteArray := prog_1_method_26_code
def yX6_hand : MethodName := ⟨RX6, "hand", "(III)I"⟩
abbrev cX6_turn : ByteArray := prog_1_method_27_code
def yX6_turn : MethodName := ⟨RX6, "turn", "(III)I"⟩
abbrev cX6_sure : ByteArray := prog_1_method_28_code
def yX6_sure : MethodName := ⟨RX6, "sure", "(III)I"⟩
abbrev cX6_rest : ByteArray := prog_1_method_29_code
def yX6_rest : MethodName := ⟨RX6, "rest", "(III)I"⟩
abbrev cX6_share : ByteArray := prog_1_method_30_code
def yX6_share : MethodName := ⟨RX6, "share", "(II)I"⟩
abbrev cX6_swap : ByteArray := prog_1_method_31_code
def yX6_swap : MethodName := ⟨RX6, "swap", "(II)I"⟩
abbrev cX6_luck : ByteArray := prog_1_method_32_code
def yX6_luck : MethodName := ⟨RX6, "luck", "(IIIII)J"⟩
abbrev cX6_mean : ByteArray := prog_1_method_33_code
def yX6_mean : MethodName := ⟨RX6, "mean", "(III)J"⟩
abbrev cX6_see : ByteArray := prog_1_method_34_code
def yX6_see : MethodName := ⟨RX6, "see", "(III)I"⟩
abbrev cX6_forget : ByteArray := prog_1_method_35_code
def yX6_forget : MethodName := ⟨RX6, "forget", "(I)I"⟩
abbrev cX6_habits : ByteArray := prog_1_method_36_code
def yX6_habits : MethodName := ⟨RX6, "habits", "(I)I"⟩
abbrev cX6_slows : ByteArray := prog_1_method_37_code
def yX6_slows : MethodName := ⟨RX6, "slows", "(I)I"⟩
abbrev cX6_ask : ByteArray := prog_1_method_38_code
def yX6_ask : MethodName := ⟨RX6, "ask", "(II)I"⟩
abbrev cX6_drift : ByteArray := prog_1_method_39_code
def yX6_drift : MethodName := ⟨RX6, "drift", "(III)I"⟩
abbrev cX6_keep : ByteArray := prog_1_method_40_code
def yX6_keep : MethodName := ⟨RX6, "keep", "(I)I"⟩
abbrev cX6_back : ByteArray := prog_1_method_41_code
def yX6_back : MethodName := ⟨RX6, "back", "(I)I"⟩
abbrev cX6_sheet : ByteArray := prog_1_method_42_code
def yX6_sheet : MethodName := ⟨RX6, "sheet", "(III)I"⟩
abbrev cX6_lay : ByteArray := prog_1_method_43_code
def yX6_lay : MethodName := ⟨RX6, "lay", "(III)I"⟩
abbrev cX6_read : ByteArray := prog_1_method_44_code
def yX6_read : MethodName := ⟨RX6, "read", "(IIII)I"⟩
abbrev cX6_torn : ByteArray := prog_1_method_45_code
def yX6_torn : MethodName := ⟨RX6, "torn", "()I"⟩
abbrev cX6_count : ByteArray := prog_1_method_46_code
def yX6_count : MethodName := ⟨RX6, "count", "(I)I"⟩
abbrev cX6_isIn : ByteArray := prog_1_method_47_code
def yX6_isIn : MethodName := ⟨RX6, "isIn", "(JII)Z"⟩
abbrev cX6_isSide : ByteArray := prog_1_method_48_code
def yX6_isSide : MethodName := ⟨RX6, "isSide", "(I)Z"⟩
abbrev cX6_isSheet : ByteArray := prog_1_method_49_code
def yX6_isSheet : MethodName := ⟨RX6, "isSheet", "(II)Z"⟩
abbrev cX6_isFlame : ByteArray := prog_1_method_50_code
def yX6_isFlame : MethodName := ⟨RX6, "isFlame", "(II)Z"⟩
abbrev cX6_imageOf : ByteArray := prog_1_method_51_code
def yX6_imageOf : MethodName := ⟨RX6, "imageOf", "(I)LSnuffCourt$Court;"⟩
abbrev cX6_exchange : ByteArray := prog_1_method_52_code
def yX6_exchange : MethodName := ⟨RX6, "exchange", "([III)I"⟩
abbrev cX6_copyRow : ByteArray := prog_1_method_53_code
def yX6_copyRow : MethodName := ⟨RX6, "copyRow", "([I[I)V"⟩
abbrev cX6_bitsOf : ByteArray := prog_1_method_54_code
def yX6_bitsOf : MethodName := ⟨RX6, "bitsOf", "([III)I"⟩
abbrev cX6_prepare : ByteArray := prog_1_method_55_code
def yX6_prepare : MethodName := ⟨RX6, "prepare", "(III)V"⟩
abbrev cX6_verdictNow : ByteArray := prog_1_method_56_code
def yX6_verdictNow : MethodName := ⟨RX6, "verdictNow", "(II)I"⟩
abbrev cX6_hearForGood : ByteArray := prog_1_method_57_code
def yX6_hearForGood : MethodName := ⟨RX6, "hearForGood", "(II)I"⟩
abbrev cX6_pairsAccepted : ByteArray := prog_1_method_58_code
def yX6_pairsAccepted : MethodName := ⟨RX6, "pairsAccepted", "(III)I"⟩
abbrev cX6_judgesFor : ByteArray := prog_1_method_59_code
def yX6_judgesFor : MethodName := ⟨RX6, "judgesFor", "(II)I"⟩
abbrev cX6_firstThatWins : ByteArray := prog_1_method_60_code
def yX6_firstThatWins : MethodName := ⟨RX6, "firstThatWins", "(IIII)I"⟩
abbrev cX6_fillVerdictsByGuards : ByteArray := prog_1_method_61_code
def yX6_fillVerdictsByGuards : MethodName := ⟨RX6, "fillVerdictsByGuards", "(II)V"⟩
abbrev cX6_winsWhateverTheOther : ByteArray := prog_1_method_62_code
def yX6_winsWhateverTheOther : MethodName := ⟨RX6, "winsWhateverTheOther", "(II)Z"⟩
abbrev cX6_isAtRest : ByteArray := prog_1_method_63_code
def yX6_isAtRest : MethodName := ⟨RX6, "isAtRest", "(II)Z"⟩
abbrev cX6_worth : ByteArray := prog_1_method_64_code
def yX6_worth : MethodName := ⟨RX6, "worth", "(II)I"⟩
abbrev cX6_casesThatMayBeWon : ByteArray := prog_1_method_65_code
def yX6_casesThatMayBeWon : MethodName := ⟨RX6, "casesThatMayBeWon", "(I)I"⟩
abbrev cX6_bestJudge : ByteArray := prog_1_method_66_code
def yX6_bestJudge : MethodName := ⟨RX6, "bestJudge", "(II)I"⟩
abbrev cX6_wonByDocket : ByteArray := prog_1_method_67_code
def yX6_wonByDocket : MethodName := ⟨RX6, "wonByDocket", "(II)I"⟩
abbrev cX6_weightOf : ByteArray := prog_1_method_68_code
def yX6_weightOf : MethodName := ⟨RX6, "weightOf", "(II)J"⟩
abbrev cX6_tenths : ByteArray := prog_1_method_69_code
def yX6_tenths : MethodName := ⟨RX6, "tenths", "()J"⟩
abbrev cX6_inLowestTerms : ByteArray := prog_1_method_70_code
def yX6_inLowestTerms : MethodName := ⟨RX6, "inLowestTerms", "(JJI)J"⟩
abbrev cX6_habitsAsSeen : ByteArray := prog_1_method_71_code
def yX6_habitsAsSeen : MethodName := ⟨RX6, "habitsAsSeen", "(I)I"⟩
abbrev cX6_leftAtTheWorst : ByteArray := prog_1_method_72_code
def yX6_leftAtTheWorst : MethodName := ⟨RX6, "leftAtTheWorst", "(III)I"⟩
abbrev cX6_driftVerdict : ByteArray := prog_1_method_73_code
def yX6_driftVerdict : MethodName := ⟨RX6, "driftVerdict", "(I)I"⟩
def RX7 : String := "SnuffCourtModel"
def TX7 : u_T := fun k => match k with
  | 0 => ("SnuffCourtModel", "state", "[I", true)
  | 1 => ("SnuffCourtModel", "burns", "[I", true)
  | 2 => ("SnuffCourtModel", "caseMany", "I", false)
  | 3 => ("SnuffCourtModel", "judgeMany", "I", false)
  | 4 => ("SnuffCourtModel", "readPage", "[I", true)
  | 5 => ("SnuffCourtModel", "readCases", "I", false)
  | 6 => ("SnuffCourtModel", "readJudges", "I", false)
  | 7 => ("SnuffCourtModel", "isDocketTold", "Z", false)
  | 8 => ("SnuffCourtModel", "highCase", "I", false)
  | 9 => ("SnuffCourtModel", "highJudge", "I", false)
  | 10 => ("SnuffCourtModel", "tape", "[I", true)
  | 11 => ("SnuffCourtModel", "taped", "I", false)
  | 12 => ("SnuffCourtModel", "fault", "I", false)
  | 13 => ("SnuffCourtModel", "broken", "I", false)
  | 14 => ("SnuffCourtModel", "brokenAt", "I", false)
  | 15 => ("SnuffCourtModel", "spot", "I", false)
  | 16 => ("SnuffCourtModel", "here", "I", false)
  | 17 => ("SnuffCourtModel", "token", "I", false)
  | 18 => ("SnuffCourtModel", "value", "I", false)
  | 19 => ("SnuffCourtModel", "cuts", "[I", true)
  | 20 => ("SnuffCourtModel", "letters", "[I", true)
  | 21 => ("SnuffCourtModel", "away", "I", false)
  | 22 => ("SnuffCourtModel", "moreMinute", "I", false)
  | 23 => ("SnuffCourtModel", "moreStrength", "I", false)
  | 24 => ("SnuffCourtModel", "endedAt", "I", false)
  | 25 => ("SnuffCourtModel", "firstNot", "I", false)
  | 26 => ("SnuffCourtModel", "minutes", "I", false)
  | 27 => ("SnuffCourtModel", "worths", "[I", true)
  | 28 => ("SnuffCourtModel", "seen", "[I", true)
  | 29 => ("SnuffCourtModel", "seenMany", "I", false)
  | 30 => ("SnuffCourtModel", "verdictBy", "[I", true)
  | 31 => ("SnuffCourtModel", "isKept", "[Z", true)
  | 32 => ("SnuffCourtModel", "lanes", "[I", true)
  | 33 => ("SnuffCourtModel", "lengths", "[I", true)
  | 34 => ("SnuffCourtModel", "cells", "[I", true)
  | _ => ("SnuffCourtModel", "torn", "I", false)
def tyX7 : Nat → FieldType := fun k => match k with
  | 0 => .array .int
  | 1 => .array .int
  | 2 => .int
  | 3 => .int
  | 4 => .array .int
  | 5 => .int
  | 6 => .int
  | 7 => .boolean
  | 8 => .int
  | 9 => .int
  | 10 => .array .int
  | 11 => .int
  | 12 => .int
  | 13 => .int
  | 14 => .int
  | 15 => .int
  | 16 => .int
  | 17 => .int
  | 18 => .int
  | 19 => .array .int
  | 20 => .array .int
  | 21 => .int
  | 22 => .int
  | 23 => .int
  | 24 => .int
  | 25 => .int
  | 26 => .int
  | 27 => .array .int
  | 28 => .array .int
  | 29 => .int
  | 30 => .array .int
  | 31 => .array .boolean
  | 32 => .array .int
  | 33 => .array .int
  | 34 => .array .int
  | _ => .int
abbrev wsX70 : List Cond := u_ws RX7 TX7 36
theorem nmX7 : ∀ a, a < 36 → ∀ b, b < 36 → a ≠ b → (TX7 a).2.1 ≠ (TX7 b).2.1 := by decide +kernel
theorem tyX7_ok : ∀ k, k < 36 → parseFieldDescriptor (TX7 k).2.2.1 = some (tyX7 k) := by decide +kernel
abbrev cX7_init : ByteArray := prog_9_method_1_code
def yX7_init : MethodName := ⟨RX7, "<init>", "()V"⟩
abbrev cX7_in : ByteArray := prog_9_method_3_code
def yX7_in : MethodName := ⟨RX7, "in", "(JJJ)Z"⟩
abbrev cX7_feed : ByteArray := prog_9_method_4_code
def yX7_feed : MethodName := ⟨RX7, "feed", "(I)I"⟩
abbrev cX7_end : ByteArray := prog_9_method_5_code
def yX7_end : MethodName := ⟨RX7, "end", "(I)I"⟩
abbrev cX7_byteAt : ByteArray := prog_9_method_6_code
def yX7_byteAt : MethodName := ⟨RX7, "byteAt", "(I)I"⟩
abbrev cX7_fails : ByteArray := prog_9_method_7_code
def yX7_fails : MethodName := ⟨RX7, "fails", "(I)V"⟩
abbrev cX7_nameHere : ByteArray := prog_9_method_8_code
def yX7_nameHere : MethodName := ⟨RX7, "nameHere", "()I"⟩
abbrev cX7_step : ByteArray := prog_9_method_9_code
def yX7_step : MethodName := ⟨RX7, "step", "()V"⟩
abbrev cX7_number : ByteArray := prog_9_method_10_code
def yX7_number : MethodName := ⟨RX7, "number", "(II)I"⟩
abbrev cX7_readFlame : ByteArray := prog_9_method_11_code
def yX7_readFlame : MethodName := ⟨RX7, "readFlame", "(I)V"⟩
abbrev cX7_readDocket : ByteArray := prog_9_method_12_code
def yX7_readDocket : MethodName := ⟨RX7, "readDocket", "()V"⟩
abbrev cX7_readMore : ByteArray := prog_9_method_13_code
def yX7_readMore : MethodName := ⟨RX7, "readMore", "(I)V"⟩
abbrev cX7_readLine : ByteArray := prog_9_method_14_code
def yX7_readLine : MethodName := ⟨RX7, "readLine", "()V"⟩
abbrev cX7_text : ByteArray := prog_9_method_15_code
def yX7_text : MethodName := ⟨RX7, "text", "()I"⟩
abbrev cX7_fault : ByteArray := prog_9_method_16_code
def yX7_fault : MethodName := ⟨RX7, "fault", "()I"⟩
abbrev cX7_isCase : ByteArray := prog_9_method_17_code
def yX7_isCase : MethodName := ⟨RX7, "isCase", "(I)Z"⟩
abbrev cX7_isJudge : ByteArray := prog_9_method_18_code
def yX7_isJudge : MethodName := ⟨RX7, "isJudge", "(I)Z"⟩
abbrev cX7_isSide : ByteArray := prog_9_method_19_code
def yX7_isSide : MethodName := ⟨RX7, "isSide", "(I)Z"⟩
abbrev cX7_isBlown : ByteArray := prog_9_method_20_code
def yX7_isBlown : MethodName := ⟨RX7, "isBlown", "(III)Z"⟩
abbrev cX7_isOut : ByteArray := prog_9_method_21_code
def yX7_isOut : MethodName := ⟨RX7, "isOut", "(III)Z"⟩
abbrev cX7_goesTo : ByteArray := prog_9_method_22_code
def yX7_goesTo : MethodName := ⟨RX7, "goesTo", "(III)I"⟩
abbrev cX7_burnsOn : ByteArray := prog_9_method_23_code
def yX7_burnsOn : MethodName := ⟨RX7, "burnsOn", "(II)V"⟩
abbrev cX7_hearsOn : ByteArray := prog_9_method_24_code
def yX7_hearsOn : MethodName := ⟨RX7, "hearsOn", "(III)I"⟩
abbrev cX7_wonOn : ByteArray := prog_9_method_25_code
def yX7_wonOn : MethodName := ⟨RX7, "wonOn", "(II)I"⟩
abbrev cX7_lengthsOn : ByteArray := prog_9_method_26_code
def yX7_lengthsOn : MethodName := ⟨RX7, "lengthsOn", "(I)I"⟩
abbrev cX7_lengthOf : ByteArray := prog_9_method_27_code
def yX7_lengthOf : MethodName := ⟨RX7, "lengthOf", "(II)I"⟩
abbrev cX7_rule : ByteArray := prog_9_method_28_code
def yX7_rule : MethodName := ⟨RX7, "rule", "(I)I"⟩
abbrev cX7_flame : ByteArray := prog_9_method_29_code
def yX7_flame : MethodName := ⟨RX7, "flame", "(III)I"⟩
abbrev cX7_suit : ByteArray := prog_9_method_30_code
def yX7_suit : MethodName := ⟨RX7, "suit", "(II)I"⟩
abbrev cX7_judge : ByteArray := prog_9_method_31_code
def yX7_judge : MethodName := ⟨RX7, "judge", "(II)I"⟩
abbrev cX7_draught : ByteArray := prog_9_method_32_code
def yX7_draught : MethodName := ⟨RX7, "draught", "(II)I"⟩
abbrev cX7_docket : ByteArray := prog_9_method_33_code
def yX7_docket : MethodName := ⟨RX7, "docket", "(II)I"⟩
abbrev cX7_puts : ByteArray := prog_9_method_34_code
def yX7_puts : MethodName := ⟨RX7, "puts", "(ZII)I"⟩
abbrev cX7_trim : ByteArray := prog_9_method_35_code
def yX7_trim : MethodName := ⟨RX7, "trim", "(IIII)I"⟩
abbrev cX7_train : ByteArray := prog_9_method_36_code
def yX7_train : MethodName := ⟨RX7, "train", "(III)I"⟩
abbrev cX7_blow : ByteArray := prog_9_method_37_code
def yX7_blow : MethodName := ⟨RX7, "blow", "(II)I"⟩
abbrev cX7_calm : ByteArray := prog_9_method_38_code
def yX7_calm : MethodName := ⟨RX7, "calm", "(I)I"⟩
abbrev cX7_plan : ByteArray := prog_9_method_39_code
def yX7_plan : MethodName := ⟨RX7, "plan", "(II)I"⟩
abbrev cX7_cut : ByteArray := prog_9_method_40_code
def yX7_cut : MethodName := ⟨RX7, "cut", "(I)I"⟩
abbrev cX7_isHeard : ByteArray := prog_9_method_41_code
def yX7_isHeard : MethodName := ⟨RX7, "isHeard", "(II)Z"⟩
abbrev cX7_judgesOn : ByteArray := prog_9_method_42_code
def yX7_judgesOn : MethodName := ⟨RX7, "judgesOn", "(III)I"⟩
abbrev cX7_hears : ByteArray := prog_9_method_43_code
def yX7_hears : MethodName := ⟨RX7, "hears", "(II)I"⟩
abbrev cX7_hear : ByteArray := prog_9_method_44_code
def yX7_hear : MethodName := ⟨RX7, "hear", "(II)I"⟩
abbrev cX7_appeal : ByteArray := prog_9_method_45_code
def yX7_appeal : MethodName := ⟨RX7, "appeal", "(I)I"⟩
abbrev cX7_copies : ByteArray := prog_9_method_46_code
def yX7_copies : MethodName := ⟨RX7, "copies", "(II)V"⟩
abbrev cX7_tries : ByteArray := prog_9_method_47_code
def yX7_tries : MethodName := ⟨RX7, "tries", "(III)I"⟩
abbrev cX7_foretell : ByteArray := prog_9_method_48_code
def yX7_foretell : MethodName := ⟨RX7, "foretell", "(III)I"⟩
abbrev cX7_docketGoes : ByteArray := prog_9_method_49_code
def yX7_docketGoes : MethodName := ⟨RX7, "docketGoes", "(I)V"⟩
abbrev cX7_runs : ByteArray := prog_9_method_50_code
def yX7_runs : MethodName := ⟨RX7, "runs", "(I)I"⟩
abbrev cX7_ahead : ByteArray := prog_9_method_51_code
def yX7_ahead : MethodName := ⟨RX7, "ahead", "(I)I"⟩
abbrev cX7_isWonBy : ByteArray := prog_9_method_52_code
def yX7_isWonBy : MethodName := ⟨RX7, "isWonBy", "(IIII)Z"⟩
abbrev cX7_friends : ByteArray := prog_9_method_53_code
def yX7_friends : MethodName := ⟨RX7, "friends", "(II)I"⟩
abbrev cX7_leastOf : ByteArray := prog_9_method_54_code
def yX7_leastOf : MethodName := ⟨RX7, "leastOf", "(IIIII)I"⟩
abbrev cX7_wax : ByteArray := prog_9_method_55_code
def yX7_wax : MethodName := ⟨RX7, "wax", "(III)I"⟩
abbrev cX7_least : ByteArray := prog_9_method_56_code
def yX7_least : MethodName := ⟨RX7, "least", "(III)I"⟩
abbrev cX7_hand : ByteArray := prog_9_method_57_code
def yX7_hand : MethodName := ⟨RX7, "hand", "(III)I"⟩
abbrev cX7_turn : ByteArray := prog_9_method_58_code
def yX7_turn : MethodName := ⟨RX7, "turn", "(III)I"⟩
abbrev cX7_byGuards : ByteArray := prog_9_method_59_code
def yX7_byGuards : MethodName := ⟨RX7, "byGuards", "(IIII)I"⟩
abbrev cX7_sure : ByteArray := prog_9_method_60_code
def yX7_sure : MethodName := ⟨RX7, "sure", "(III)I"⟩
abbrev cX7_isRest : ByteArray := prog_9_method_61_code
def yX7_isRest : MethodName := ⟨RX7, "isRest", "(II)Z"⟩
abbrev cX7_rest : ByteArray := prog_9_method_62_code
def yX7_rest : MethodName := ⟨RX7, "rest", "(III)I"⟩
abbrev cX7_share : ByteArray := prog_9_method_63_code
def yX7_share : MethodName := ⟨RX7, "share", "(II)I"⟩
abbrev cX7_bitsOf : ByteArray := prog_9_method_64_code
def yX7_bitsOf : MethodName := ⟨RX7, "bitsOf", "(I)I"⟩
abbrev cX7_wonThen : ByteArray := prog_9_method_65_code
def yX7_wonThen : MethodName := ⟨RX7, "wonThen", "(II)I"⟩
abbrev cX7_swap : ByteArray := prog_9_method_66_code
def yX7_swap : MethodName := ⟨RX7, "swap", "(II)I"⟩
abbrev cX7_lowest : ByteArray := prog_9_method_67_code
def yX7_lowest : MethodName := ⟨RX7, "lowest", "(JJI)J"⟩
abbrev cX7_byAway : ByteArray := prog_9_method_68_code
def yX7_byAway : MethodName := ⟨RX7, "byAway", "(IIIII)J"⟩
abbrev cX7_luck : ByteArray := prog_9_method_69_code
def yX7_luck : MethodName := ⟨RX7, "luck", "(IIIII)J"⟩
abbrev cX7_mean : ByteArray := prog_9_method_70_code
def yX7_mean : MethodName := ⟨RX7, "mean", "(III)J"⟩
abbrev cX7_see : ByteArray := prog_9_method_71_code
def yX7_see : MethodName := ⟨RX7, "see", "(III)I"⟩
abbrev cX7_forget : ByteArray := prog_9_method_72_code
def yX7_forget : MethodName := ⟨RX7, "forget", "(I)I"⟩
abbrev cX7_isAsSeen : ByteArray := prog_9_method_73_code
def yX7_isAsSeen : MethodName := ⟨RX7, "isAsSeen", "()Z"⟩
abbrev cX7_habitsOf : ByteArray := prog_9_method_74_code
def yX7_habitsOf : MethodName := ⟨RX7, "habitsOf", "(I)I"⟩
abbrev cX7_habits : ByteArray := prog_9_method_75_code
def yX7_habits : MethodName := ⟨RX7, "habits", "(I)I"⟩
abbrev cX7_slows : ByteArray := prog_9_method_76_code
def yX7_slows : MethodName := ⟨RX7, "slows", "(I)I"⟩
abbrev cX7_ask : ByteArray := prog_9_method_77_code
def yX7_ask : MethodName := ⟨RX7, "ask", "(II)I"⟩
abbrev cX7_drift : ByteArray := prog_9_method_78_code
def yX7_drift : MethodName := ⟨RX7, "drift", "(III)I"⟩
abbrev cX7_keep : ByteArray := prog_9_method_79_code
def yX7_keep : MethodName := ⟨RX7, "keep", "(I)I"⟩
abbrev cX7_back : ByteArray := prog_9_method_80_code
def yX7_back : MethodName := ⟨RX7, "back", "(I)I"⟩
abbrev cX7_sheet : ByteArray := prog_9_method_81_code
def yX7_sheet : MethodName := ⟨RX7, "sheet", "(III)I"⟩
abbrev cX7_lay : ByteArray := prog_9_method_82_code
def yX7_lay : MethodName := ⟨RX7, "lay", "(III)I"⟩
abbrev cX7_read : ByteArray := prog_9_method_83_code
def yX7_read : MethodName := ⟨RX7, "read", "(IIII)I"⟩
abbrev cX7_torn : ByteArray := prog_9_method_84_code
def yX7_torn : MethodName := ⟨RX7, "torn", "()I"⟩
abbrev cX7_count : ByteArray := prog_9_method_85_code
def yX7_count : MethodName := ⟨RX7, "count", "(I)I"⟩
def RJ6 : String := "java/lang/Integer"
def TJ6 : u_T := fun k => match k with
  | _ => ("", "", "", false)
def tyJ6 : Nat → FieldType := fun k => match k with
  | _ => .int
abbrev wsJ60 : List Cond := u_ws RJ6 TJ6 0
theorem nmJ6 : ∀ a, a < 0 → ∀ b, b < 0 → a ≠ b → (TJ6 a).2.1 ≠ (TJ6 b).2.1 := by decide +kernel
theorem tyJ6_ok : ∀ k, k < 0 → parseFieldDescriptor (TJ6 k).2.2.1 = some (tyJ6 k) := by decide +kernel
abbrev cJ6_numberOfTrailingZeros_0f7a4 : ByteArray := prog_10_method_48_code
def yJ6_numberOfTrailingZeros_0f7a4 : MethodName := ⟨RJ6, "numberOfTrailingZeros", "(I)I"⟩
abbrev cJ6_bitCount_0f7a4 : ByteArray := prog_10_method_49_code
def yJ6_bitCount_0f7a4 : MethodName := ⟨RJ6, "bitCount", "(I)I"⟩
def RJ9 : String := "java/lang/Math"
def TJ9 : u_T := fun k => match k with
  | _ => ("", "", "", false)
def tyJ9 : Nat → FieldType := fun k => match k with
  | _ => .int
abbrev wsJ90 : List Cond := u_ws RJ9 TJ9 0
theorem nmJ9 : ∀ a, a < 0 → ∀ b, b < 0 → a ≠ b → (TJ9 a).2.1 ≠ (TJ9 b).2.1 := by decide +kernel
theorem tyJ9_ok : ∀ k, k < 0 → parseFieldDescriptor (TJ9 k).2.2.1 = some (tyJ9 k) := by decide +kernel
abbrev cJ9_max_7cf53 : ByteArray := prog_11_method_65_code
def yJ9_max_7cf53 : MethodName := ⟨RJ9, "max", "(II)I"⟩
abbrev cJ9_min_7cf53 : ByteArray := prog_11_method_69_code
def yJ9_min_7cf53 : MethodName := ⟨RJ9, "min", "(II)I"⟩
def RJ0 : String := "java/lang/String"
def TJ0 : u_T := fun k => match k with
  | _ => ("", "", "", false)
def tyJ0 : Nat → FieldType := fun k => match k with
  | _ => .int
abbrev wsJ00 : List Cond := u_ws RJ0 TJ0 0
theorem nmJ0 : ∀ a, a < 0 → ∀ b, b < 0 → a ≠ b → (TJ0 a).2.1 ≠ (TJ0 b).2.1 := by decide +kernel
theorem tyJ0_ok : ∀ k, k < 0 → parseFieldDescriptor (TJ0 k).2.2.1 = some (tyJ0 k) := by decide +kernel
abbrev cJ0_length_8abf5 : ByteArray := prog_12_method_54_code
def yJ0_length_8abf5 : MethodName := ⟨RJ0, "length", "()I"⟩
abbrev cJ0_charAt_5068e : ByteArray := prog_12_method_56_code
def yJ0_charAt_5068e : MethodName := ⟨RJ0, "charAt", "(I)C"⟩
abbrev cJ0_coder_7d493 : ByteArray := prog_12_method_152_code
def yJ0_coder_7d493 : MethodName := ⟨RJ0, "coder", "()B"⟩
abbrev cJ0_isLatin1_aae02 : ByteArray := prog_12_method_154_code
def yJ0_isLatin1_aae02 : MethodName := ⟨RJ0, "isLatin1", "()Z"⟩
abbrev cJ0_checkIndex_df160 : ByteArray := prog_12_method_155_code
def yJ0_checkIndex_df160 : MethodName := ⟨RJ0, "checkIndex", "(II)V"⟩
def RJ1 : String := "java/lang/StringLatin1"
def TJ1 : u_T := fun k => match k with
  | _ => ("", "", "", false)
def tyJ1 : Nat → FieldType := fun k => match k with
  | _ => .int
abbrev wsJ10 : List Cond := u_ws RJ1 TJ1 0
theorem nmJ1 : ∀ a, a < 0 → ∀ b, b < 0 → a ≠ b → (TJ1 a).2.1 ≠ (TJ1 b).2.1 := by decide +kernel
theorem tyJ1_ok : ∀ k, k < 0 → parseFieldDescriptor (TJ1 k).2.2.1 = some (tyJ1 k) := by decide +kernel
abbrev cJ1_charAt_3b067 : ByteArray := prog_13_method_2_code
def yJ1_charAt_3b067 : MethodName := ⟨RJ1, "charAt", "([BI)C"⟩
def RJ2 : String := "java/lang/StringUTF16"
def TJ2 : u_T := fun k => match k with
  | _ => ("", "", "", false)
def tyJ2 : Nat → FieldType := fun k => match k with
  | _ => .int
abbrev wsJ20 : List Cond := u_ws RJ2 TJ2 0
theorem nmJ2 : ∀ a, a < 0 → ∀ b, b < 0 → a ≠ b → (TJ2 a).2.1 ≠ (TJ2 b).2.1 := by decide +kernel
theorem tyJ2_ok : ∀ k, k < 0 → parseFieldDescriptor (TJ2 k).2.2.1 = some (tyJ2 k) := by decide +kernel
abbrev cJ2_getChar_3b067 : ByteArray := prog_14_method_5_code
def yJ2_getChar_3b067 : MethodName := ⟨RJ2, "getChar", "([BI)C"⟩
abbrev cJ2_length_9d52b : ByteArray := prog_14_method_6_code
def yJ2_length_9d52b : MethodName := ⟨RJ2, "length", "([B)I"⟩
abbrev cJ2_charAt_3b067 : ByteArray := prog_14_method_83_code
def yJ2_charAt_3b067 : MethodName := ⟨RJ2, "charAt", "([BI)C"⟩
abbrev cJ2_checkIndex_2214a : ByteArray := prog_14_method_91_code
def yJ2_checkIndex_2214a : MethodName := ⟨RJ2, "checkIndex", "(I[B)V"⟩
def RJ10 : String := "java/lang/System"
def TJ10 : u_T := fun k => match k with
  | _ => ("", "", "", false)
def tyJ10 : Nat → FieldType := fun k => match k with
  | _ => .int
abbrev wsJ100 : List Cond := u_ws RJ10 TJ10 0
theorem nmJ10 : ∀ a, a < 0 → ∀ b, b < 0 → a ≠ b → (TJ10 a).2.1 ≠ (TJ10 b).2.1 := by decide +kernel
theorem tyJ10_ok : ∀ k, k < 0 → parseFieldDescriptor (TJ10 k).2.2.1 = some (tyJ10 k) := by decide +kernel
def RJ3 : String := "jdk/internal/util/Preconditions"
def TJ3 : u_T := fun k => match k with
  | _ => ("", "", "", false)
def tyJ3 : Nat → FieldType := fun k => match k with
  | _ => .int
abbrev wsJ30 : List Cond := u_ws RJ3 TJ3 0
theorem nmJ3 : ∀ a, a < 0 → ∀ b, b < 0 → a ≠ b → (TJ3 a).2.1 ≠ (TJ3 b).2.1 := by decide +kernel
theorem tyJ3_ok : ∀ k, k < 0 → parseFieldDescriptor (TJ3 k).2.2.1 = some (tyJ3 k) := by decide +kernel
abbrev cJ3_checkIndex_8e157 : ByteArray := prog_16_method_11_code
def yJ3_checkIndex_8e157 : MethodName := ⟨RJ3, "checkIndex", "(IILjava/util/function/BiFunction;)I"⟩
def RL : String := "SnuffCourtLaw"
abbrev cL_law : ByteArray := code
def yL_law : MethodName := ⟨RL, "law", "([I)Z"⟩
abbrev vwCl : List vw_C := [(RX0, TX0, 17), (RX1, TX1, 4), (RX2, TX2, 9), (RX3, TX3, 3), (RX4, TX4, 3), (RX5, TX5, 7), (RX6, TX6, 12), (RX7, TX7, 36)]
end
section
/-! decode, an opcode at a time: what stands at a place of the code is looked at in the list of its bytes -/
noncomputable def dpB (n : Nat) : List UInt8 → List UInt8 := Nat.rec (motive := fun _ => List UInt8 → List UInt8) (fun l => l) (fun _ ih l => List.rec (motive := fun _ => List UInt8) [] (fun _ r _ => ih r) l) n
theorem dpB_eq : ∀ (n : Nat) (l : List UInt8), dpB n l = l.drop n
  | 0, _ => rfl
  | _ + 1, [] => rfl
  | n + 1, _ :: r => dpB_eq n r
theorem dpB_s {n : Nat} {l r : List UInt8} {x : UInt8} (h : dpB n l = x :: r) : dpB (n + 1) l = r := by
  rw [dpB_eq] at h ⊢
  rw [← List.tail_drop, h]
  rfl
theorem u1_run {c : ByteArray} {pc : Nat} {x : UInt8} {r : List UInt8} (h : dpB pc c.data.toList = x :: r) : (Reader.u1 : Reader DecodeError Nat) c pc = .ok (x.toNat, pc + 1) := by
  rw [dpB_eq] at h
  have h1 : c.data[pc]? = some x := by
    rw [← Array.getElem?_toList]
    have h2 : (c.data.toList.drop pc)[0]? = some x := by rw [h]; rfl
    rwa [List.getElem?_drop] at h2
  obtain ⟨h2, h3⟩ := Array.getElem?_eq_some_iff.mp h1
  have h4 : pc < c.size := h2
  have h5 : c[pc] = x := h3
  unfold Reader.u1
  show (dite (pc < c.size) (fun h => (do set (pc + 1); pure (c[pc]).toNat : Reader DecodeError Nat)) (fun _ => throw (HasTruncated.truncated pc))) c pc = _
  rw [dif_pos h4, ← h5]
  rfl
noncomputable def bq1 (c : ByteArray) (pc a : Nat) : Bool := match dpB pc c.data.toList with
  | x :: _ => Nat.beq x.toNat a
  | [] => false
noncomputable def bqb (c : ByteArray) (pc a v : Nat) : Bool := match dpB pc c.data.toList with
  | x :: y :: _ => Nat.beq x.toNat a && Nat.beq y.toNat v
  | _ => false
noncomputable def bqsb (c : ByteArray) (pc a : Nat) (v : Int) : Bool := match dpB pc c.data.toList with
  | x :: y :: _ => Nat.beq x.toNat a && decide (Reader.signed 8 y.toNat = v)
  | _ => false
noncomputable def bqw (c : ByteArray) (pc a v : Nat) : Bool := match dpB pc c.data.toList with
  | x :: y :: z :: _ => Nat.beq x.toNat a && Nat.beq (y.toNat * 256 + z.toNat) v
  | _ => false
noncomputable def bqsw (c : ByteArray) (pc a : Nat) (v : Int) : Bool := match dpB pc c.data.toList with
  | x :: y :: z :: _ => Nat.beq x.toNat a && decide (Reader.signed 16 (y.toNat * 256 + z.toNat) = v)
  | _ => false
noncomputable def bqi (c : ByteArray) (pc a v : Nat) (w : Int) : Bool := match dpB pc c.data.toList with
  | x :: y :: z :: _ => Nat.beq x.toNat a && (Nat.beq y.toNat v && decide (Reader.signed 8 z.toNat = w))
  | _ => false
theorem dec_K {c : ByteArray} {pc b n : Nat} {i : Instr} (K : Nat → Decoder Instr) (hK : Decoder.instr pc = (Reader.u1 >>= K)) (hu : (Reader.u1 : Reader DecodeError Nat) c pc = .ok (b, pc + 1)) (hk : K b c (pc + 1) = .ok (i, pc + (n + 1))) : decode c pc = .ok (i, n + 1) := by
  show Except.bind ((Decoder.instr pc) c pc) (fun r => Except.ok (r.1, r.2 - pc)) = _
  rw [hK]
  show Except.bind (Except.bind ((Reader.u1 : Reader DecodeError Nat) c pc) (fun q => K q.1 c q.2)) (fun r => Except.ok (r.1, r.2 - pc)) = _
  rw [hu]
  show Except.bind (K b c (pc + 1)) (fun r => Except.ok (r.1, r.2 - pc)) = _
  rw [hk]
  show Except.ok (i, pc + (n + 1) - pc) = _
  rw [Nat.add_sub_cancel_left]
theorem dec_0 {c : ByteArray} {pc b : Nat} {i : Instr} (K : Nat → Decoder Instr) (hK : Decoder.instr pc = (Reader.u1 >>= K)) (ha : K b = (Pure.pure i : Decoder Instr)) (h : bq1 c pc b = true) : decode c pc = .ok (i, 1) := by
  unfold bq1 at h
  split at h
  · rename_i x r e
    have e1 := u1_run e
    rw [Nat.eq_of_beq_eq_true h] at e1
    exact dec_K K hK e1 (by rw [ha]; rfl)
  · cases h
theorem dec_b {c : ByteArray} {pc b v : Nat} {f : Nat → Instr} (K : Nat → Decoder Instr) (hK : Decoder.instr pc = (Reader.u1 >>= K)) (ha : K b = (Reader.u1 >>= fun x => Pure.pure (f x))) (h : bqb c pc b v = true) : decode c pc = .ok (f v, 2) := by
  unfold bqb at h
  split at h
  · rename_i x y r e
    simp only [Bool.and_eq_true] at h
    have e1 := u1_run e
    have e2 := u1_run (dpB_s e)
    rw [Nat.eq_of_beq_eq_true h.1] at e1
    rw [Nat.eq_of_beq_eq_true h.2] at e2
    refine dec_K K hK e1 ?_
    rw [ha]
    show Except.bind ((Reader.u1 : Reader DecodeError Nat) c (pc + 1)) (fun q => Except.ok (f q.1, q.2)) = _
    rw [e2]
    rfl
  · cases h
theorem dec_sb {c : ByteArray} {pc b : Nat} {v : Int} {f : Int → Instr} (K : Nat → Decoder Instr) (hK : Decoder.instr pc = (Reader.u1 >>= K)) (ha : K b = (Reader.s1 >>= fun x => Pure.pure (f x))) (h : bqsb c pc b v = true) : decode c pc = .ok (f v, 2) := by
  unfold bqsb at h
  split at h
  · rename_i x y r e
    simp only [Bool.and_eq_true, decide_eq_true_eq] at h
    have e1 := u1_run e
    have e2 := u1_run (dpB_s e)
    rw [Nat.eq_of_beq_eq_true h.1] at e1
    refine dec_K K hK e1 ?_
    rw [ha, ← h.2]
    show Except.bind (Except.bind ((Reader.u1 : Reader DecodeError Nat) c (pc + 1)) (fun q => Except.ok (Reader.signed 8 q.1, q.2))) (fun q => Except.ok (f q.1, q.2)) = _
    rw [e2]
    rfl
  · cases h
theorem u2_run {c : ByteArray} {pc : Nat} {x y : Nat} (h : (Reader.u1 : Reader DecodeError Nat) c pc = .ok (x, pc + 1)) (h2 : (Reader.u1 : Reader DecodeError Nat) c (pc + 1) = .ok (y, pc + 1 + 1)) : (Reader.u2 : Reader DecodeError Nat) c pc = .ok (x * 256 + y, pc + 2) := by
  show Except.bind ((Reader.u1 : Reader DecodeError Nat) c pc) (fun q => Except.bind ((Reader.u1 : Reader DecodeError Nat) c q.2) (fun w => Except.ok (q.1 * 256 + w.1, w.2))) = _
  rw [h]
  show Except.bind ((Reader.u1 : Reader DecodeError Nat) c (pc + 1)) (fun w => Except.ok (x * 256 + w.1, w.2)) = _
  rw [h2]
  rfl
theorem dec_w {c : ByteArray} {pc b v : Nat} {f : Nat → Instr} (K : Nat → Decoder Instr) (hK : Decoder.instr pc = (Reader.u1 >>= K)) (ha : K b = (Reader.u2 >>= fun x => Pure.pure (f x))) (h : bqw c pc b v = true) : decode c pc = .ok (f v, 3) := by
  unfold bqw at h
  split at h
  · rename_i x y z r e
    simp only [Bool.and_eq_true] at h
    have e1 := u1_run e
    have e2 := u2_run (u1_run (dpB_s e)) (u1_run (dpB_s (dpB_s e)))
    rw [Nat.eq_of_beq_eq_true h.1] at e1
    rw [Nat.eq_of_beq_eq_true h.2] at e2
    refine dec_K K hK e1 ?_
    rw [ha]
    show Except.bind ((Reader.u2 : Reader DecodeError Nat) c (pc + 1)) (fun q => Except.ok (f q.1, q.2)) = _
    rw [e2]
    rfl
  · cases h
theorem dec_sw {c : ByteArray} {pc b : Nat} {v : Int} {f : Int → Instr} (K : Nat → Decoder Instr) (hK : Decoder.instr pc = (Reader.u1 >>= K)) (ha : K b = (Reader.s2 >>= fun x => Pure.pure (f x))) (h : bqsw c pc b v = true) : decode c pc = .ok (f v, 3) := by
  unfold bqsw at h
  split at h
  · rename_i x y z r e
    simp only [Bool.and_eq_true, decide_eq_true_eq] at h
    have e1 := u1_run e
    have e2 := u2_run (u1_run (dpB_s e)) (u1_run (dpB_s (dpB_s e)))
    rw [Nat.eq_of_beq_eq_true h.1] at e1
    refine dec_K K hK e1 ?_
    rw [ha, ← h.2]
    show Except.bind (Except.bind ((Reader.u2 : Reader DecodeError Nat) c (pc + 1)) (fun q => Except.ok (Reader.signed 16 q.1, q.2))) (fun q => Except.ok (f q.1, q.2)) = _
    rw [e2]
    rfl
  · cases h
theorem dec_i {c : ByteArray} {pc b v : Nat} {w : Int} {f : Nat → Int → Instr} (K : Nat → Decoder Instr) (hK : Decoder.instr pc = (Reader.u1 >>= K)) (ha : K b = (Reader.u1 >>= fun x => Reader.s1 >>= fun y => Pure.pure (f x y))) (h : bqi c pc b v w = true) : decode c pc = .ok (f v w, 3) := by
  unfold bqi at h
  split at h
  · rename_i x y z r e
    simp only [Bool.and_eq_true, decide_eq_true_eq] at h
    have e1 := u1_run e
    have e2 := u1_run (dpB_s e)
    have e3 := u1_run (dpB_s (dpB_s e))
    rw [Nat.eq_of_beq_eq_true h.1] at e1
    rw [Nat.eq_of_beq_eq_true h.2.1] at e2
    refine dec_K K hK e1 ?_
    rw [ha, ← h.2.2]
    show Except.bind ((Reader.u1 : Reader DecodeError Nat) c (pc + 1)) (fun p => Except.bind (Except.bind ((Reader.u1 : Reader DecodeError Nat) c p.2) (fun q => Except.ok (Reader.signed 8 q.1, q.2))) (fun q => Except.ok (f p.1 q.1, q.2))) = _
    rw [e2]
    show Except.bind (Except.bind ((Reader.u1 : Reader DecodeError Nat) c (pc + 1 + 1)) (fun q => Except.ok (Reader.signed 8 q.1, q.2))) (fun q => Except.ok (f v q.1, q.2)) = _
    rw [e3]
    rfl
  · cases h
theorem od_2 {c : ByteArray} {pc : Nat} (h : bq1 c pc 2 = true) : decode c pc = .ok ((Instr.iconst (-1)), 1) := dec_0 (b := 2) (i := (Instr.iconst (-1))) _ rfl rfl h
theorem od_3 {c : ByteArray} {pc : Nat} (h : bq1 c pc 3 = true) : decode c pc = .ok ((Instr.iconst 0), 1) := dec_0 (b := 3) (i := (Instr.iconst 0)) _ rfl rfl h
theorem od_4 {c : ByteArray} {pc : Nat} (h : bq1 c pc 4 = true) : decode c pc = .ok ((Instr.iconst 1), 1) := dec_0 (b := 4) (i := (Instr.iconst 1)) _ rfl rfl h
theorem od_5 {c : ByteArray} {pc : Nat} (h : bq1 c pc 5 = true) : decode c pc = .ok ((Instr.iconst 2), 1) := dec_0 (b := 5) (i := (Instr.iconst 2)) _ rfl rfl h
theorem od_6 {c : ByteArray} {pc : Nat} (h : bq1 c pc 6 = true) : decode c pc = .ok ((Instr.iconst 3), 1) := dec_0 (b := 6) (i := (Instr.iconst 3)) _ rfl rfl h
theorem od_7 {c : ByteArray} {pc : Nat} (h : bq1 c pc 7 = true) : decode c pc = .ok ((Instr.iconst 4), 1) := dec_0 (b := 7) (i := (Instr.iconst 4)) _ rfl rfl h
theorem od_8 {c : ByteArray} {pc : Nat} (h : bq1 c pc 8 = true) : decode c pc = .ok ((Instr.iconst 5), 1) := dec_0 (b := 8) (i := (Instr.iconst 5)) _ rfl rfl h
theorem od_9 {c : ByteArray} {pc : Nat} (h : bq1 c pc 9 = true) : decode c pc = .ok ((Instr.lconst 0), 1) := dec_0 (b := 9) (i := (Instr.lconst 0)) _ rfl rfl h
theorem od_10 {c : ByteArray} {pc : Nat} (h : bq1 c pc 10 = true) : decode c pc = .ok ((Instr.lconst 1), 1) := dec_0 (b := 10) (i := (Instr.lconst 1)) _ rfl rfl h
theorem od_16 {c : ByteArray} {pc : Nat} {v : Int} (h : bqsb c pc 16 v = true) : decode c pc = .ok ((Instr.bipush) v, 2) := dec_sb (b := 16) (f := fun x => (Instr.bipush) x) _ rfl rfl h
theorem od_17 {c : ByteArray} {pc : Nat} {v : Int} (h : bqsw c pc 17 v = true) : decode c pc = .ok ((Instr.sipush) v, 3) := dec_sw (b := 17) (f := fun x => (Instr.sipush) x) _ rfl rfl h
theorem od_18 {c : ByteArray} {pc : Nat} {v : Nat} (h : bqb c pc 18 v = true) : decode c pc = .ok ((Instr.ldc) v, 2) := dec_b (b := 18) (f := fun x => (Instr.ldc) x) _ rfl rfl h
theorem od_19 {c : ByteArray} {pc : Nat} {v : Nat} (h : bqw c pc 19 v = true) : decode c pc = .ok ((Instr.ldc_w) v, 3) := dec_w (b := 19) (f := fun x => (Instr.ldc_w) x) _ rfl rfl h
theorem od_20 {c : ByteArray} {pc : Nat} {v : Nat} (h : bqw c pc 20 v = true) : decode c pc = .ok ((Instr.ldc2_w) v, 3) := dec_w (b := 20) (f := fun x => (Instr.ldc2_w) x) _ rfl rfl h
theorem od_21 {c : ByteArray} {pc : Nat} {v : Nat} (h : bqb c pc 21 v = true) : decode c pc = .ok ((Instr.iload) v, 2) := dec_b (b := 21) (f := fun x => (Instr.iload) x) _ rfl rfl h
theorem od_22 {c : ByteArray} {pc : Nat} {v : Nat} (h : bqb c pc 22 v = true) : decode c pc = .ok ((Instr.lload) v, 2) := dec_b (b := 22) (f := fun x => (Instr.lload) x) _ rfl rfl h
theorem od_26 {c : ByteArray} {pc : Nat} (h : bq1 c pc 26 = true) : decode c pc = .ok ((Instr.iload_n 0), 1) := dec_0 (b := 26) (i := (Instr.iload_n 0)) _ rfl rfl h
theorem od_27 {c : ByteArray} {pc : Nat} (h : bq1 c pc 27 = true) : decode c pc = .ok ((Instr.iload_n 1), 1) := dec_0 (b := 27) (i := (Instr.iload_n 1)) _ rfl rfl h
theorem od_28 {c : ByteArray} {pc : Nat} (h : bq1 c pc 28 = true) : decode c pc = .ok ((Instr.iload_n 2), 1) := dec_0 (b := 28) (i := (Instr.iload_n 2)) _ rfl rfl h
theorem od_29 {c : ByteArray} {pc : Nat} (h : bq1 c pc 29 = true) : decode c pc = .ok ((Instr.iload_n 3), 1) := dec_0 (b := 29) (i := (Instr.iload_n 3)) _ rfl rfl h
theorem od_30 {c : ByteArray} {pc : Nat} (h : bq1 c pc 30 = true) : decode c pc = .ok ((Instr.lload_n 0), 1) := dec_0 (b := 30) (i := (Instr.lload_n 0)) _ rfl rfl h
theorem od_31 {c : ByteArray} {pc : Nat} (h : bq1 c pc 31 = true) : decode c pc = .ok ((Instr.lload_n 1), 1) := dec_0 (b := 31) (i := (Instr.lload_n 1)) _ rfl rfl h
theorem od_32 {c : ByteArray} {pc : Nat} (h : bq1 c pc 32 = true) : decode c pc = .ok ((Instr.lload_n 2), 1) := dec_0 (b := 32) (i := (Instr.lload_n 2)) _ rfl rfl h
theorem od_33 {c : ByteArray} {pc : Nat} (h : bq1 c pc 33 = true) : decode c pc = .ok ((Instr.lload_n 3), 1) := dec_0 (b := 33) (i := (Instr.lload_n 3)) _ rfl rfl h
theorem od_42 {c : ByteArray} {pc : Nat} (h : bq1 c pc 42 = true) : decode c pc = .ok ((Instr.aload_n 0), 1) := dec_0 (b := 42) (i := (Instr.aload_n 0)) _ rfl rfl h
theorem od_43 {c : ByteArray} {pc : Nat} (h : bq1 c pc 43 = true) : decode c pc = .ok ((Instr.aload_n 1), 1) := dec_0 (b := 43) (i := (Instr.aload_n 1)) _ rfl rfl h
theorem od_44 {c : ByteArray} {pc : Nat} (h : bq1 c pc 44 = true) : decode c pc = .ok ((Instr.aload_n 2), 1) := dec_0 (b := 44) (i := (Instr.aload_n 2)) _ rfl rfl h
theorem od_46 {c : ByteArray} {pc : Nat} (h : bq1 c pc 46 = true) : decode c pc = .ok (Instr.iaload, 1) := dec_0 (b := 46) (i := Instr.iaload) _ rfl rfl h
theorem od_51 {c : ByteArray} {pc : Nat} (h : bq1 c pc 51 = true) : decode c pc = .ok (Instr.baload, 1) := dec_0 (b := 51) (i := Instr.baload) _ rfl rfl h
theorem od_54 {c : ByteArray} {pc : Nat} {v : Nat} (h : bqb c pc 54 v = true) : decode c pc = .ok ((Instr.istore) v, 2) := dec_b (b := 54) (f := fun x => (Instr.istore) x) _ rfl rfl h
theorem od_55 {c : ByteArray} {pc : Nat} {v : Nat} (h : bqb c pc 55 v = true) : decode c pc = .ok ((Instr.lstore) v, 2) := dec_b (b := 55) (f := fun x => (Instr.lstore) x) _ rfl rfl h
theorem od_59 {c : ByteArray} {pc : Nat} (h : bq1 c pc 59 = true) : decode c pc = .ok ((Instr.istore_n 0), 1) := dec_0 (b := 59) (i := (Instr.istore_n 0)) _ rfl rfl h
theorem od_60 {c : ByteArray} {pc : Nat} (h : bq1 c pc 60 = true) : decode c pc = .ok ((Instr.istore_n 1), 1) := dec_0 (b := 60) (i := (Instr.istore_n 1)) _ rfl rfl h
theorem od_61 {c : ByteArray} {pc : Nat} (h : bq1 c pc 61 = true) : decode c pc = .ok ((Instr.istore_n 2), 1) := dec_0 (b := 61) (i := (Instr.istore_n 2)) _ rfl rfl h
theorem od_62 {c : ByteArray} {pc : Nat} (h : bq1 c pc 62 = true) : decode c pc = .ok ((Instr.istore_n 3), 1) := dec_0 (b := 62) (i := (Instr.istore_n 3)) _ rfl rfl h
theorem od_64 {c : ByteArray} {pc : Nat} (h : bq1 c pc 64 = true) : decode c pc = .ok ((Instr.lstore_n 1), 1) := dec_0 (b := 64) (i := (Instr.lstore_n 1)) _ rfl rfl h
theorem od_66 {c : ByteArray} {pc : Nat} (h : bq1 c pc 66 = true) : decode c pc = .ok ((Instr.lstore_n 3), 1) := dec_0 (b := 66) (i := (Instr.lstore_n 3)) _ rfl rfl h
theorem od_76 {c : ByteArray} {pc : Nat} (h : bq1 c pc 76 = true) : decode c pc = .ok ((Instr.astore_n 1), 1) := dec_0 (b := 76) (i := (Instr.astore_n 1)) _ rfl rfl h
theorem od_77 {c : ByteArray} {pc : Nat} (h : bq1 c pc 77 = true) : decode c pc = .ok ((Instr.astore_n 2), 1) := dec_0 (b := 77) (i := (Instr.astore_n 2)) _ rfl rfl h
theorem od_79 {c : ByteArray} {pc : Nat} (h : bq1 c pc 79 = true) : decode c pc = .ok (Instr.iastore, 1) := dec_0 (b := 79) (i := Instr.iastore) _ rfl rfl h
theorem od_84 {c : ByteArray} {pc : Nat} (h : bq1 c pc 84 = true) : decode c pc = .ok (Instr.bastore, 1) := dec_0 (b := 84) (i := Instr.bastore) _ rfl rfl h
theorem od_87 {c : ByteArray} {pc : Nat} (h : bq1 c pc 87 = true) : decode c pc = .ok (Instr.pop, 1) := dec_0 (b := 87) (i := Instr.pop) _ rfl rfl h
theorem od_88 {c : ByteArray} {pc : Nat} (h : bq1 c pc 88 = true) : decode c pc = .ok (Instr.pop2, 1) := dec_0 (b := 88) (i := Instr.pop2) _ rfl rfl h
theorem od_89 {c : ByteArray} {pc : Nat} (h : bq1 c pc 89 = true) : decode c pc = .ok (Instr.dup, 1) := dec_0 (b := 89) (i := Instr.dup) _ rfl rfl h
theorem od_92 {c : ByteArray} {pc : Nat} (h : bq1 c pc 92 = true) : decode c pc = .ok (Instr.dup2, 1) := dec_0 (b := 92) (i := Instr.dup2) _ rfl rfl h
theorem od_96 {c : ByteArray} {pc : Nat} (h : bq1 c pc 96 = true) : decode c pc = .ok (Instr.iadd, 1) := dec_0 (b := 96) (i := Instr.iadd) _ rfl rfl h
theorem od_97 {c : ByteArray} {pc : Nat} (h : bq1 c pc 97 = true) : decode c pc = .ok (Instr.ladd, 1) := dec_0 (b := 97) (i := Instr.ladd) _ rfl rfl h
theorem od_100 {c : ByteArray} {pc : Nat} (h : bq1 c pc 100 = true) : decode c pc = .ok (Instr.isub, 1) := dec_0 (b := 100) (i := Instr.isub) _ rfl rfl h
theorem od_101 {c : ByteArray} {pc : Nat} (h : bq1 c pc 101 = true) : decode c pc = .ok (Instr.lsub, 1) := dec_0 (b := 101) (i := Instr.lsub) _ rfl rfl h
theorem od_104 {c : ByteArray} {pc : Nat} (h : bq1 c pc 104 = true) : decode c pc = .ok (Instr.imul, 1) := dec_0 (b := 104) (i := Instr.imul) _ rfl rfl h
theorem od_105 {c : ByteArray} {pc : Nat} (h : bq1 c pc 105 = true) : decode c pc = .ok (Instr.lmul, 1) := dec_0 (b := 105) (i := Instr.lmul) _ rfl rfl h
theorem od_108 {c : ByteArray} {pc : Nat} (h : bq1 c pc 108 = true) : decode c pc = .ok (Instr.idiv, 1) := dec_0 (b := 108) (i := Instr.idiv) _ rfl rfl h
theorem od_109 {c : ByteArray} {pc : Nat} (h : bq1 c pc 109 = true) : decode c pc = .ok (Instr.ldiv, 1) := dec_0 (b := 109) (i := Instr.ldiv) _ rfl rfl h
theorem od_112 {c : ByteArray} {pc : Nat} (h : bq1 c pc 112 = true) : decode c pc = .ok (Instr.irem, 1) := dec_0 (b := 112) (i := Instr.irem) _ rfl rfl h
theorem od_113 {c : ByteArray} {pc : Nat} (h : bq1 c pc 113 = true) : decode c pc = .ok (Instr.lrem, 1) := dec_0 (b := 113) (i := Instr.lrem) _ rfl rfl h
theorem od_120 {c : ByteArray} {pc : Nat} (h : bq1 c pc 120 = true) : decode c pc = .ok (Instr.ishl, 1) := dec_0 (b := 120) (i := Instr.ishl) _ rfl rfl h
theorem od_122 {c : ByteArray} {pc : Nat} (h : bq1 c pc 122 = true) : decode c pc = .ok (Instr.ishr, 1) := dec_0 (b := 122) (i := Instr.ishr) _ rfl rfl h
theorem od_124 {c : ByteArray} {pc : Nat} (h : bq1 c pc 124 = true) : decode c pc = .ok (Instr.iushr, 1) := dec_0 (b := 124) (i := Instr.iushr) _ rfl rfl h
theorem od_126 {c : ByteArray} {pc : Nat} (h : bq1 c pc 126 = true) : decode c pc = .ok (Instr.iand, 1) := dec_0 (b := 126) (i := Instr.iand) _ rfl rfl h
theorem od_128 {c : ByteArray} {pc : Nat} (h : bq1 c pc 128 = true) : decode c pc = .ok (Instr.ior, 1) := dec_0 (b := 128) (i := Instr.ior) _ rfl rfl h
theorem od_130 {c : ByteArray} {pc : Nat} (h : bq1 c pc 130 = true) : decode c pc = .ok (Instr.ixor, 1) := dec_0 (b := 130) (i := Instr.ixor) _ rfl rfl h
theorem od_132 {c : ByteArray} {pc : Nat} {v : Nat} {w : Int} (h : bqi c pc 132 v w = true) : decode c pc = .ok ((Instr.iinc) v w, 3) := dec_i (b := 132) (f := fun x y => (Instr.iinc) x y) _ rfl rfl h
theorem od_133 {c : ByteArray} {pc : Nat} (h : bq1 c pc 133 = true) : decode c pc = .ok (Instr.i2l, 1) := dec_0 (b := 133) (i := Instr.i2l) _ rfl rfl h
theorem od_145 {c : ByteArray} {pc : Nat} (h : bq1 c pc 145 = true) : decode c pc = .ok (Instr.i2b, 1) := dec_0 (b := 145) (i := Instr.i2b) _ rfl rfl h
theorem od_146 {c : ByteArray} {pc : Nat} (h : bq1 c pc 146 = true) : decode c pc = .ok (Instr.i2c, 1) := dec_0 (b := 146) (i := Instr.i2c) _ rfl rfl h
theorem od_147 {c : ByteArray} {pc : Nat} (h : bq1 c pc 147 = true) : decode c pc = .ok (Instr.i2s, 1) := dec_0 (b := 147) (i := Instr.i2s) _ rfl rfl h
theorem od_148 {c : ByteArray} {pc : Nat} (h : bq1 c pc 148 = true) : decode c pc = .ok (Instr.lcmp, 1) := dec_0 (b := 148) (i := Instr.lcmp) _ rfl rfl h
theorem od_153 {c : ByteArray} {pc : Nat} {v : Int} (h : bqsw c pc 153 v = true) : decode c pc = .ok ((Instr.ifCond .eq) v, 3) := dec_sw (b := 153) (f := fun x => (Instr.ifCond .eq) x) _ rfl rfl h
theorem od_154 {c : ByteArray} {pc : Nat} {v : Int} (h : bqsw c pc 154 v = true) : decode c pc = .ok ((Instr.ifCond .ne) v, 3) := dec_sw (b := 154) (f := fun x => (Instr.ifCond .ne) x) _ rfl rfl h
theorem od_155 {c : ByteArray} {pc : Nat} {v : Int} (h : bqsw c pc 155 v = true) : decode c pc = .ok ((Instr.ifCond .lt) v, 3) := dec_sw (b := 155) (f := fun x => (Instr.ifCond .lt) x) _ rfl rfl h
theorem od_156 {c : ByteArray} {pc : Nat} {v : Int} (h : bqsw c pc 156 v = true) : decode c pc = .ok ((Instr.ifCond .ge) v, 3) := dec_sw (b := 156) (f := fun x => (Instr.ifCond .ge) x) _ rfl rfl h
theorem od_157 {c : ByteArray} {pc : Nat} {v : Int} (h : bqsw c pc 157 v = true) : decode c pc = .ok ((Instr.ifCond .gt) v, 3) := dec_sw (b := 157) (f := fun x => (Instr.ifCond .gt) x) _ rfl rfl h
theorem od_158 {c : ByteArray} {pc : Nat} {v : Int} (h : bqsw c pc 158 v = true) : decode c pc = .ok ((Instr.ifCond .le) v, 3) := dec_sw (b := 158) (f := fun x => (Instr.ifCond .le) x) _ rfl rfl h
theorem od_159 {c : ByteArray} {pc : Nat} {v : Int} (h : bqsw c pc 159 v = true) : decode c pc = .ok ((Instr.if_icmp .eq) v, 3) := dec_sw (b := 159) (f := fun x => (Instr.if_icmp .eq) x) _ rfl rfl h
theorem od_160 {c : ByteArray} {pc : Nat} {v : Int} (h : bqsw c pc 160 v = true) : decode c pc = .ok ((Instr.if_icmp .ne) v, 3) := dec_sw (b := 160) (f := fun x => (Instr.if_icmp .ne) x) _ rfl rfl h
theorem od_161 {c : ByteArray} {pc : Nat} {v : Int} (h : bqsw c pc 161 v = true) : decode c pc = .ok ((Instr.if_icmp .lt) v, 3) := dec_sw (b := 161) (f := fun x => (Instr.if_icmp .lt) x) _ rfl rfl h
theorem od_162 {c : ByteArray} {pc : Nat} {v : Int} (h : bqsw c pc 162 v = true) : decode c pc = .ok ((Instr.if_icmp .ge) v, 3) := dec_sw (b := 162) (f := fun x => (Instr.if_icmp .ge) x) _ rfl rfl h
theorem od_163 {c : ByteArray} {pc : Nat} {v : Int} (h : bqsw c pc 163 v = true) : decode c pc = .ok ((Instr.if_icmp .gt) v, 3) := dec_sw (b := 163) (f := fun x => (Instr.if_icmp .gt) x) _ rfl rfl h
theorem od_164 {c : ByteArray} {pc : Nat} {v : Int} (h : bqsw c pc 164 v = true) : decode c pc = .ok ((Instr.if_icmp .le) v, 3) := dec_sw (b := 164) (f := fun x => (Instr.if_icmp .le) x) _ rfl rfl h
theorem od_167 {c : ByteArray} {pc : Nat} {v : Int} (h : bqsw c pc 167 v = true) : decode c pc = .ok ((Instr.goto) v, 3) := dec_sw (b := 167) (f := fun x => (Instr.goto) x) _ rfl rfl h
theorem od_172 {c : ByteArray} {pc : Nat} (h : bq1 c pc 172 = true) : decode c pc = .ok (Instr.ireturn, 1) := dec_0 (b := 172) (i := Instr.ireturn) _ rfl rfl h
theorem od_173 {c : ByteArray} {pc : Nat} (h : bq1 c pc 173 = true) : decode c pc = .ok (Instr.lreturn, 1) := dec_0 (b := 173) (i := Instr.lreturn) _ rfl rfl h
theorem od_176 {c : ByteArray} {pc : Nat} (h : bq1 c pc 176 = true) : decode c pc = .ok (Instr.areturn, 1) := dec_0 (b := 176) (i := Instr.areturn) _ rfl rfl h
theorem od_177 {c : ByteArray} {pc : Nat} (h : bq1 c pc 177 = true) : decode c pc = .ok (Instr.return_, 1) := dec_0 (b := 177) (i := Instr.return_) _ rfl rfl h
theorem od_178 {c : ByteArray} {pc : Nat} {v : Nat} (h : bqw c pc 178 v = true) : decode c pc = .ok ((Instr.getstatic) v, 3) := dec_w (b := 178) (f := fun x => (Instr.getstatic) x) _ rfl rfl h
theorem od_180 {c : ByteArray} {pc : Nat} {v : Nat} (h : bqw c pc 180 v = true) : decode c pc = .ok ((Instr.getfield) v, 3) := dec_w (b := 180) (f := fun x => (Instr.getfield) x) _ rfl rfl h
theorem od_181 {c : ByteArray} {pc : Nat} {v : Nat} (h : bqw c pc 181 v = true) : decode c pc = .ok ((Instr.putfield) v, 3) := dec_w (b := 181) (f := fun x => (Instr.putfield) x) _ rfl rfl h
theorem od_182 {c : ByteArray} {pc : Nat} {v : Nat} (h : bqw c pc 182 v = true) : decode c pc = .ok ((Instr.invokevirtual) v, 3) := dec_w (b := 182) (f := fun x => (Instr.invokevirtual) x) _ rfl rfl h
theorem od_183 {c : ByteArray} {pc : Nat} {v : Nat} (h : bqw c pc 183 v = true) : decode c pc = .ok ((Instr.invokespecial) v, 3) := dec_w (b := 183) (f := fun x => (Instr.invokespecial) x) _ rfl rfl h
theorem od_184 {c : ByteArray} {pc : Nat} {v : Nat} (h : bqw c pc 184 v = true) : decode c pc = .ok ((Instr.invokestatic) v, 3) := dec_w (b := 184) (f := fun x => (Instr.invokestatic) x) _ rfl rfl h
theorem od_187 {c : ByteArray} {pc : Nat} {v : Nat} (h : bqw c pc 187 v = true) : decode c pc = .ok ((Instr.new) v, 3) := dec_w (b := 187) (f := fun x => (Instr.new) x) _ rfl rfl h
theorem od_190 {c : ByteArray} {pc : Nat} (h : bq1 c pc 190 = true) : decode c pc = .ok (Instr.arraylength, 1) := dec_0 (b := 190) (i := Instr.arraylength) _ rfl rfl h
theorem od_191 {c : ByteArray} {pc : Nat} (h : bq1 c pc 191 = true) : decode c pc = .ok (Instr.athrow, 1) := dec_0 (b := 191) (i := Instr.athrow) _ rfl rfl h
end
