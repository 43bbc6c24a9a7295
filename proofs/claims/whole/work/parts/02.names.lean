/-! ===== BEGIN words of one list among another's, by their places ===== -/
theorem goodIn_r {big : List Cond} (ws : List Cond) (ps : List Nat) (hp : ws = ps.filterMap (fun i => big[i]?)) (h : ws.all goodWord = true) : GoodIn big ws := by
  intro w hw
  have h1 := List.all_eq_true.mp h w hw
  rw [hp] at hw
  obtain ⟨i, -, hi⟩ := List.mem_filterMap.mp hw
  have hm : w ∈ big := by first | exact List.mem_of_getElem? hi | exact List.getElem?_mem hi
  exact ⟨hm, good_of_word h1⟩
theorem goodIn_app {big a b : List Cond} (ha : GoodIn big a) (hb : GoodIn big b) : GoodIn big (a ++ b) := fun w h => (List.mem_append.mp h).elim (ha w) (hb w)
theorem goodIn_ca {big a b : List Cond} {c : Cond} (ha : GoodIn big (c :: a)) (hb : GoodIn big b) : GoodIn big (c :: (a ++ b)) := fun w h => (List.mem_cons.mp h).elim (fun e => ha w (List.mem_cons.mpr (Or.inl e))) (fun h => (List.mem_append.mp h).elim (fun h => ha w (List.mem_cons.mpr (Or.inr h))) (hb w))
theorem goodIn_sub {big ws : List Cond} (hm : ∀ w ∈ ws, w ∈ big) (h : ws.all goodWord = true) : GoodIn big ws := fun w hw => ⟨hm w hw, good_of_word (List.all_eq_true.mp h w hw)⟩
/-! ===== END ===== -/

/-! ===== BEGIN printed: names, fields, word lists, decode rows ===== -/
def RX0 : String := "ClockedFlows$Doings"
def TX0 : u_T := fun k => match k with
  | 0 => ("ClockedFlows$Doings", "count", "I", false)
  | 1 => ("ClockedFlows$Doings", "oldest", "I", false)
  | _ => ("ClockedFlows$Doings", "row", "[LClockedFlows$Flow;", true)
def tyX0 : Nat → FieldType := fun k => match k with
  | 0 => .int
  | 1 => .int
  | _ => .array (.object "ClockedFlows$Flow")
abbrev wsX00 : List Cond := u_ws RX0 TX0 3
theorem nmX0 : ∀ a, a < 3 → ∀ b, b < 3 → a ≠ b → (TX0 a).2.1 ≠ (TX0 b).2.1 := by decide +kernel
theorem tyX0_ok : ∀ k, k < 3 → parseFieldDescriptor (TX0 k).2.2.1 = some (tyX0 k) := by decide +kernel
abbrev cX0_init : ByteArray := prog_2_method_1_code
def yX0_init : MethodName := ⟨RX0, "<init>", "()V"⟩
abbrev cX0_forget : ByteArray := prog_2_method_2_code
def yX0_forget : MethodName := ⟨RX0, "forget", "()V"⟩
abbrev cX0_remember : ByteArray := prog_2_method_3_code
def yX0_remember : MethodName := ⟨RX0, "remember", "(LClockedFlows$Flow;)V"⟩
abbrev cX0_takeBack : ByteArray := prog_2_method_4_code
def yX0_takeBack : MethodName := ⟨RX0, "takeBack", "(LClockedFlows$Flow;)V"⟩
def RX1 : String := "ClockedFlows$Flow"
def TX1 : u_T := fun k => match k with
  | 0 => ("ClockedFlows$Flow", "count", "I", false)
  | 1 => ("ClockedFlows$Flow", "ticks", "I", false)
  | 2 => ("ClockedFlows$Flow", "kinds", "[I", true)
  | 3 => ("ClockedFlows$Flow", "parts", "[I", true)
  | 4 => ("ClockedFlows$Flow", "held", "[I", true)
  | _ => ("ClockedFlows$Flow", "values", "[I", true)
def tyX1 : Nat → FieldType := fun k => match k with
  | 0 => .int
  | 1 => .int
  | 2 => .array .int
  | 3 => .array .int
  | 4 => .array .int
  | _ => .array .int
abbrev wsX10 : List Cond := u_ws RX1 TX1 6
theorem nmX1 : ∀ a, a < 6 → ∀ b, b < 6 → a ≠ b → (TX1 a).2.1 ≠ (TX1 b).2.1 := by decide +kernel
theorem tyX1_ok : ∀ k, k < 6 → parseFieldDescriptor (TX1 k).2.2.1 = some (tyX1 k) := by decide +kernel
abbrev cX1_init : ByteArray := prog_3_method_1_code
def yX1_init : MethodName := ⟨RX1, "<init>", "()V"⟩
abbrev cX1_become : ByteArray := prog_3_method_2_code
def yX1_become : MethodName := ⟨RX1, "become", "(LClockedFlows$Flow;)V"⟩
abbrev cX1_equate : ByteArray := prog_3_method_3_code
def yX1_equate : MethodName := ⟨RX1, "equate", "(IIIII)V"⟩
abbrev cX1_setPart : ByteArray := prog_3_method_4_code
def yX1_setPart : MethodName := ⟨RX1, "setPart", "(III)V"⟩
abbrev cX1_part : ByteArray := prog_3_method_5_code
def yX1_part : MethodName := ⟨RX1, "part", "(II)I"⟩
abbrev cX1_streamPart : ByteArray := prog_3_method_6_code
def yX1_streamPart : MethodName := ⟨RX1, "streamPart", "(II)I"⟩
abbrev cX1_kindOf : ByteArray := prog_3_method_7_code
def yX1_kindOf : MethodName := ⟨RX1, "kindOf", "(I)I"⟩
abbrev cX1_valueOf : ByteArray := prog_3_method_8_code
def yX1_valueOf : MethodName := ⟨RX1, "valueOf", "(I)I"⟩
abbrev cX1_restart : ByteArray := prog_3_method_9_code
def yX1_restart : MethodName := ⟨RX1, "restart", "()V"⟩
abbrev cX1_heldAtFirst : ByteArray := prog_3_method_10_code
def yX1_heldAtFirst : MethodName := ⟨RX1, "heldAtFirst", "(I)I"⟩
abbrev cX1_thereBits : ByteArray := prog_3_method_11_code
def yX1_thereBits : MethodName := ⟨RX1, "thereBits", "()I"⟩
abbrev cX1_sumOfThere : ByteArray := prog_3_method_12_code
def yX1_sumOfThere : MethodName := ⟨RX1, "sumOfThere", "()I"⟩
abbrev cX1_work : ByteArray := prog_3_method_13_code
def yX1_work : MethodName := ⟨RX1, "work", "(LClockedFlows$Sense;II)V"⟩
abbrev cX1_isThere : ByteArray := prog_3_method_14_code
def yX1_isThere : MethodName := ⟨RX1, "isThere", "(I)Z"⟩
abbrev cX1_heldNext : ByteArray := prog_3_method_15_code
def yX1_heldNext : MethodName := ⟨RX1, "heldNext", "(I)I"⟩
abbrev cX1_reckon : ByteArray := prog_3_method_16_code
def yX1_reckon : MethodName := ⟨RX1, "reckon", "(III)I"⟩
abbrev cX1_combine : ByteArray := prog_3_method_17_code
def yX1_combine : MethodName := ⟨RX1, "combine", "(III)I"⟩
abbrev cX1_choose : ByteArray := prog_3_method_18_code
def yX1_choose : MethodName := ⟨RX1, "choose", "(III)I"⟩
def RX2 : String := "ClockedFlows$Sense"
def TX2 : u_T := fun k => match k with
  | 0 => ("ClockedFlows$Sense", "clash", "I", false)
  | 1 => ("ClockedFlows$Sense", "knot", "I", false)
  | 2 => ("ClockedFlows$Sense", "raw", "I", false)
  | 3 => ("ClockedFlows$Sense", "count", "I", false)
  | 4 => ("ClockedFlows$Sense", "group", "[I", true)
  | 5 => ("ClockedFlows$Sense", "bound", "[I", true)
  | 6 => ("ClockedFlows$Sense", "settled", "[I", true)
  | 7 => ("ClockedFlows$Sense", "depth", "[I", true)
  | 8 => ("ClockedFlows$Sense", "order", "[I", true)
  | 9 => ("ClockedFlows$Sense", "turn", "[I", true)
  | _ => ("ClockedFlows$Sense", "level", "[I", true)
def tyX2 : Nat → FieldType := fun k => match k with
  | 0 => .int
  | 1 => .int
  | 2 => .int
  | 3 => .int
  | 4 => .array .int
  | 5 => .array .int
  | 6 => .array .int
  | 7 => .array .int
  | 8 => .array .int
  | 9 => .array .int
  | _ => .array .int
abbrev wsX20 : List Cond := u_ws RX2 TX2 11
theorem nmX2 : ∀ a, a < 11 → ∀ b, b < 11 → a ≠ b → (TX2 a).2.1 ≠ (TX2 b).2.1 := by decide +kernel
theorem tyX2_ok : ∀ k, k < 11 → parseFieldDescriptor (TX2 k).2.2.1 = some (tyX2 k) := by decide +kernel
abbrev cX2_init : ByteArray := prog_4_method_1_code
def yX2_init : MethodName := ⟨RX2, "<init>", "()V"⟩
abbrev cX2_isSound : ByteArray := prog_4_method_2_code
def yX2_isSound : MethodName := ⟨RX2, "isSound", "()Z"⟩
abbrev cX2_study : ByteArray := prog_4_method_3_code
def yX2_study : MethodName := ⟨RX2, "study", "(LClockedFlows$Flow;)V"⟩
abbrev cX2_clockAt : ByteArray := prog_4_method_4_code
def yX2_clockAt : MethodName := ⟨RX2, "clockAt", "(II)I"⟩
abbrev cX2_findClash : ByteArray := prog_4_method_5_code
def yX2_findClash : MethodName := ⟨RX2, "findClash", "(LClockedFlows$Flow;)I"⟩
abbrev cX2_meet : ByteArray := prog_4_method_6_code
def yX2_meet : MethodName := ⟨RX2, "meet", "(LClockedFlows$Flow;I)Z"⟩
abbrev cX2_likenAll : ByteArray := prog_4_method_7_code
def yX2_likenAll : MethodName := ⟨RX2, "likenAll", "(LClockedFlows$Flow;I)Z"⟩
abbrev cX2_liken : ByteArray := prog_4_method_8_code
def yX2_liken : MethodName := ⟨RX2, "liken", "(II)Z"⟩
abbrev cX2_bind : ByteArray := prog_4_method_9_code
def yX2_bind : MethodName := ⟨RX2, "bind", "(II)Z"⟩
abbrev cX2_haveEnds : ByteArray := prog_4_method_10_code
def yX2_haveEnds : MethodName := ⟨RX2, "haveEnds", "()Z"⟩
abbrev cX2_settle : ByteArray := prog_4_method_11_code
def yX2_settle : MethodName := ⟨RX2, "settle", "()V"⟩
abbrev cX2_putInOrder : ByteArray := prog_4_method_12_code
def yX2_putInOrder : MethodName := ⟨RX2, "putInOrder", "(LClockedFlows$Flow;)V"⟩
abbrev cX2_leastReady : ByteArray := prog_4_method_13_code
def yX2_leastReady : MethodName := ⟨RX2, "leastReady", "(LClockedFlows$Flow;I)I"⟩
abbrev cX2_waits : ByteArray := prog_4_method_14_code
def yX2_waits : MethodName := ⟨RX2, "waits", "(LClockedFlows$Flow;I)I"⟩
abbrev cX2_findLevels : ByteArray := prog_4_method_15_code
def yX2_findLevels : MethodName := ⟨RX2, "findLevels", "(LClockedFlows$Flow;)V"⟩
abbrev cX2_levelByParts : ByteArray := prog_4_method_16_code
def yX2_levelByParts : MethodName := ⟨RX2, "levelByParts", "(LClockedFlows$Flow;I)I"⟩
abbrev cX2_highest : ByteArray := prog_4_method_17_code
def yX2_highest : MethodName := ⟨RX2, "highest", "(LClockedFlows$Flow;I)I"⟩
abbrev cX2_findRaw : ByteArray := prog_4_method_18_code
def yX2_findRaw : MethodName := ⟨RX2, "findRaw", "(LClockedFlows$Flow;)I"⟩
abbrev cX2_isRaw : ByteArray := prog_4_method_19_code
def yX2_isRaw : MethodName := ⟨RX2, "isRaw", "(LClockedFlows$Flow;I)Z"⟩
def RX3 : String := "ClockedFlows$Sights"
def TX3 : u_T := fun k => match k with
  | 0 => ("ClockedFlows$Sights", "count", "I", false)
  | 1 => ("ClockedFlows$Sights", "at", "[I", true)
  | 2 => ("ClockedFlows$Sights", "streams", "[I", true)
  | 3 => ("ClockedFlows$Sights", "seen", "[I", true)
  | _ => ("ClockedFlows$Sights", "so", "[Z", true)
def tyX3 : Nat → FieldType := fun k => match k with
  | 0 => .int
  | 1 => .array .int
  | 2 => .array .int
  | 3 => .array .int
  | _ => .array .boolean
abbrev wsX30 : List Cond := u_ws RX3 TX3 5
theorem nmX3 : ∀ a, a < 5 → ∀ b, b < 5 → a ≠ b → (TX3 a).2.1 ≠ (TX3 b).2.1 := by decide +kernel
theorem tyX3_ok : ∀ k, k < 5 → parseFieldDescriptor (TX3 k).2.2.1 = some (tyX3 k) := by decide +kernel
abbrev cX3_init : ByteArray := prog_5_method_1_code
def yX3_init : MethodName := ⟨RX3, "<init>", "()V"⟩
abbrev cX3_add : ByteArray := prog_5_method_2_code
def yX3_add : MethodName := ⟨RX3, "add", "(IIII)Z"⟩
abbrev cX3_lastTick : ByteArray := prog_5_method_3_code
def yX3_lastTick : MethodName := ⟨RX3, "lastTick", "()I"⟩
abbrev cX3_fit : ByteArray := prog_5_method_4_code
def yX3_fit : MethodName := ⟨RX3, "fit", "(ILClockedFlows$Flow;)Z"⟩
def RX4 : String := "ClockedFlows$Text"
def TX4 : u_T := fun k => match k with
  | 0 => ("ClockedFlows$Text", "letters", "[I", true)
  | _ => ("ClockedFlows$Text", "length", "I", false)
def tyX4 : Nat → FieldType := fun k => match k with
  | 0 => .array .int
  | _ => .int
abbrev wsX40 : List Cond := u_ws RX4 TX4 2
theorem nmX4 : ∀ a, a < 2 → ∀ b, b < 2 → a ≠ b → (TX4 a).2.1 ≠ (TX4 b).2.1 := by decide +kernel
theorem tyX4_ok : ∀ k, k < 2 → parseFieldDescriptor (TX4 k).2.2.1 = some (tyX4 k) := by decide +kernel
abbrev cX4_init : ByteArray := prog_6_method_1_code
def yX4_init : MethodName := ⟨RX4, "<init>", "()V"⟩
abbrev cX4_append : ByteArray := prog_6_method_2_code
def yX4_append : MethodName := ⟨RX4, "append", "(I)Z"⟩
abbrev cX4_readInto : ByteArray := prog_6_method_3_code
def yX4_readInto : MethodName := ⟨RX4, "readInto", "(LClockedFlows$Flow;)I"⟩
abbrev cX4_readEquation : ByteArray := prog_6_method_4_code
def yX4_readEquation : MethodName := ⟨RX4, "readEquation", "(LClockedFlows$Flow;II)I"⟩
abbrev cX4_letterAt : ByteArray := prog_6_method_5_code
def yX4_letterAt : MethodName := ⟨RX4, "letterAt", "(I)I"⟩
def RX5 : String := "ClockedFlows"
def TX5 : u_T := fun k => match k with
  | 0 => ("ClockedFlows", "text", "LClockedFlows$Text;", true)
  | 1 => ("ClockedFlows", "now", "LClockedFlows$Flow;", true)
  | 2 => ("ClockedFlows", "spare", "LClockedFlows$Flow;", true)
  | 3 => ("ClockedFlows", "sense", "LClockedFlows$Sense;", true)
  | 4 => ("ClockedFlows", "doings", "LClockedFlows$Doings;", true)
  | 5 => ("ClockedFlows", "sights", "LClockedFlows$Sights;", true)
  | 6 => ("ClockedFlows", "slots", "[LClockedFlows$Flow;", true)
  | 7 => ("ClockedFlows", "slotKept", "[Z", true)
  | 8 => ("ClockedFlows", "trail", "[I", true)
  | _ => ("ClockedFlows", "theSeed", "J", false)
def tyX5 : Nat → FieldType := fun k => match k with
  | 0 => .object "ClockedFlows$Text"
  | 1 => .object "ClockedFlows$Flow"
  | 2 => .object "ClockedFlows$Flow"
  | 3 => .object "ClockedFlows$Sense"
  | 4 => .object "ClockedFlows$Doings"
  | 5 => .object "ClockedFlows$Sights"
  | 6 => .array (.object "ClockedFlows$Flow")
  | 7 => .array .boolean
  | 8 => .array .int
  | _ => .long
abbrev wsX50 : List Cond := u_ws RX5 TX5 10
theorem nmX5 : ∀ a, a < 10 → ∀ b, b < 10 → a ≠ b → (TX5 a).2.1 ≠ (TX5 b).2.1 := by decide +kernel
theorem tyX5_ok : ∀ k, k < 10 → parseFieldDescriptor (TX5 k).2.2.1 = some (tyX5 k) := by decide +kernel
abbrev cX5_init : ByteArray := prog_1_method_1_code
def yX5_init : MethodName := ⟨RX5, "<init>", "()V"⟩
abbrev cX5_write : ByteArray := prog_1_method_2_code
def yX5_write : MethodName := ⟨RX5, "write", "(I)I"⟩
abbrev cX5_wipe : ByteArray := prog_1_method_3_code
def yX5_wipe : MethodName := ⟨RX5, "wipe", "()I"⟩
abbrev cX5_fault : ByteArray := prog_1_method_4_code
def yX5_fault : MethodName := ⟨RX5, "fault", "()I"⟩
abbrev cX5_program : ByteArray := prog_1_method_5_code
def yX5_program : MethodName := ⟨RX5, "program", "()I"⟩
abbrev cX5_about : ByteArray := prog_1_method_6_code
def yX5_about : MethodName := ⟨RX5, "about", "(I)I"⟩
abbrev cX5_stream : ByteArray := prog_1_method_7_code
def yX5_stream : MethodName := ⟨RX5, "stream", "(II)I"⟩
abbrev cX5_figure : ByteArray := prog_1_method_8_code
def yX5_figure : MethodName := ⟨RX5, "figure", "(II)I"⟩
abbrev cX5_clock : ByteArray := prog_1_method_9_code
def yX5_clock : MethodName := ⟨RX5, "clock", "(II)I"⟩
abbrev cX5_tick : ByteArray := prog_1_method_10_code
def yX5_tick : MethodName := ⟨RX5, "tick", "(II)I"⟩
abbrev cX5_afresh : ByteArray := prog_1_method_11_code
def yX5_afresh : MethodName := ⟨RX5, "afresh", "()I"⟩
abbrev cX5_tell : ByteArray := prog_1_method_12_code
def yX5_tell : MethodName := ⟨RX5, "tell", "(IIIII)I"⟩
abbrev cX5_undo : ByteArray := prog_1_method_13_code
def yX5_undo : MethodName := ⟨RX5, "undo", "()I"⟩
abbrev cX5_later : ByteArray := prog_1_method_14_code
def yX5_later : MethodName := ⟨RX5, "later", "(IIII)I"⟩
abbrev cX5_first : ByteArray := prog_1_method_15_code
def yX5_first : MethodName := ⟨RX5, "first", "(IIII)I"⟩
abbrev cX5_round : ByteArray := prog_1_method_16_code
def yX5_round : MethodName := ⟨RX5, "round", "(III)I"⟩
abbrev cX5_judge : ByteArray := prog_1_method_17_code
def yX5_judge : MethodName := ⟨RX5, "judge", "(IJ)I"⟩
abbrev cX5_see : ByteArray := prog_1_method_18_code
def yX5_see : MethodName := ⟨RX5, "see", "(IIII)I"⟩
abbrev cX5_unsee : ByteArray := prog_1_method_19_code
def yX5_unsee : MethodName := ⟨RX5, "unsee", "()I"⟩
abbrev cX5_inputs : ByteArray := prog_1_method_20_code
def yX5_inputs : MethodName := ⟨RX5, "inputs", "(I)I"⟩
abbrev cX5_odds : ByteArray := prog_1_method_21_code
def yX5_odds : MethodName := ⟨RX5, "odds", "(IIIIZ)I"⟩
abbrev cX5_seed : ByteArray := prog_1_method_22_code
def yX5_seed : MethodName := ⟨RX5, "seed", "(J)J"⟩
abbrev cX5_runs : ByteArray := prog_1_method_23_code
def yX5_runs : MethodName := ⟨RX5, "runs", "(I)I"⟩
abbrev cX5_keep : ByteArray := prog_1_method_24_code
def yX5_keep : MethodName := ⟨RX5, "keep", "(I)I"⟩
abbrev cX5_again : ByteArray := prog_1_method_25_code
def yX5_again : MethodName := ⟨RX5, "again", "(I)I"⟩
abbrev cX5_isStream : ByteArray := prog_1_method_26_code
def yX5_isStream : MethodName := ⟨RX5, "isStream", "(I)Z"⟩
abbrev cX5_soundness : ByteArray := prog_1_method_27_code
def yX5_soundness : MethodName := ⟨RX5, "soundness", "()I"⟩
abbrev cX5_isEquation : ByteArray := prog_1_method_28_code
def yX5_isEquation : MethodName := ⟨RX5, "isEquation", "(IIII)Z"⟩
abbrev cX5_layTrail : ByteArray := prog_1_method_29_code
def yX5_layTrail : MethodName := ⟨RX5, "layTrail", "(II)V"⟩
abbrev cX5_sameOnTrail : ByteArray := prog_1_method_30_code
def yX5_sameOnTrail : MethodName := ⟨RX5, "sameOnTrail", "(II)Z"⟩
abbrev cX5_holds : ByteArray := prog_1_method_31_code
def yX5_holds : MethodName := ⟨RX5, "holds", "(I)Z"⟩
abbrev cX5_explains : ByteArray := prog_1_method_32_code
def yX5_explains : MethodName := ⟨RX5, "explains", "(II)Z"⟩
abbrev cX5_timesThere : ByteArray := prog_1_method_33_code
def yX5_timesThere : MethodName := ⟨RX5, "timesThere", "(III)I"⟩
abbrev cX5_weight : ByteArray := prog_1_method_34_code
def yX5_weight : MethodName := ⟨RX5, "weight", "(III)I"⟩
abbrev cX5_commonDivisor : ByteArray := prog_1_method_35_code
def yX5_commonDivisor : MethodName := ⟨RX5, "commonDivisor", "(II)I"⟩
abbrev cX5_power : ByteArray := prog_1_method_36_code
def yX5_power : MethodName := ⟨RX5, "power", "(JI)J"⟩
abbrev cX5_carry : ByteArray := prog_1_method_37_code
def yX5_carry : MethodName := ⟨RX5, "carry", "(LClockedFlows$Flow;LClockedFlows$Flow;)V"⟩
abbrev cX5_streamOf : ByteArray := prog_1_method_38_code
def yX5_streamOf : MethodName := ⟨RX5, "streamOf", "(I)I"⟩
abbrev cX5_isValue : ByteArray := prog_1_method_39_code
def yX5_isValue : MethodName := ⟨RX5, "isValue", "(I)Z"⟩
abbrev cX5_figuresOf : ByteArray := prog_1_method_40_code
def yX5_figuresOf : MethodName := ⟨RX5, "figuresOf", "(I)I"⟩
abbrev cX5_namesStream : ByteArray := prog_1_method_41_code
def yX5_namesStream : MethodName := ⟨RX5, "namesStream", "(II)Z"⟩
abbrev cX5_isFigure : ByteArray := prog_1_method_42_code
def yX5_isFigure : MethodName := ⟨RX5, "isFigure", "(IIII)Z"⟩
def RX6 : String := "ClockedFlowsModel"
def TX6 : u_T := fun k => match k with
  | 0 => ("ClockedFlowsModel", "thrown", "I", false)
  | 1 => ("ClockedFlowsModel", "text", "[I", true)
  | 2 => ("ClockedFlowsModel", "textSize", "I", false)
  | 3 => ("ClockedFlowsModel", "place", "I", false)
  | 4 => ("ClockedFlowsModel", "readPage", "[I", true)
  | 5 => ("ClockedFlowsModel", "page", "[I", true)
  | 6 => ("ClockedFlowsModel", "trial", "[I", true)
  | 7 => ("ClockedFlowsModel", "book", "[I", true)
  | 8 => ("ClockedFlowsModel", "doings", "I", false)
  | 9 => ("ClockedFlowsModel", "slots", "[I", true)
  | 10 => ("ClockedFlowsModel", "isKept", "[Z", true)
  | 11 => ("ClockedFlowsModel", "seen", "I", false)
  | 12 => ("ClockedFlowsModel", "seenWhen", "[I", true)
  | 13 => ("ClockedFlowsModel", "seenWho", "[I", true)
  | 14 => ("ClockedFlowsModel", "seenWhat", "[I", true)
  | 15 => ("ClockedFlowsModel", "seenIs", "[I", true)
  | 16 => ("ClockedFlowsModel", "seed", "J", false)
  | 17 => ("ClockedFlowsModel", "up", "[I", true)
  | 18 => ("ClockedFlowsModel", "term", "[I", true)
  | 19 => ("ClockedFlowsModel", "clash", "I", false)
  | 20 => ("ClockedFlowsModel", "knot", "I", false)
  | 21 => ("ClockedFlowsModel", "raw", "I", false)
  | 22 => ("ClockedFlowsModel", "order", "[I", true)
  | 23 => ("ClockedFlowsModel", "level", "[I", true)
  | 24 => ("ClockedFlowsModel", "chain", "[I", true)
  | 25 => ("ClockedFlowsModel", "states", "[I", true)
  | 26 => ("ClockedFlowsModel", "inputMany", "I", false)
  | _ => ("ClockedFlowsModel", "inputFirst", "I", false)
def tyX6 : Nat → FieldType := fun k => match k with
  | 0 => .int
  | 1 => .array .int
  | 2 => .int
  | 3 => .int
  | 4 => .array .int
  | 5 => .array .int
  | 6 => .array .int
  | 7 => .array .int
  | 8 => .int
  | 9 => .array .int
  | 10 => .array .boolean
  | 11 => .int
  | 12 => .array .int
  | 13 => .array .int
  | 14 => .array .int
  | 15 => .array .int
  | 16 => .long
  | 17 => .array .int
  | 18 => .array .int
  | 19 => .int
  | 20 => .int
  | 21 => .int
  | 22 => .array .int
  | 23 => .array .int
  | 24 => .array .int
  | 25 => .array .int
  | 26 => .int
  | _ => .int
abbrev wsX60 : List Cond := u_ws RX6 TX6 28
theorem nmX6 : ∀ a, a < 28 → ∀ b, b < 28 → a ≠ b → (TX6 a).2.1 ≠ (TX6 b).2.1 := by decide +kernel
theorem tyX6_ok : ∀ k, k < 28 → parseFieldDescriptor (TX6 k).2.2.1 = some (tyX6 k) := by decide +kernel
abbrev cX6_init : ByteArray := prog_8_method_1_code
def yX6_init : MethodName := ⟨RX6, "<init>", "()V"⟩
abbrev cX6_in : ByteArray := prog_8_method_3_code
def yX6_in : MethodName := ⟨RX6, "in", "(JJJ)Z"⟩
abbrev cX6_has : ByteArray := prog_8_method_4_code
def yX6_has : MethodName := ⟨RX6, "has", "(II)Z"⟩
abbrev cX6_power : ByteArray := prog_8_method_5_code
def yX6_power : MethodName := ⟨RX6, "power", "(II)I"⟩
abbrev cX6_noStream : ByteArray := prog_8_method_6_code
def yX6_noStream : MethodName := ⟨RX6, "noStream", "(I)Z"⟩
abbrev cX6_figures : ByteArray := prog_8_method_7_code
def yX6_figures : MethodName := ⟨RX6, "figures", "(I)I"⟩
abbrev cX6_kindOf : ByteArray := prog_8_method_8_code
def yX6_kindOf : MethodName := ⟨RX6, "kindOf", "(I)I"⟩
abbrev cX6_most : ByteArray := prog_8_method_9_code
def yX6_most : MethodName := ⟨RX6, "most", "(III)I"⟩
abbrev cX6_streamOf : ByteArray := prog_8_method_10_code
def yX6_streamOf : MethodName := ⟨RX6, "streamOf", "([III)I"⟩
abbrev cX6_write : ByteArray := prog_8_method_11_code
def yX6_write : MethodName := ⟨RX6, "write", "(I)I"⟩
abbrev cX6_wipe : ByteArray := prog_8_method_12_code
def yX6_wipe : MethodName := ⟨RX6, "wipe", "()I"⟩
abbrev cX6_letterAt : ByteArray := prog_8_method_13_code
def yX6_letterAt : MethodName := ⟨RX6, "letterAt", "(I)I"⟩
abbrev cX6_readEquation : ByteArray := prog_8_method_14_code
def yX6_readEquation : MethodName := ⟨RX6, "readEquation", "(II)Z"⟩
abbrev cX6_readProgram : ByteArray := prog_8_method_15_code
def yX6_readProgram : MethodName := ⟨RX6, "readProgram", "()I"⟩
abbrev cX6_fault : ByteArray := prog_8_method_16_code
def yX6_fault : MethodName := ⟨RX6, "fault", "()I"⟩
abbrev cX6_root : ByteArray := prog_8_method_17_code
def yX6_root : MethodName := ⟨RX6, "root", "(I)I"⟩
abbrev cX6_isMet : ByteArray := prog_8_method_18_code
def yX6_isMet : MethodName := ⟨RX6, "isMet", "(II)Z"⟩
abbrev cX6_settle : ByteArray := prog_8_method_19_code
def yX6_settle : MethodName := ⟨RX6, "settle", "(II)Z"⟩
abbrev cX6_like : ByteArray := prog_8_method_20_code
def yX6_like : MethodName := ⟨RX6, "like", "(II)Z"⟩
abbrev cX6_asks : ByteArray := prog_8_method_21_code
def yX6_asks : MethodName := ⟨RX6, "asks", "([II)Z"⟩
abbrev cX6_findClocks : ByteArray := prog_8_method_22_code
def yX6_findClocks : MethodName := ⟨RX6, "findClocks", "([I)V"⟩
abbrev cX6_clocks : ByteArray := prog_8_method_23_code
def yX6_clocks : MethodName := ⟨RX6, "clocks", "(I)I"⟩
abbrev cX6_waits : ByteArray := prog_8_method_24_code
def yX6_waits : MethodName := ⟨RX6, "waits", "([II)I"⟩
abbrev cX6_findOrder : ByteArray := prog_8_method_25_code
def yX6_findOrder : MethodName := ⟨RX6, "findOrder", "([I)V"⟩
abbrev cX6_isOne : ByteArray := prog_8_method_26_code
def yX6_isOne : MethodName := ⟨RX6, "isOne", "([II)Z"⟩
abbrev cX6_findLevels : ByteArray := prog_8_method_27_code
def yX6_findLevels : MethodName := ⟨RX6, "findLevels", "([I)V"⟩
abbrev cX6_isRaw : ByteArray := prog_8_method_28_code
def yX6_isRaw : MethodName := ⟨RX6, "isRaw", "([II)Z"⟩
abbrev cX6_find : ByteArray := prog_8_method_29_code
def yX6_find : MethodName := ⟨RX6, "find", "([I)V"⟩
abbrev cX6_isSound : ByteArray := prog_8_method_30_code
def yX6_isSound : MethodName := ⟨RX6, "isSound", "()Z"⟩
abbrev cX6_soundNow : ByteArray := prog_8_method_31_code
def yX6_soundNow : MethodName := ⟨RX6, "soundNow", "()Z"⟩
abbrev cX6_goAfresh : ByteArray := prog_8_method_32_code
def yX6_goAfresh : MethodName := ⟨RX6, "goAfresh", "([I)V"⟩
abbrev cX6_isThere : ByteArray := prog_8_method_33_code
def yX6_isThere : MethodName := ⟨RX6, "isThere", "([II)Z"⟩
abbrev cX6_made : ByteArray := prog_8_method_34_code
def yX6_made : MethodName := ⟨RX6, "made", "(III)I"⟩
abbrev cX6_valueOf : ByteArray := prog_8_method_35_code
def yX6_valueOf : MethodName := ⟨RX6, "valueOf", "([IIII)I"⟩
abbrev cX6_keepOn : ByteArray := prog_8_method_36_code
def yX6_keepOn : MethodName := ⟨RX6, "keepOn", "([I)V"⟩
abbrev cX6_goTick : ByteArray := prog_8_method_37_code
def yX6_goTick : MethodName := ⟨RX6, "goTick", "([III)I"⟩
abbrev cX6_program : ByteArray := prog_8_method_38_code
def yX6_program : MethodName := ⟨RX6, "program", "()I"⟩
abbrev cX6_there : ByteArray := prog_8_method_39_code
def yX6_there : MethodName := ⟨RX6, "there", "()I"⟩
abbrev cX6_about : ByteArray := prog_8_method_40_code
def yX6_about : MethodName := ⟨RX6, "about", "(I)I"⟩
abbrev cX6_stream : ByteArray := prog_8_method_41_code
def yX6_stream : MethodName := ⟨RX6, "stream", "(II)I"⟩
abbrev cX6_figure : ByteArray := prog_8_method_42_code
def yX6_figure : MethodName := ⟨RX6, "figure", "(II)I"⟩
abbrev cX6_clock : ByteArray := prog_8_method_43_code
def yX6_clock : MethodName := ⟨RX6, "clock", "(II)I"⟩
abbrev cX6_note : ByteArray := prog_8_method_44_code
def yX6_note : MethodName := ⟨RX6, "note", "()V"⟩
abbrev cX6_areInputs : ByteArray := prog_8_method_45_code
def yX6_areInputs : MethodName := ⟨RX6, "areInputs", "(II)Z"⟩
abbrev cX6_tick : ByteArray := prog_8_method_46_code
def yX6_tick : MethodName := ⟨RX6, "tick", "(II)I"⟩
abbrev cX6_afresh : ByteArray := prog_8_method_47_code
def yX6_afresh : MethodName := ⟨RX6, "afresh", "()I"⟩
abbrev cX6_areFigures : ByteArray := prog_8_method_48_code
def yX6_areFigures : MethodName := ⟨RX6, "areFigures", "(IIII)Z"⟩
abbrev cX6_tell : ByteArray := prog_8_method_49_code
def yX6_tell : MethodName := ⟨RX6, "tell", "(IIIII)I"⟩
abbrev cX6_undo : ByteArray := prog_8_method_50_code
def yX6_undo : MethodName := ⟨RX6, "undo", "()I"⟩
abbrev cX6_begin : ByteArray := prog_8_method_51_code
def yX6_begin : MethodName := ⟨RX6, "begin", "()V"⟩
abbrev cX6_goTicks : ByteArray := prog_8_method_52_code
def yX6_goTicks : MethodName := ⟨RX6, "goTicks", "(III)V"⟩
abbrev cX6_later : ByteArray := prog_8_method_53_code
def yX6_later : MethodName := ⟨RX6, "later", "(IIII)I"⟩
abbrev cX6_first : ByteArray := prog_8_method_54_code
def yX6_first : MethodName := ⟨RX6, "first", "(IIII)I"⟩
abbrev cX6_areAlike : ByteArray := prog_8_method_55_code
def yX6_areAlike : MethodName := ⟨RX6, "areAlike", "(II)Z"⟩
abbrev cX6_layStates : ByteArray := prog_8_method_56_code
def yX6_layStates : MethodName := ⟨RX6, "layStates", "(II)V"⟩
abbrev cX6_round : ByteArray := prog_8_method_57_code
def yX6_round : MethodName := ⟨RX6, "round", "(III)I"⟩
abbrev cX6_longPower : ByteArray := prog_8_method_58_code
def yX6_longPower : MethodName := ⟨RX6, "longPower", "(JI)J"⟩
abbrev cX6_areLike : ByteArray := prog_8_method_59_code
def yX6_areLike : MethodName := ⟨RX6, "areLike", "(II)Z"⟩
abbrev cX6_isSo : ByteArray := prog_8_method_60_code
def yX6_isSo : MethodName := ⟨RX6, "isSo", "(IIII)Z"⟩
abbrev cX6_does : ByteArray := prog_8_method_61_code
def yX6_does : MethodName := ⟨RX6, "does", "(I)Z"⟩
abbrev cX6_judge : ByteArray := prog_8_method_62_code
def yX6_judge : MethodName := ⟨RX6, "judge", "(IJ)I"⟩
abbrev cX6_see : ByteArray := prog_8_method_63_code
def yX6_see : MethodName := ⟨RX6, "see", "(IIII)I"⟩
abbrev cX6_unsee : ByteArray := prog_8_method_64_code
def yX6_unsee : MethodName := ⟨RX6, "unsee", "()I"⟩
abbrev cX6_explains : ByteArray := prog_8_method_65_code
def yX6_explains : MethodName := ⟨RX6, "explains", "(II)Z"⟩
abbrev cX6_inputs : ByteArray := prog_8_method_66_code
def yX6_inputs : MethodName := ⟨RX6, "inputs", "(I)I"⟩
abbrev cX6_divisor : ByteArray := prog_8_method_67_code
def yX6_divisor : MethodName := ⟨RX6, "divisor", "(II)I"⟩
abbrev cX6_fraction : ByteArray := prog_8_method_68_code
def yX6_fraction : MethodName := ⟨RX6, "fraction", "(IIZ)I"⟩
abbrev cX6_timesThere : ByteArray := prog_8_method_69_code
def yX6_timesThere : MethodName := ⟨RX6, "timesThere", "(III)I"⟩
abbrev cX6_odds : ByteArray := prog_8_method_70_code
def yX6_odds : MethodName := ⟨RX6, "odds", "(IIIIZ)I"⟩
abbrev cX6_seed : ByteArray := prog_8_method_71_code
def yX6_seed : MethodName := ⟨RX6, "seed", "(J)J"⟩
abbrev cX6_sumOf : ByteArray := prog_8_method_72_code
def yX6_sumOf : MethodName := ⟨RX6, "sumOf", "(I)I"⟩
abbrev cX6_runs : ByteArray := prog_8_method_73_code
def yX6_runs : MethodName := ⟨RX6, "runs", "(I)I"⟩
abbrev cX6_keep : ByteArray := prog_8_method_74_code
def yX6_keep : MethodName := ⟨RX6, "keep", "(I)I"⟩
abbrev cX6_again : ByteArray := prog_8_method_75_code
def yX6_again : MethodName := ⟨RX6, "again", "(I)I"⟩
def RJx145de : String := "java/io/Serializable"
def TJx145de : u_T := fun k => match k with
  | _ => ("", "", "", false)
def tyJx145de : Nat → FieldType := fun k => match k with
  | _ => .int
abbrev wsJx145de0 : List Cond := u_ws RJx145de TJx145de 0
theorem nmJx145de : ∀ a, a < 0 → ∀ b, b < 0 → a ≠ b → (TJx145de a).2.1 ≠ (TJx145de b).2.1 := by decide +kernel
theorem tyJx145de_ok : ∀ k, k < 0 → parseFieldDescriptor (TJx145de k).2.2.1 = some (tyJx145de k) := by decide +kernel
def RJx9f9b0 : String := "java/lang/CharSequence"
def TJx9f9b0 : u_T := fun k => match k with
  | _ => ("", "", "", false)
def tyJx9f9b0 : Nat → FieldType := fun k => match k with
  | _ => .int
abbrev wsJx9f9b00 : List Cond := u_ws RJx9f9b0 TJx9f9b0 0
theorem nmJx9f9b0 : ∀ a, a < 0 → ∀ b, b < 0 → a ≠ b → (TJx9f9b0 a).2.1 ≠ (TJx9f9b0 b).2.1 := by decide +kernel
theorem tyJx9f9b0_ok : ∀ k, k < 0 → parseFieldDescriptor (TJx9f9b0 k).2.2.1 = some (tyJx9f9b0 k) := by decide +kernel
def RJ11 : String := "java/lang/Character"
def TJ11 : u_T := fun k => match k with
  | _ => ("", "", "", false)
def tyJ11 : Nat → FieldType := fun k => match k with
  | _ => .int
abbrev wsJ110 : List Cond := u_ws RJ11 TJ11 0
theorem nmJ11 : ∀ a, a < 0 → ∀ b, b < 0 → a ≠ b → (TJ11 a).2.1 ≠ (TJ11 b).2.1 := by decide +kernel
theorem tyJ11_ok : ∀ k, k < 0 → parseFieldDescriptor (TJ11 k).2.2.1 = some (tyJ11 k) := by decide +kernel
abbrev cJ11_isValidCodePoint_9a6ad : ByteArray := prog_9_method_11_code
def yJ11_isValidCodePoint_9a6ad : MethodName := ⟨RJ11, "isValidCodePoint", "(I)Z"⟩
abbrev cJ11_highSurrogate_5068e : ByteArray := prog_9_method_28_code
def yJ11_highSurrogate_5068e : MethodName := ⟨RJ11, "highSurrogate", "(I)C"⟩
abbrev cJ11_lowSurrogate_5068e : ByteArray := prog_9_method_29_code
def yJ11_lowSurrogate_5068e : MethodName := ⟨RJ11, "lowSurrogate", "(I)C"⟩
def RJxb160c : String := "java/lang/Comparable"
def TJxb160c : u_T := fun k => match k with
  | _ => ("", "", "", false)
def tyJxb160c : Nat → FieldType := fun k => match k with
  | _ => .int
abbrev wsJxb160c0 : List Cond := u_ws RJxb160c TJxb160c 0
theorem nmJxb160c : ∀ a, a < 0 → ∀ b, b < 0 → a ≠ b → (TJxb160c a).2.1 ≠ (TJxb160c b).2.1 := by decide +kernel
theorem tyJxb160c_ok : ∀ k, k < 0 → parseFieldDescriptor (TJxb160c k).2.2.1 = some (tyJxb160c k) := by decide +kernel
def RJ6 : String := "java/lang/Integer"
def TJ6 : u_T := fun k => match k with
  | _ => ("", "", "", false)
def tyJ6 : Nat → FieldType := fun k => match k with
  | _ => .int
abbrev wsJ60 : List Cond := u_ws RJ6 TJ6 0
theorem nmJ6 : ∀ a, a < 0 → ∀ b, b < 0 → a ≠ b → (TJ6 a).2.1 ≠ (TJ6 b).2.1 := by decide +kernel
theorem tyJ6_ok : ∀ k, k < 0 → parseFieldDescriptor (TJ6 k).2.2.1 = some (tyJ6 k) := by decide +kernel
abbrev cJ6_bitCount_0f7a4 : ByteArray := prog_10_method_49_code
def yJ6_bitCount_0f7a4 : MethodName := ⟨RJ6, "bitCount", "(I)I"⟩
def RJ9 : String := "java/lang/Math"
def TJ9 : u_T := fun k => match k with
  | _ => ("", "", "", false)
def tyJ9 : Nat → FieldType := fun k => match k with
  | _ => .int
abbrev wsJ90 : List Cond := u_ws RJ9 TJ9 0
theorem nmJ9 : ∀ a, a < 0 → ∀ b, b < 0 → a ≠ b → (TJ9 a).2.1 ≠ (TJ9 b).2.1 := by decide +kernel
theorem tyJ9_ok : ∀ k, k < 0 → parseFieldDescriptor (TJ9 k).2.2.1 = some (tyJ9 k) := by decide +kernel
abbrev cJ9_max_7cf53 : ByteArray := prog_11_method_65_code
def yJ9_max_7cf53 : MethodName := ⟨RJ9, "max", "(II)I"⟩
abbrev cJ9_min_7cf53 : ByteArray := prog_11_method_69_code
def yJ9_min_7cf53 : MethodName := ⟨RJ9, "min", "(II)I"⟩
def RJ0 : String := "java/lang/String"
def TJ0 : u_T := fun k => match k with
  | _ => ("", "", "", false)
def tyJ0 : Nat → FieldType := fun k => match k with
  | _ => .int
abbrev wsJ00 : List Cond := u_ws RJ0 TJ0 0
theorem nmJ0 : ∀ a, a < 0 → ∀ b, b < 0 → a ≠ b → (TJ0 a).2.1 ≠ (TJ0 b).2.1 := by decide +kernel
theorem tyJ0_ok : ∀ k, k < 0 → parseFieldDescriptor (TJ0 k).2.2.1 = some (tyJ0 k) := by decide +kernel
abbrev cJ0_length_8abf5 : ByteArray := prog_12_method_54_code
def yJ0_length_8abf5 : MethodName := ⟨RJ0, "length", "()I"⟩
abbrev cJ0_indexOf_0f7a4 : ByteArray := prog_12_method_79_code
def yJ0_indexOf_0f7a4 : MethodName := ⟨RJ0, "indexOf", "(I)I"⟩
abbrev cJ0_indexOf_7cf53 : ByteArray := prog_12_method_80_code
def yJ0_indexOf_7cf53 : MethodName := ⟨RJ0, "indexOf", "(II)I"⟩
abbrev cJ0_coder_7d493 : ByteArray := prog_12_method_152_code
def yJ0_coder_7d493 : MethodName := ⟨RJ0, "coder", "()B"⟩
abbrev cJ0_isLatin1_aae02 : ByteArray := prog_12_method_154_code
def yJ0_isLatin1_aae02 : MethodName := ⟨RJ0, "isLatin1", "()Z"⟩
abbrev cJ0_checkBoundsBeginEnd_23922 : ByteArray := prog_12_method_158_code
def yJ0_checkBoundsBeginEnd_23922 : MethodName := ⟨RJ0, "checkBoundsBeginEnd", "(III)V"⟩
def RJ1 : String := "java/lang/StringLatin1"
def TJ1 : u_T := fun k => match k with
  | _ => ("", "", "", false)
def tyJ1 : Nat → FieldType := fun k => match k with
  | _ => .int
abbrev wsJ10 : List Cond := u_ws RJ1 TJ1 0
theorem nmJ1 : ∀ a, a < 0 → ∀ b, b < 0 → a ≠ b → (TJ1 a).2.1 ≠ (TJ1 b).2.1 := by decide +kernel
theorem tyJ1_ok : ∀ k, k < 0 → parseFieldDescriptor (TJ1 k).2.2.1 = some (tyJ1 k) := by decide +kernel
abbrev cJ1_canEncode_9a6ad : ByteArray := prog_13_method_4_code
def yJ1_canEncode_9a6ad : MethodName := ⟨RJ1, "canEncode", "(I)Z"⟩
abbrev cJ1_indexOf_4cfef : ByteArray := prog_13_method_22_code
def yJ1_indexOf_4cfef : MethodName := ⟨RJ1, "indexOf", "([BIII)I"⟩
abbrev cJ1_indexOfChar_4cfef : ByteArray := prog_13_method_23_code
def yJ1_indexOfChar_4cfef : MethodName := ⟨RJ1, "indexOfChar", "([BIII)I"⟩
def RJ2 : String := "java/lang/StringUTF16"
def TJ2 : u_T := fun k => match k with
  | _ => ("", "", "", false)
def tyJ2 : Nat → FieldType := fun k => match k with
  | _ => .int
abbrev wsJ20 : List Cond := u_ws RJ2 TJ2 0
theorem nmJ2 : ∀ a, a < 0 → ∀ b, b < 0 → a ≠ b → (TJ2 a).2.1 ≠ (TJ2 b).2.1 := by decide +kernel
theorem tyJ2_ok : ∀ k, k < 0 → parseFieldDescriptor (TJ2 k).2.2.1 = some (tyJ2 k) := by decide +kernel
abbrev cJ2_getChar_3b067 : ByteArray := prog_14_method_5_code
def yJ2_getChar_3b067 : MethodName := ⟨RJ2, "getChar", "([BI)C"⟩
abbrev cJ2_length_9d52b : ByteArray := prog_14_method_6_code
def yJ2_length_9d52b : MethodName := ⟨RJ2, "length", "([B)I"⟩
abbrev cJ2_indexOf_4cfef : ByteArray := prog_14_method_40_code
def yJ2_indexOf_4cfef : MethodName := ⟨RJ2, "indexOf", "([BIII)I"⟩
abbrev cJ2_indexOfChar_4cfef : ByteArray := prog_14_method_47_code
def yJ2_indexOfChar_4cfef : MethodName := ⟨RJ2, "indexOfChar", "([BIII)I"⟩
abbrev cJ2_indexOfCharUnsafe_4cfef : ByteArray := prog_14_method_48_code
def yJ2_indexOfCharUnsafe_4cfef : MethodName := ⟨RJ2, "indexOfCharUnsafe", "([BIII)I"⟩
abbrev cJ2_indexOfSupplementary_4cfef : ByteArray := prog_14_method_49_code
def yJ2_indexOfSupplementary_4cfef : MethodName := ⟨RJ2, "indexOfSupplementary", "([BIII)I"⟩
abbrev cJ2_checkBoundsBeginEnd_d044e : ByteArray := prog_14_method_93_code
def yJ2_checkBoundsBeginEnd_d044e : MethodName := ⟨RJ2, "checkBoundsBeginEnd", "(II[B)V"⟩
def RJ10 : String := "java/lang/System"
def TJ10 : u_T := fun k => match k with
  | _ => ("", "", "", false)
def tyJ10 : Nat → FieldType := fun k => match k with
  | _ => .int
abbrev wsJ100 : List Cond := u_ws RJ10 TJ10 0
theorem nmJ10 : ∀ a, a < 0 → ∀ b, b < 0 → a ≠ b → (TJ10 a).2.1 ≠ (TJ10 b).2.1 := by decide +kernel
theorem tyJ10_ok : ∀ k, k < 0 → parseFieldDescriptor (TJ10 k).2.2.1 = some (tyJ10 k) := by decide +kernel
def RJxfd54e : String := "java/lang/constant/Constable"
def TJxfd54e : u_T := fun k => match k with
  | _ => ("", "", "", false)
def tyJxfd54e : Nat → FieldType := fun k => match k with
  | _ => .int
abbrev wsJxfd54e0 : List Cond := u_ws RJxfd54e TJxfd54e 0
theorem nmJxfd54e : ∀ a, a < 0 → ∀ b, b < 0 → a ≠ b → (TJxfd54e a).2.1 ≠ (TJxfd54e b).2.1 := by decide +kernel
theorem tyJxfd54e_ok : ∀ k, k < 0 → parseFieldDescriptor (TJxfd54e k).2.2.1 = some (tyJxfd54e k) := by decide +kernel
def RJx3cf43 : String := "java/lang/constant/ConstantDesc"
def TJx3cf43 : u_T := fun k => match k with
  | _ => ("", "", "", false)
def tyJx3cf43 : Nat → FieldType := fun k => match k with
  | _ => .int
abbrev wsJx3cf430 : List Cond := u_ws RJx3cf43 TJx3cf43 0
theorem nmJx3cf43 : ∀ a, a < 0 → ∀ b, b < 0 → a ≠ b → (TJx3cf43 a).2.1 ≠ (TJx3cf43 b).2.1 := by decide +kernel
theorem tyJx3cf43_ok : ∀ k, k < 0 → parseFieldDescriptor (TJx3cf43 k).2.2.1 = some (tyJx3cf43 k) := by decide +kernel
def RJ7 : String := "java/util/Arrays"
def TJ7 : u_T := fun k => match k with
  | _ => ("", "", "", false)
def tyJ7 : Nat → FieldType := fun k => match k with
  | _ => .int
abbrev wsJ70 : List Cond := u_ws RJ7 TJ7 0
theorem nmJ7 : ∀ a, a < 0 → ∀ b, b < 0 → a ≠ b → (TJ7 a).2.1 ≠ (TJ7 b).2.1 := by decide +kernel
theorem tyJ7_ok : ∀ k, k < 0 → parseFieldDescriptor (TJ7 k).2.2.1 = some (tyJ7 k) := by decide +kernel
abbrev cJ7_fill_53178 : ByteArray := prog_16_method_103_code
def yJ7_fill_53178 : MethodName := ⟨RJ7, "fill", "([II)V"⟩
def RJ3 : String := "jdk/internal/util/Preconditions"
def TJ3 : u_T := fun k => match k with
  | _ => ("", "", "", false)
def tyJ3 : Nat → FieldType := fun k => match k with
  | _ => .int
abbrev wsJ30 : List Cond := u_ws RJ3 TJ3 0
theorem nmJ3 : ∀ a, a < 0 → ∀ b, b < 0 → a ≠ b → (TJ3 a).2.1 ≠ (TJ3 b).2.1 := by decide +kernel
theorem tyJ3_ok : ∀ k, k < 0 → parseFieldDescriptor (TJ3 k).2.2.1 = some (tyJ3 k) := by decide +kernel
abbrev cJ3_checkFromToIndex_8c36e : ByteArray := prog_17_method_12_code
def yJ3_checkFromToIndex_8c36e : MethodName := ⟨RJ3, "checkFromToIndex", "(IIILjava/util/function/BiFunction;)I"⟩
def RL : String := "ClockedFlowsLaw"
abbrev cL_law : ByteArray := code
def yL_law : MethodName := ⟨RL, "law", "([I)Z"⟩
abbrev vwCl : List vw_C := [(RX0, TX0, 3), (RX1, TX1, 6), (RX2, TX2, 11), (RX3, TX3, 5), (RX4, TX4, 2), (RX5, TX5, 10), (RX6, TX6, 28)]
