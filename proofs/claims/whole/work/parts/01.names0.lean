/-! ===== BEGIN words of one list among another's, by their places ===== -/
theorem goodIn_r {big : List Cond} (ws : List Cond) (ps : List Nat) (hp : ws = ps.filterMap (fun i => big[i]?)) (h : ws.all goodWord = true) : GoodIn big ws := by
  intro w hw
  have h1 := List.all_eq_true.mp h w hw
  rw [hp] at hw
  obtain ⟨i, -, hi⟩ := List.mem_filterMap.mp hw
  have hm : w ∈ big := by first | exact List.mem_of_getElem? hi | exact List.getElem?_mem hi
  exact ⟨hm, good_of_word h1⟩
theorem goodIn_app {big a b : List Cond} (ha : GoodIn big a) (hb : GoodIn big b) : GoodIn big (a ++ b) := fun w h => (List.mem_append.mp h).elim (ha w) (hb w)
theorem goodIn_ca {big a b : List Cond} {c : Cond} (ha : GoodIn big (c :: a)) (hb : GoodIn big b) : GoodIn big (c :: (a ++ b)) := fun w h => (List.mem_cons.mp h).elim (fun e => ha w (List.mem_cons.mpr (Or.inl e))) (fun h => (List.mem_append.mp h).elim (fun h => ha w (List.mem_cons.mpr (Or.inr h))) (hb w))
theorem goodIn_sub {big ws : List Cond} (hm : ∀ w ∈ ws, w ∈ big) (h : ws.all goodWord = true) : GoodIn big ws := fun w hw => ⟨hm w hw, good_of_word (List.all_eq_true.mp h w hw)⟩
/-! ===== END ===== -/

/-! ===== BEGIN printed: names, fields, word lists, decode rows ===== -/
def RX0 : String := "TwoArmies$Day"
def TX0 : u_T := fun k => match k with
  | 0 => ("TwoArmies$Day", "width", "I", false)
  | 1 => ("TwoArmies$Day", "height", "I", false)
  | 2 => ("TwoArmies$Day", "hourLength", "I", false)
  | 3 => ("TwoArmies$Day", "hour", "I", false)
  | 4 => ("TwoArmies$Day", "minute", "I", false)
  | 5 => ("TwoArmies$Day", "row", "I", false)
  | 6 => ("TwoArmies$Day", "column", "I", false)
  | 7 => ("TwoArmies$Day", "looks", "I", false)
  | 8 => ("TwoArmies$Day", "begunKind", "I", false)
  | 9 => ("TwoArmies$Day", "minutesLeft", "I", false)
  | 10 => ("TwoArmies$Day", "mudOn", "[I", true)
  | 11 => ("TwoArmies$Day", "piledUp", "[I", true)
  | 12 => ("TwoArmies$Day", "knelt", "[I", true)
  | _ => ("TwoArmies$Day", "drills", "[LTwoArmies$Drill;", true)
def tyX0 : Nat → FieldType := fun k => match k with
  | 0 => .int
  | 1 => .int
  | 2 => .int
  | 3 => .int
  | 4 => .int
  | 5 => .int
  | 6 => .int
  | 7 => .int
  | 8 => .int
  | 9 => .int
  | 10 => .array .int
  | 11 => .array .int
  | 12 => .array .int
  | _ => .array (.object "TwoArmies$Drill")
abbrev wsX00 : List Cond := u_ws RX0 TX0 14
theorem nmX0 : ∀ a, a < 14 → ∀ b, b < 14 → a ≠ b → (TX0 a).2.1 ≠ (TX0 b).2.1 := by decide +kernel
theorem tyX0_ok : ∀ k, k < 14 → parseFieldDescriptor (TX0 k).2.2.1 = some (tyX0 k) := by decide +kernel
abbrev cX0_init : ByteArray := prog_2_method_1_code
def yX0_init : MethodName := ⟨RX0, "<init>", "()V"⟩
abbrev cX0_startAsTold : ByteArray := prog_2_method_2_code
def yX0_startAsTold : MethodName := ⟨RX0, "startAsTold", "(LTwoArmies$Plan;)V"⟩
abbrev cX0_copyFrom : ByteArray := prog_2_method_3_code
def yX0_copyFrom : MethodName := ⟨RX0, "copyFrom", "(LTwoArmies$Day;)V"⟩
abbrev cX0_hasCell : ByteArray := prog_2_method_4_code
def yX0_hasCell : MethodName := ⟨RX0, "hasCell", "(I)Z"⟩
abbrev cX0_cell : ByteArray := prog_2_method_5_code
def yX0_cell : MethodName := ⟨RX0, "cell", "()I"⟩
abbrev cX0_armyOfHour : ByteArray := prog_2_method_6_code
def yX0_armyOfHour : MethodName := ⟨RX0, "armyOfHour", "()I"⟩
abbrev cX0_mudInAll : ByteArray := prog_2_method_7_code
def yX0_mudInAll : MethodName := ⟨RX0, "mudInAll", "()I"⟩
abbrev cX0_goMinutes : ByteArray := prog_2_method_8_code
def yX0_goMinutes : MethodName := ⟨RX0, "goMinutes", "(I)V"⟩
abbrev cX0_goMinute : ByteArray := prog_2_method_9_code
def yX0_goMinute : MethodName := ⟨RX0, "goMinute", "()I"⟩
abbrev cX0_windOn : ByteArray := prog_2_method_10_code
def yX0_windOn : MethodName := ⟨RX0, "windOn", "(I)V"⟩
abbrev cX0_beginNext : ByteArray := prog_2_method_11_code
def yX0_beginNext : MethodName := ⟨RX0, "beginNext", "(LTwoArmies$Drill;)V"⟩
abbrev cX0_doBegun : ByteArray := prog_2_method_12_code
def yX0_doBegun : MethodName := ⟨RX0, "doBegun", "(I)V"⟩
abbrev cX0_step : ByteArray := prog_2_method_13_code
def yX0_step : MethodName := ⟨RX0, "step", "(I)V"⟩
abbrev cX0_clear : ByteArray := prog_2_method_14_code
def yX0_clear : MethodName := ⟨RX0, "clear", "([I)V"⟩
def RX1 : String := "TwoArmies$Drill"
def TX1 : u_T := fun k => match k with
  | 0 => ("TwoArmies$Drill", "kinds", "[I", true)
  | 1 => ("TwoArmies$Drill", "minutes", "[I", true)
  | _ => ("TwoArmies$Drill", "size", "I", false)
def tyX1 : Nat → FieldType := fun k => match k with
  | 0 => .array .int
  | 1 => .array .int
  | _ => .int
abbrev wsX10 : List Cond := u_ws RX1 TX1 3
theorem nmX1 : ∀ a, a < 3 → ∀ b, b < 3 → a ≠ b → (TX1 a).2.1 ≠ (TX1 b).2.1 := by decide +kernel
theorem tyX1_ok : ∀ k, k < 3 → parseFieldDescriptor (TX1 k).2.2.1 = some (tyX1 k) := by decide +kernel
abbrev cX1_init : ByteArray := prog_3_method_1_code
def yX1_init : MethodName := ⟨RX1, "<init>", "()V"⟩
abbrev cX1_isFull : ByteArray := prog_3_method_2_code
def yX1_isFull : MethodName := ⟨RX1, "isFull", "()Z"⟩
abbrev cX1_append : ByteArray := prog_3_method_3_code
def yX1_append : MethodName := ⟨RX1, "append", "(II)V"⟩
abbrev cX1_replaceNext : ByteArray := prog_3_method_4_code
def yX1_replaceNext : MethodName := ⟨RX1, "replaceNext", "(II)V"⟩
abbrev cX1_dropNext : ByteArray := prog_3_method_5_code
def yX1_dropNext : MethodName := ⟨RX1, "dropNext", "()V"⟩
abbrev cX1_copyFrom : ByteArray := prog_3_method_6_code
def yX1_copyFrom : MethodName := ⟨RX1, "copyFrom", "(LTwoArmies$Drill;)V"⟩
def RX2 : String := "TwoArmies$Past"
def TX2 : u_T := fun k => match k with
  | 0 => ("TwoArmies$Past", "days", "[LTwoArmies$Day;", true)
  | _ => ("TwoArmies$Past", "size", "I", false)
def tyX2 : Nat → FieldType := fun k => match k with
  | 0 => .array (.object "TwoArmies$Day")
  | _ => .int
abbrev wsX20 : List Cond := u_ws RX2 TX2 2
theorem nmX2 : ∀ a, a < 2 → ∀ b, b < 2 → a ≠ b → (TX2 a).2.1 ≠ (TX2 b).2.1 := by decide +kernel
theorem tyX2_ok : ∀ k, k < 2 → parseFieldDescriptor (TX2 k).2.2.1 = some (tyX2 k) := by decide +kernel
abbrev cX2_init : ByteArray := prog_4_method_1_code
def yX2_init : MethodName := ⟨RX2, "<init>", "()V"⟩
abbrev cX2_remember : ByteArray := prog_4_method_2_code
def yX2_remember : MethodName := ⟨RX2, "remember", "(LTwoArmies$Day;)V"⟩
abbrev cX2_recall : ByteArray := prog_4_method_3_code
def yX2_recall : MethodName := ⟨RX2, "recall", "(LTwoArmies$Day;)Z"⟩
abbrev cX2_dropOldest : ByteArray := prog_4_method_4_code
def yX2_dropOldest : MethodName := ⟨RX2, "dropOldest", "()V"⟩
def RX3 : String := "TwoArmies$Plan"
def TX3 : u_T := fun k => match k with
  | 0 => ("TwoArmies$Plan", "width", "I", false)
  | 1 => ("TwoArmies$Plan", "height", "I", false)
  | 2 => ("TwoArmies$Plan", "hourLength", "I", false)
  | 3 => ("TwoArmies$Plan", "cell", "I", false)
  | 4 => ("TwoArmies$Plan", "looks", "I", false)
  | _ => ("TwoArmies$Plan", "drills", "[LTwoArmies$Drill;", true)
def tyX3 : Nat → FieldType := fun k => match k with
  | 0 => .int
  | 1 => .int
  | 2 => .int
  | 3 => .int
  | 4 => .int
  | _ => .array (.object "TwoArmies$Drill")
abbrev wsX30 : List Cond := u_ws RX3 TX3 6
theorem nmX3 : ∀ a, a < 6 → ∀ b, b < 6 → a ≠ b → (TX3 a).2.1 ≠ (TX3 b).2.1 := by decide +kernel
theorem tyX3_ok : ∀ k, k < 6 → parseFieldDescriptor (TX3 k).2.2.1 = some (tyX3 k) := by decide +kernel
abbrev cX3_init : ByteArray := prog_5_method_1_code
def yX3_init : MethodName := ⟨RX3, "<init>", "()V"⟩
abbrev cX3_startAnew : ByteArray := prog_5_method_2_code
def yX3_startAnew : MethodName := ⟨RX3, "startAnew", "(II)V"⟩
abbrev cX3_copyFrom : ByteArray := prog_5_method_3_code
def yX3_copyFrom : MethodName := ⟨RX3, "copyFrom", "(LTwoArmies$Plan;)V"⟩
def RX4 : String := "TwoArmies$Reader"
def TX4 : u_T := fun k => match k with
  | 0 => ("TwoArmies$Reader", "text", "LTwoArmies$Text;", true)
  | 1 => ("TwoArmies$Reader", "plan", "LTwoArmies$Plan;", true)
  | 2 => ("TwoArmies$Reader", "start", "I", false)
  | 3 => ("TwoArmies$Reader", "end", "I", false)
  | 4 => ("TwoArmies$Reader", "faultAt", "I", false)
  | _ => ("TwoArmies$Reader", "clauses", "I", false)
def tyX4 : Nat → FieldType := fun k => match k with
  | 0 => .object "TwoArmies$Text"
  | 1 => .object "TwoArmies$Plan"
  | 2 => .int
  | 3 => .int
  | 4 => .int
  | _ => .int
abbrev wsX40 : List Cond := u_ws RX4 TX4 6
theorem nmX4 : ∀ a, a < 6 → ∀ b, b < 6 → a ≠ b → (TX4 a).2.1 ≠ (TX4 b).2.1 := by decide +kernel
theorem tyX4_ok : ∀ k, k < 6 → parseFieldDescriptor (TX4 k).2.2.1 = some (tyX4 k) := by decide +kernel
abbrev cX4_init : ByteArray := prog_6_method_1_code
def yX4_init : MethodName := ⟨RX4, "<init>", "(LTwoArmies$Text;)V"⟩
abbrev cX4_readAll : ByteArray := prog_6_method_2_code
def yX4_readAll : MethodName := ⟨RX4, "readAll", "(LTwoArmies$Plan;)I"⟩
abbrev cX4_readLink : ByteArray := prog_6_method_3_code
def yX4_readLink : MethodName := ⟨RX4, "readLink", "()Z"⟩
abbrev cX4_readClause : ByteArray := prog_6_method_4_code
def yX4_readClause : MethodName := ⟨RX4, "readClause", "()V"⟩
abbrev cX4_readGround : ByteArray := prog_6_method_5_code
def yX4_readGround : MethodName := ⟨RX4, "readGround", "()V"⟩
abbrev cX4_readStand : ByteArray := prog_6_method_6_code
def yX4_readStand : MethodName := ⟨RX4, "readStand", "()V"⟩
abbrev cX4_readHour : ByteArray := prog_6_method_7_code
def yX4_readHour : MethodName := ⟨RX4, "readHour", "()V"⟩
abbrev cX4_readRest : ByteArray := prog_6_method_8_code
def yX4_readRest : MethodName := ⟨RX4, "readRest", "()V"⟩
abbrev cX4_readFigure : ByteArray := prog_6_method_9_code
def yX4_readFigure : MethodName := ⟨RX4, "readFigure", "(I)V"⟩
abbrev cX4_kindNamed : ByteArray := prog_6_method_10_code
def yX4_kindNamed : MethodName := ⟨RX4, "kindNamed", "()I"⟩
abbrev cX4_readNumber : ByteArray := prog_6_method_11_code
def yX4_readNumber : MethodName := ⟨RX4, "readNumber", "(II)I"⟩
abbrev cX4_nextToken : ByteArray := prog_6_method_12_code
def yX4_nextToken : MethodName := ⟨RX4, "nextToken", "()V"⟩
def RX5 : String := "TwoArmies$Sightings"
def TX5 : u_T := fun k => match k with
  | 0 => ("TwoArmies$Sightings", "cells", "[I", true)
  | 1 => ("TwoArmies$Sightings", "times", "[I", true)
  | _ => ("TwoArmies$Sightings", "size", "I", false)
def tyX5 : Nat → FieldType := fun k => match k with
  | 0 => .array .int
  | 1 => .array .int
  | _ => .int
abbrev wsX50 : List Cond := u_ws RX5 TX5 3
theorem nmX5 : ∀ a, a < 3 → ∀ b, b < 3 → a ≠ b → (TX5 a).2.1 ≠ (TX5 b).2.1 := by decide +kernel
theorem tyX5_ok : ∀ k, k < 3 → parseFieldDescriptor (TX5 k).2.2.1 = some (tyX5 k) := by decide +kernel
abbrev cX5_init : ByteArray := prog_7_method_1_code
def yX5_init : MethodName := ⟨RX5, "<init>", "()V"⟩
abbrev cX5_append : ByteArray := prog_7_method_2_code
def yX5_append : MethodName := ⟨RX5, "append", "(II)Z"⟩
abbrev cX5_areSoIn : ByteArray := prog_7_method_3_code
def yX5_areSoIn : MethodName := ⟨RX5, "areSoIn", "(LTwoArmies$Day;)Z"⟩
abbrev cX5_latestTime : ByteArray := prog_7_method_4_code
def yX5_latestTime : MethodName := ⟨RX5, "latestTime", "()I"⟩
abbrev cX5_agreeWith : ByteArray := prog_7_method_5_code
def yX5_agreeWith : MethodName := ⟨RX5, "agreeWith", "(II)Z"⟩
def RX6 : String := "TwoArmies$Text"
def TX6 : u_T := fun k => match k with
  | 0 => ("TwoArmies$Text", "letters", "[I", true)
  | _ => ("TwoArmies$Text", "length", "I", false)
def tyX6 : Nat → FieldType := fun k => match k with
  | 0 => .array .int
  | _ => .int
abbrev wsX60 : List Cond := u_ws RX6 TX6 2
theorem nmX6 : ∀ a, a < 2 → ∀ b, b < 2 → a ≠ b → (TX6 a).2.1 ≠ (TX6 b).2.1 := by decide +kernel
theorem tyX6_ok : ∀ k, k < 2 → parseFieldDescriptor (TX6 k).2.2.1 = some (tyX6 k) := by decide +kernel
abbrev cX6_init : ByteArray := prog_8_method_1_code
def yX6_init : MethodName := ⟨RX6, "<init>", "()V"⟩
abbrev cX6_append : ByteArray := prog_8_method_2_code
def yX6_append : MethodName := ⟨RX6, "append", "(I)Z"⟩
abbrev cX6_holds : ByteArray := prog_8_method_3_code
def yX6_holds : MethodName := ⟨RX6, "holds", "(Ljava/lang/String;II)Z"⟩
abbrev cX6_numberIn : ByteArray := prog_8_method_4_code
def yX6_numberIn : MethodName := ⟨RX6, "numberIn", "(II)I"⟩
abbrev cX6_sortAt : ByteArray := prog_8_method_5_code
def yX6_sortAt : MethodName := ⟨RX6, "sortAt", "(I)I"⟩
def RX7 : String := "TwoArmies"
def TX7 : u_T := fun k => match k with
  | 0 => ("TwoArmies", "text", "LTwoArmies$Text;", true)
  | 1 => ("TwoArmies", "told", "LTwoArmies$Plan;", true)
  | 2 => ("TwoArmies", "reader", "LTwoArmies$Reader;", true)
  | 3 => ("TwoArmies", "day", "LTwoArmies$Day;", true)
  | 4 => ("TwoArmies", "trial", "LTwoArmies$Day;", true)
  | 5 => ("TwoArmies", "past", "LTwoArmies$Past;", true)
  | 6 => ("TwoArmies", "keptDays", "[LTwoArmies$Day;", true)
  | 7 => ("TwoArmies", "isKept", "[Z", true)
  | _ => ("TwoArmies", "sightings", "LTwoArmies$Sightings;", true)
def tyX7 : Nat → FieldType := fun k => match k with
  | 0 => .object "TwoArmies$Text"
  | 1 => .object "TwoArmies$Plan"
  | 2 => .object "TwoArmies$Reader"
  | 3 => .object "TwoArmies$Day"
  | 4 => .object "TwoArmies$Day"
  | 5 => .object "TwoArmies$Past"
  | 6 => .array (.object "TwoArmies$Day")
  | 7 => .array .boolean
  | _ => .object "TwoArmies$Sightings"
abbrev wsX70 : List Cond := u_ws RX7 TX7 9
theorem nmX7 : ∀ a, a < 9 → ∀ b, b < 9 → a ≠ b → (TX7 a).2.1 ≠ (TX7 b).2.1 := by decide +kernel
theorem tyX7_ok : ∀ k, k < 9 → parseFieldDescriptor (TX7 k).2.2.1 = some (tyX7 k) := by decide +kernel
abbrev cX7_init : ByteArray := prog_1_method_1_code
def yX7_init : MethodName := ⟨RX7, "<init>", "()V"⟩
abbrev cX7_write : ByteArray := prog_1_method_2_code
def yX7_write : MethodName := ⟨RX7, "write", "(I)I"⟩
abbrev cX7_erase : ByteArray := prog_1_method_3_code
def yX7_erase : MethodName := ⟨RX7, "erase", "()I"⟩
abbrev cX7_fault : ByteArray := prog_1_method_4_code
def yX7_fault : MethodName := ⟨RX7, "fault", "()I"⟩
abbrev cX7_parade : ByteArray := prog_1_method_5_code
def yX7_parade : MethodName := ⟨RX7, "parade", "()I"⟩
abbrev cX7_mud : ByteArray := prog_1_method_6_code
def yX7_mud : MethodName := ⟨RX7, "mud", "(I)I"⟩
abbrev cX7_figure : ByteArray := prog_1_method_7_code
def yX7_figure : MethodName := ⟨RX7, "figure", "(III)I"⟩
abbrev cX7_army : ByteArray := prog_1_method_8_code
def yX7_army : MethodName := ⟨RX7, "army", "(II)I"⟩
abbrev cX7_as : ByteArray := prog_1_method_9_code
def yX7_as : MethodName := ⟨RX7, "as", "(II)I"⟩
abbrev cX7_pass : ByteArray := prog_1_method_10_code
def yX7_pass : MethodName := ⟨RX7, "pass", "(I)I"⟩
abbrev cX7_order : ByteArray := prog_1_method_11_code
def yX7_order : MethodName := ⟨RX7, "order", "(III)I"⟩
abbrev cX7_wind : ByteArray := prog_1_method_12_code
def yX7_wind : MethodName := ⟨RX7, "wind", "(I)I"⟩
abbrev cX7_undo : ByteArray := prog_1_method_13_code
def yX7_undo : MethodName := ⟨RX7, "undo", "()I"⟩
abbrev cX7_keep : ByteArray := prog_1_method_14_code
def yX7_keep : MethodName := ⟨RX7, "keep", "(I)I"⟩
abbrev cX7_back : ByteArray := prog_1_method_15_code
def yX7_back : MethodName := ⟨RX7, "back", "(I)I"⟩
abbrev cX7_behind : ByteArray := prog_1_method_16_code
def yX7_behind : MethodName := ⟨RX7, "behind", "(II)I"⟩
abbrev cX7_first : ByteArray := prog_1_method_17_code
def yX7_first : MethodName := ⟨RX7, "first", "(I)I"⟩
abbrev cX7_plot : ByteArray := prog_1_method_18_code
def yX7_plot : MethodName := ⟨RX7, "plot", "(III)I"⟩
abbrev cX7_seen : ByteArray := prog_1_method_19_code
def yX7_seen : MethodName := ⟨RX7, "seen", "(II)I"⟩
abbrev cX7_forget : ByteArray := prog_1_method_20_code
def yX7_forget : MethodName := ⟨RX7, "forget", "()I"⟩
abbrev cX7_wound : ByteArray := prog_1_method_21_code
def yX7_wound : MethodName := ⟨RX7, "wound", "()I"⟩
abbrev cX7_ordered : ByteArray := prog_1_method_22_code
def yX7_ordered : MethodName := ⟨RX7, "ordered", "(II)I"⟩
abbrev cX7_inspected : ByteArray := prog_1_method_23_code
def yX7_inspected : MethodName := ⟨RX7, "inspected", "(II)I"⟩
abbrev cX7_count : ByteArray := prog_1_method_24_code
def yX7_count : MethodName := ⟨RX7, "count", "(I)I"⟩
abbrev cX7_isArmy : ByteArray := prog_1_method_25_code
def yX7_isArmy : MethodName := ⟨RX7, "isArmy", "(I)Z"⟩
abbrev cX7_isFigure : ByteArray := prog_1_method_26_code
def yX7_isFigure : MethodName := ⟨RX7, "isFigure", "(II)Z"⟩
abbrev cX7_codeOf : ByteArray := prog_1_method_27_code
def yX7_codeOf : MethodName := ⟨RX7, "codeOf", "(II)I"⟩
abbrev cX7_isUnder : ByteArray := prog_1_method_28_code
def yX7_isUnder : MethodName := ⟨RX7, "isUnder", "(II)Z"⟩
abbrev cX7_gainOfMarches : ByteArray := prog_1_method_29_code
def yX7_gainOfMarches : MethodName := ⟨RX7, "gainOfMarches", "(IIII)I"⟩
abbrev cX7_wouldExplain : ByteArray := prog_1_method_30_code
def yX7_wouldExplain : MethodName := ⟨RX7, "wouldExplain", "(III)Z"⟩
def RX8 : String := "TwoArmiesModel"
def TX8 : u_T := fun k => match k with
  | 0 => ("TwoArmiesModel", "text", "[I", true)
  | 1 => ("TwoArmiesModel", "typed", "I", false)
  | 2 => ("TwoArmiesModel", "told", "[I", true)
  | 3 => ("TwoArmiesModel", "draft", "[I", true)
  | 4 => ("TwoArmiesModel", "s", "[I", true)
  | 5 => ("TwoArmiesModel", "past", "[I", true)
  | 6 => ("TwoArmiesModel", "known", "I", false)
  | 7 => ("TwoArmiesModel", "images", "[I", true)
  | 8 => ("TwoArmiesModel", "kept", "[Z", true)
  | 9 => ("TwoArmiesModel", "notes", "[I", true)
  | 10 => ("TwoArmiesModel", "noted", "I", false)
  | 11 => ("TwoArmiesModel", "at", "I", false)
  | 12 => ("TwoArmiesModel", "sort", "I", false)
  | 13 => ("TwoArmiesModel", "start", "I", false)
  | 14 => ("TwoArmiesModel", "value", "I", false)
  | _ => ("TwoArmiesModel", "held", "[I", true)
def tyX8 : Nat → FieldType := fun k => match k with
  | 0 => .array .int
  | 1 => .int
  | 2 => .array .int
  | 3 => .array .int
  | 4 => .array .int
  | 5 => .array .int
  | 6 => .int
  | 7 => .array .int
  | 8 => .array .boolean
  | 9 => .array .int
  | 10 => .int
  | 11 => .int
  | 12 => .int
  | 13 => .int
  | 14 => .int
  | _ => .array .int
abbrev wsX80 : List Cond := u_ws RX8 TX8 16
theorem nmX8 : ∀ a, a < 16 → ∀ b, b < 16 → a ≠ b → (TX8 a).2.1 ≠ (TX8 b).2.1 := by decide +kernel
theorem tyX8_ok : ∀ k, k < 16 → parseFieldDescriptor (TX8 k).2.2.1 = some (tyX8 k) := by decide +kernel
abbrev cX8_init : ByteArray := prog_10_method_1_code
def yX8_init : MethodName := ⟨RX8, "<init>", "()V"⟩
abbrev cX8_in : ByteArray := prog_10_method_3_code
def yX8_in : MethodName := ⟨RX8, "in", "(III)Z"⟩
abbrev cX8_cells : ByteArray := prog_10_method_4_code
def yX8_cells : MethodName := ⟨RX8, "cells", "()I"⟩
abbrev cX8_write : ByteArray := prog_10_method_5_code
def yX8_write : MethodName := ⟨RX8, "write", "(I)I"⟩
abbrev cX8_erase : ByteArray := prog_10_method_6_code
def yX8_erase : MethodName := ⟨RX8, "erase", "()I"⟩
abbrev cX8_letterAt : ByteArray := prog_10_method_7_code
def yX8_letterAt : MethodName := ⟨RX8, "letterAt", "(I)I"⟩
abbrev cX8_isLetter : ByteArray := prog_10_method_8_code
def yX8_isLetter : MethodName := ⟨RX8, "isLetter", "(I)Z"⟩
abbrev cX8_isDigit : ByteArray := prog_10_method_9_code
def yX8_isDigit : MethodName := ⟨RX8, "isDigit", "(I)Z"⟩
abbrev cX8_token : ByteArray := prog_10_method_10_code
def yX8_token : MethodName := ⟨RX8, "token", "()V"⟩
abbrev cX8_isWord : ByteArray := prog_10_method_11_code
def yX8_isWord : MethodName := ⟨RX8, "isWord", "(IIIIII)Z"⟩
abbrev cX8_number : ByteArray := prog_10_method_12_code
def yX8_number : MethodName := ⟨RX8, "number", "(II)Z"⟩
abbrev cX8_forgets : ByteArray := prog_10_method_13_code
def yX8_forgets : MethodName := ⟨RX8, "forgets", "(II)V"⟩
abbrev cX8_readsGround : ByteArray := prog_10_method_14_code
def yX8_readsGround : MethodName := ⟨RX8, "readsGround", "()Z"⟩
abbrev cX8_readsStand : ByteArray := prog_10_method_15_code
def yX8_readsStand : MethodName := ⟨RX8, "readsStand", "()Z"⟩
abbrev cX8_readsFigure : ByteArray := prog_10_method_16_code
def yX8_readsFigure : MethodName := ⟨RX8, "readsFigure", "(I)Z"⟩
abbrev cX8_readsRest : ByteArray := prog_10_method_17_code
def yX8_readsRest : MethodName := ⟨RX8, "readsRest", "()Z"⟩
abbrev cX8_readsClause : ByteArray := prog_10_method_18_code
def yX8_readsClause : MethodName := ⟨RX8, "readsClause", "()Z"⟩
abbrev cX8_reads : ByteArray := prog_10_method_19_code
def yX8_reads : MethodName := ⟨RX8, "reads", "()I"⟩
abbrev cX8_lays : ByteArray := prog_10_method_20_code
def yX8_lays : MethodName := ⟨RX8, "lays", "()V"⟩
abbrev cX8_fault : ByteArray := prog_10_method_21_code
def yX8_fault : MethodName := ⟨RX8, "fault", "()I"⟩
abbrev cX8_parade : ByteArray := prog_10_method_22_code
def yX8_parade : MethodName := ⟨RX8, "parade", "()I"⟩
abbrev cX8_mud : ByteArray := prog_10_method_23_code
def yX8_mud : MethodName := ⟨RX8, "mud", "(I)I"⟩
abbrev cX8_next : ByteArray := prog_10_method_24_code
def yX8_next : MethodName := ⟨RX8, "next", "(II)I"⟩
abbrev cX8_figure : ByteArray := prog_10_method_25_code
def yX8_figure : MethodName := ⟨RX8, "figure", "(III)I"⟩
abbrev cX8_army : ByteArray := prog_10_method_26_code
def yX8_army : MethodName := ⟨RX8, "army", "(II)I"⟩
abbrev cX8_as : ByteArray := prog_10_method_27_code
def yX8_as : MethodName := ⟨RX8, "as", "(II)I"⟩
abbrev cX8_steps : ByteArray := prog_10_method_28_code
def yX8_steps : MethodName := ⟨RX8, "steps", "(I)V"⟩
abbrev cX8_begins : ByteArray := prog_10_method_29_code
def yX8_begins : MethodName := ⟨RX8, "begins", "(I)V"⟩
abbrev cX8_goes : ByteArray := prog_10_method_30_code
def yX8_goes : MethodName := ⟨RX8, "goes", "()I"⟩
abbrev cX8_keeps : ByteArray := prog_10_method_31_code
def yX8_keeps : MethodName := ⟨RX8, "keeps", "()V"⟩
abbrev cX8_pass : ByteArray := prog_10_method_32_code
def yX8_pass : MethodName := ⟨RX8, "pass", "(I)I"⟩
abbrev cX8_orders : ByteArray := prog_10_method_33_code
def yX8_orders : MethodName := ⟨RX8, "orders", "(II)V"⟩
abbrev cX8_order : ByteArray := prog_10_method_34_code
def yX8_order : MethodName := ⟨RX8, "order", "(III)I"⟩
abbrev cX8_winds : ByteArray := prog_10_method_35_code
def yX8_winds : MethodName := ⟨RX8, "winds", "(I)V"⟩
abbrev cX8_wind : ByteArray := prog_10_method_36_code
def yX8_wind : MethodName := ⟨RX8, "wind", "(I)I"⟩
abbrev cX8_undo : ByteArray := prog_10_method_37_code
def yX8_undo : MethodName := ⟨RX8, "undo", "()I"⟩
abbrev cX8_keep : ByteArray := prog_10_method_38_code
def yX8_keep : MethodName := ⟨RX8, "keep", "(I)I"⟩
abbrev cX8_back : ByteArray := prog_10_method_39_code
def yX8_back : MethodName := ⟨RX8, "back", "(I)I"⟩
abbrev cX8_holds : ByteArray := prog_10_method_40_code
def yX8_holds : MethodName := ⟨RX8, "holds", "()V"⟩
abbrev cX8_lets : ByteArray := prog_10_method_41_code
def yX8_lets : MethodName := ⟨RX8, "lets", "()V"⟩
abbrev cX8_behind : ByteArray := prog_10_method_42_code
def yX8_behind : MethodName := ⟨RX8, "behind", "(II)I"⟩
abbrev cX8_first : ByteArray := prog_10_method_43_code
def yX8_first : MethodName := ⟨RX8, "first", "(I)I"⟩
abbrev cX8_plot : ByteArray := prog_10_method_44_code
def yX8_plot : MethodName := ⟨RX8, "plot", "(III)I"⟩
abbrev cX8_seen : ByteArray := prog_10_method_45_code
def yX8_seen : MethodName := ⟨RX8, "seen", "(II)I"⟩
abbrev cX8_forget : ByteArray := prog_10_method_46_code
def yX8_forget : MethodName := ⟨RX8, "forget", "()I"⟩
abbrev cX8_isSo : ByteArray := prog_10_method_47_code
def yX8_isSo : MethodName := ⟨RX8, "isSo", "()Z"⟩
abbrev cX8_wound : ByteArray := prog_10_method_48_code
def yX8_wound : MethodName := ⟨RX8, "wound", "()I"⟩
abbrev cX8_ordered : ByteArray := prog_10_method_49_code
def yX8_ordered : MethodName := ⟨RX8, "ordered", "(II)I"⟩
abbrev cX8_inspected : ByteArray := prog_10_method_50_code
def yX8_inspected : MethodName := ⟨RX8, "inspected", "(II)I"⟩
abbrev cX8_count : ByteArray := prog_10_method_51_code
def yX8_count : MethodName := ⟨RX8, "count", "(I)I"⟩
def RJ9 : String := "java/lang/Math"
def TJ9 : u_T := fun k => match k with
  | _ => ("", "", "", false)
def tyJ9 : Nat → FieldType := fun k => match k with
  | _ => .int
abbrev wsJ90 : List Cond := u_ws RJ9 TJ9 0
theorem nmJ9 : ∀ a, a < 0 → ∀ b, b < 0 → a ≠ b → (TJ9 a).2.1 ≠ (TJ9 b).2.1 := by decide +kernel
theorem tyJ9_ok : ∀ k, k < 0 → parseFieldDescriptor (TJ9 k).2.2.1 = some (tyJ9 k) := by decide +kernel
abbrev cJ9_max_7cf53 : ByteArray := prog_11_method_65_code
def yJ9_max_7cf53 : MethodName := ⟨RJ9, "max", "(II)I"⟩
abbrev cJ9_min_7cf53 : ByteArray := prog_11_method_69_code
def yJ9_min_7cf53 : MethodName := ⟨RJ9, "min", "(II)I"⟩
def RJ0 : String := "java/lang/String"
def TJ0 : u_T := fun k => match k with
  | _ => ("", "", "", false)
def tyJ0 : Nat → FieldType := fun k => match k with
  | _ => .int
abbrev wsJ00 : List Cond := u_ws RJ0 TJ0 0
theorem nmJ0 : ∀ a, a < 0 → ∀ b, b < 0 → a ≠ b → (TJ0 a).2.1 ≠ (TJ0 b).2.1 := by decide +kernel
theorem tyJ0_ok : ∀ k, k < 0 → parseFieldDescriptor (TJ0 k).2.2.1 = some (tyJ0 k) := by decide +kernel
abbrev cJ0_length_8abf5 : ByteArray := prog_12_method_54_code
def yJ0_length_8abf5 : MethodName := ⟨RJ0, "length", "()I"⟩
abbrev cJ0_charAt_5068e : ByteArray := prog_12_method_56_code
def yJ0_charAt_5068e : MethodName := ⟨RJ0, "charAt", "(I)C"⟩
abbrev cJ0_coder_7d493 : ByteArray := prog_12_method_152_code
def yJ0_coder_7d493 : MethodName := ⟨RJ0, "coder", "()B"⟩
abbrev cJ0_isLatin1_aae02 : ByteArray := prog_12_method_154_code
def yJ0_isLatin1_aae02 : MethodName := ⟨RJ0, "isLatin1", "()Z"⟩
abbrev cJ0_checkIndex_df160 : ByteArray := prog_12_method_155_code
def yJ0_checkIndex_df160 : MethodName := ⟨RJ0, "checkIndex", "(II)V"⟩
def RJ1 : String := "java/lang/StringLatin1"
def TJ1 : u_T := fun k => match k with
  | _ => ("", "", "", false)
def tyJ1 : Nat → FieldType := fun k => match k with
  | _ => .int
abbrev wsJ10 : List Cond := u_ws RJ1 TJ1 0
theorem nmJ1 : ∀ a, a < 0 → ∀ b, b < 0 → a ≠ b → (TJ1 a).2.1 ≠ (TJ1 b).2.1 := by decide +kernel
theorem tyJ1_ok : ∀ k, k < 0 → parseFieldDescriptor (TJ1 k).2.2.1 = some (tyJ1 k) := by decide +kernel
abbrev cJ1_charAt_3b067 : ByteArray := prog_13_method_2_code
def yJ1_charAt_3b067 : MethodName := ⟨RJ1, "charAt", "([BI)C"⟩
def RJ2 : String := "java/lang/StringUTF16"
def TJ2 : u_T := fun k => match k with
  | _ => ("", "", "", false)
def tyJ2 : Nat → FieldType := fun k => match k with
  | _ => .int
abbrev wsJ20 : List Cond := u_ws RJ2 TJ2 0
theorem nmJ2 : ∀ a, a < 0 → ∀ b, b < 0 → a ≠ b → (TJ2 a).2.1 ≠ (TJ2 b).2.1 := by decide +kernel
theorem tyJ2_ok : ∀ k, k < 0 → parseFieldDescriptor (TJ2 k).2.2.1 = some (tyJ2 k) := by decide +kernel
abbrev cJ2_getChar_3b067 : ByteArray := prog_14_method_5_code
def yJ2_getChar_3b067 : MethodName := ⟨RJ2, "getChar", "([BI)C"⟩
abbrev cJ2_length_9d52b : ByteArray := prog_14_method_6_code
def yJ2_length_9d52b : MethodName := ⟨RJ2, "length", "([B)I"⟩
abbrev cJ2_charAt_3b067 : ByteArray := prog_14_method_83_code
def yJ2_charAt_3b067 : MethodName := ⟨RJ2, "charAt", "([BI)C"⟩
abbrev cJ2_checkIndex_2214a : ByteArray := prog_14_method_91_code
def yJ2_checkIndex_2214a : MethodName := ⟨RJ2, "checkIndex", "(I[B)V"⟩
def RJ10 : String := "java/lang/System"
def TJ10 : u_T := fun k => match k with
  | _ => ("", "", "", false)
def tyJ10 : Nat → FieldType := fun k => match k with
  | _ => .int
abbrev wsJ100 : List Cond := u_ws RJ10 TJ10 0
theorem nmJ10 : ∀ a, a < 0 → ∀ b, b < 0 → a ≠ b → (TJ10 a).2.1 ≠ (TJ10 b).2.1 := by decide +kernel
theorem tyJ10_ok : ∀ k, k < 0 → parseFieldDescriptor (TJ10 k).2.2.1 = some (tyJ10 k) := by decide +kernel
def RJ3 : String := "jdk/internal/util/Preconditions"
def TJ3 : u_T := fun k => match k with
  | _ => ("", "", "", false)
def tyJ3 : Nat → FieldType := fun k => match k with
  | _ => .int
abbrev wsJ30 : List Cond := u_ws RJ3 TJ3 0
theorem nmJ3 : ∀ a, a < 0 → ∀ b, b < 0 → a ≠ b → (TJ3 a).2.1 ≠ (TJ3 b).2.1 := by decide +kernel
theorem tyJ3_ok : ∀ k, k < 0 → parseFieldDescriptor (TJ3 k).2.2.1 = some (tyJ3 k) := by decide +kernel
abbrev cJ3_checkIndex_8e157 : ByteArray := prog_16_method_11_code
def yJ3_checkIndex_8e157 : MethodName := ⟨RJ3, "checkIndex", "(IILjava/util/function/BiFunction;)I"⟩
def RL : String := "TwoArmiesLaw"
abbrev cL_law : ByteArray := code
def yL_law : MethodName := ⟨RL, "law", "([I)Z"⟩
def wsL_law_r1 : List Cond := [Cond.classLink RL 7 RX7, Cond.instantiable RX7 9, Cond.initialized RX7, Cond.classLink RL 10 RX8, Cond.instantiable RX8 16, Cond.initialized RX8, Cond.methodLink RL 9 yX7_init, Cond.instanceMethod yX7_init, Cond.code yX7_init cX7_init 2 none, Cond.methodLink RX7 1 objectInit, Cond.instanceMethod objectInit, Cond.code objectInit ⟨#[0xb1]⟩ 1 none, Cond.classLink RX7 7 RX6, Cond.instantiable RX6 2, Cond.initialized RX6, Cond.fieldLink RX7 10 "TwoArmies" "text" "LTwoArmies$Text;", Cond.classLink RX7 16 RX3, Cond.instantiable RX3 6, Cond.initialized RX3, Cond.fieldLink RX7 19 "TwoArmies" "told" "LTwoArmies$Plan;", Cond.classLink RX7 23 RX4, Cond.instantiable RX4 6, Cond.initialized RX4, Cond.fieldLink RX7 28 "TwoArmies" "reader" "LTwoArmies$Reader;"]
def wsL_law_r2 : List Cond := [Cond.classLink RX7 32 RX0, Cond.instantiable RX0 14, Cond.initialized RX0, Cond.fieldLink RX7 35 "TwoArmies" "day" "LTwoArmies$Day;", Cond.fieldLink RX7 39 "TwoArmies" "trial" "LTwoArmies$Day;", Cond.classLink RX7 42 RX2, Cond.instantiable RX2 2, Cond.initialized RX2, Cond.fieldLink RX7 45 "TwoArmies" "past" "LTwoArmies$Past;", Cond.fieldLink RX7 49 "TwoArmies" "keptDays" "[LTwoArmies$Day;", Cond.arrayClass .boolean, Cond.fieldLink RX7 53 "TwoArmies" "isKept" "[Z", Cond.classLink RX7 57 RX5, Cond.instantiable RX5 3, Cond.initialized RX5, Cond.fieldLink RX7 60 "TwoArmies" "sightings" "LTwoArmies$Sightings;", Cond.instanceMethod yX6_init, Cond.code yX6_init cX6_init 1 none, Cond.methodLink RX6 3 objectInit, Cond.arrayClass .int, Cond.fieldLink RX6 9 "TwoArmies$Text" "letters" "[I", Cond.fieldLink RX6 15 "TwoArmies$Text" "length" "I", Cond.instanceMethod yX3_init, Cond.code yX3_init cX3_init 1 none]
def wsL_law_r3 : List Cond := [Cond.methodLink RX3 3 objectInit, Cond.fieldLink RX3 9 "TwoArmies$Plan" "width" "I", Cond.fieldLink RX3 15 "TwoArmies$Plan" "height" "I", Cond.fieldLink RX3 18 "TwoArmies$Plan" "hourLength" "I", Cond.fieldLink RX3 21 "TwoArmies$Plan" "cell" "I", Cond.fieldLink RX3 24 "TwoArmies$Plan" "looks" "I", Cond.classLink RX3 27 RX1, Cond.instantiable RX1 3, Cond.initialized RX1, Cond.fieldLink RX3 30 "TwoArmies$Plan" "drills" "[LTwoArmies$Drill;", Cond.instanceMethod yX1_init, Cond.code yX1_init cX1_init 1 none, Cond.methodLink RX1 3 objectInit, Cond.fieldLink RX1 9 "TwoArmies$Drill" "kinds" "[I", Cond.fieldLink RX1 15 "TwoArmies$Drill" "minutes" "[I", Cond.fieldLink RX1 18 "TwoArmies$Drill" "size" "I", Cond.methodLink RX7 25 yX4_init, Cond.instanceMethod yX4_init, Cond.code yX4_init cX4_init 2 none, Cond.methodLink RX4 3 objectInit, Cond.classLink RX4 9 RX3, Cond.fieldLink RX4 12 "TwoArmies$Reader" "plan" "LTwoArmies$Plan;", Cond.fieldLink RX4 18 "TwoArmies$Reader" "start" "I", Cond.fieldLink RX4 22 "TwoArmies$Reader" "end" "I"]
def wsL_law_r4 : List Cond := [Cond.fieldLink RX4 25 "TwoArmies$Reader" "faultAt" "I", Cond.fieldLink RX4 28 "TwoArmies$Reader" "clauses" "I", Cond.fieldLink RX4 31 "TwoArmies$Reader" "text" "LTwoArmies$Text;", Cond.instanceMethod yX0_init, Cond.code yX0_init cX0_init 1 none, Cond.methodLink RX0 3 objectInit, Cond.fieldLink RX0 9 "TwoArmies$Day" "mudOn" "[I", Cond.fieldLink RX0 18 "TwoArmies$Day" "piledUp" "[I", Cond.fieldLink RX0 21 "TwoArmies$Day" "knelt" "[I", Cond.classLink RX0 24 RX1, Cond.fieldLink RX0 27 "TwoArmies$Day" "drills" "[LTwoArmies$Drill;", Cond.methodLink RX7 44 yX2_init, Cond.instanceMethod yX2_init, Cond.code yX2_init cX2_init 2 none, Cond.methodLink RX2 3 objectInit, Cond.classLink RX2 9 RX0, Cond.fieldLink RX2 11 "TwoArmies$Past" "days" "[LTwoArmies$Day;", Cond.fieldLink RX2 17 "TwoArmies$Past" "size" "I", Cond.instanceMethod yX5_init, Cond.code yX5_init cX5_init 1 none, Cond.methodLink RX5 3 objectInit, Cond.fieldLink RX5 9 "TwoArmies$Sightings" "cells" "[I", Cond.fieldLink RX5 15 "TwoArmies$Sightings" "times" "[I", Cond.fieldLink RX5 18 "TwoArmies$Sightings" "size" "I"]
def wsL_law_r5 : List Cond := [Cond.methodLink RX7 64 yX0_startAsTold, Cond.instanceMethod yX0_startAsTold, Cond.selects RX0 yX0_startAsTold yX0_startAsTold, Cond.code yX0_startAsTold cX0_startAsTold 3 none, Cond.fieldLink RX0 37 "TwoArmies$Day" "width" "I", Cond.fieldLink RX0 41 "TwoArmies$Day" "height" "I", Cond.fieldLink RX0 45 "TwoArmies$Day" "hourLength" "I", Cond.fieldLink RX0 46 "TwoArmies$Day" "hour" "I", Cond.fieldLink RX0 49 "TwoArmies$Day" "minute" "I", Cond.fieldLink RX0 55 "TwoArmies$Day" "row" "I", Cond.fieldLink RX0 58 "TwoArmies$Day" "column" "I", Cond.fieldLink RX0 64 "TwoArmies$Day" "looks" "I", Cond.fieldLink RX0 65 "TwoArmies$Day" "begunKind" "I", Cond.fieldLink RX0 68 "TwoArmies$Day" "minutesLeft" "I", Cond.methodLink RX0 71 yX0_clear, Cond.static yX0_clear, Cond.code yX0_clear cX0_clear 2 none, Cond.methodLink RX0 76 yX1_copyFrom, Cond.instanceMethod yX1_copyFrom, Cond.selects RX1 yX1_copyFrom yX1_copyFrom, Cond.code yX1_copyFrom cX1_copyFrom 2 none, Cond.methodLink RX1 26 arraycopyName, Cond.native arraycopyName, Cond.static arraycopyName]
def wsL_law_r6 : List Cond := [Cond.initialized "java/lang/System", Cond.methodLink RL 12 yX8_init, Cond.instanceMethod yX8_init, Cond.code yX8_init cX8_init 1 none, Cond.methodLink RX8 1 objectInit, Cond.fieldLink RX8 7 "TwoArmiesModel" "text" "[I", Cond.fieldLink RX8 13 "TwoArmiesModel" "told" "[I", Cond.fieldLink RX8 16 "TwoArmiesModel" "draft" "[I", Cond.fieldLink RX8 19 "TwoArmiesModel" "s" "[I", Cond.fieldLink RX8 22 "TwoArmiesModel" "past" "[I", Cond.fieldLink RX8 25 "TwoArmiesModel" "images" "[I", Cond.fieldLink RX8 28 "TwoArmiesModel" "kept" "[Z", Cond.fieldLink RX8 32 "TwoArmiesModel" "notes" "[I", Cond.fieldLink RX8 35 "TwoArmiesModel" "held" "[I", Cond.methodLink RX8 38 yX8_forgets, Cond.instanceMethod yX8_forgets, Cond.selects RX8 yX8_forgets yX8_forgets, Cond.code yX8_forgets cX8_forgets 4 none, Cond.methodLink RX8 42 yX8_lays, Cond.instanceMethod yX8_lays, Cond.selects RX8 yX8_lays yX8_lays, Cond.code yX8_lays cX8_lays 2 none, Cond.fieldLink RX8 103 "TwoArmiesModel" "known" "I", Cond.fieldLink RX8 106 "TwoArmiesModel" "noted" "I"]
def wsL_law_r7 : List Cond := [Cond.methodLink RL 13 yX7_write, Cond.instanceMethod yX7_write, Cond.selects RX7 yX7_write yX7_write, Cond.code yX7_write cX7_write 2 (some .int), Cond.methodLink RX7 68 yX6_append, Cond.instanceMethod yX6_append, Cond.selects RX6 yX6_append yX6_append, Cond.code yX6_append cX6_append 2 (some .boolean), Cond.methodLink RL 17 yX8_write, Cond.instanceMethod yX8_write, Cond.selects RX8 yX8_write yX8_write, Cond.code yX8_write cX8_write 2 (some .int), Cond.fieldLink RX8 49 "TwoArmiesModel" "typed" "I", Cond.methodLink RX8 45 yX8_in, Cond.static yX8_in, Cond.code yX8_in cX8_in 3 (some .boolean), Cond.methodLink RL 18 yX7_erase, Cond.instanceMethod yX7_erase, Cond.selects RX7 yX7_erase yX7_erase, Cond.code yX7_erase cX7_erase 2 (some .int), Cond.methodLink RL 22 yX8_erase, Cond.instanceMethod yX8_erase, Cond.selects RX8 yX8_erase yX8_erase, Cond.code yX8_erase cX8_erase 2 (some .int)]
def wsL_law_r8 : List Cond := [Cond.methodLink RL 23 yX7_fault, Cond.instanceMethod yX7_fault, Cond.selects RX7 yX7_fault yX7_fault, Cond.code yX7_fault cX7_fault 1 (some .int), Cond.methodLink RX7 76 yX4_readAll, Cond.instanceMethod yX4_readAll, Cond.selects RX4 yX4_readAll yX4_readAll, Cond.code yX4_readAll cX4_readAll 4 (some .int), Cond.methodLink RX4 35 yX3_copyFrom, Cond.instanceMethod yX3_copyFrom, Cond.selects RX3 yX3_copyFrom yX3_copyFrom, Cond.code yX3_copyFrom cX3_copyFrom 3 none, Cond.methodLink RX3 37 yX1_copyFrom, Cond.methodLink RX4 39 yX4_readClause, Cond.instanceMethod yX4_readClause, Cond.selects RX4 yX4_readClause yX4_readClause, Cond.code yX4_readClause cX4_readClause 1 none, Cond.methodLink RX4 46 yX4_nextToken, Cond.instanceMethod yX4_nextToken, Cond.selects RX4 yX4_nextToken yX4_nextToken, Cond.code yX4_nextToken cX4_nextToken 3 none, Cond.methodLink RX4 143 Lib.Math.min.name, Cond.static Lib.Math.min.name, Cond.initialized "java/lang/Math"]
def wsL_law_r9 : List Cond := [Cond.code Lib.Math.min.name Lib.Math.min.code 2 (some .int), Cond.methodLink RX4 139 yX6_sortAt, Cond.instanceMethod yX6_sortAt, Cond.selects RX6 yX6_sortAt yX6_sortAt, Cond.code yX6_sortAt cX6_sortAt 3 (some .int), Cond.methodLink RX4 56 yX6_holds, Cond.instanceMethod yX6_holds, Cond.selects RX6 yX6_holds yX6_holds, Cond.code yX6_holds cX6_holds 5 (some .boolean), Cond.methodLink RX6 19 yJ0_length_8abf5, Cond.instanceMethod yJ0_length_8abf5, Cond.selects RJ0 yJ0_length_8abf5 yJ0_length_8abf5, Cond.initialized RJ0, Cond.code yJ0_length_8abf5 cJ0_length_8abf5 1 (some .int), Cond.fieldLink RJ0 9 "java/lang/String" "value" "[B", Cond.methodLink RJ0 335 yJ0_coder_7d493, Cond.instanceMethod yJ0_coder_7d493, Cond.selects RJ0 yJ0_coder_7d493 yJ0_coder_7d493, Cond.code yJ0_coder_7d493 cJ0_coder_7d493 1 (some .byte), Cond.fieldLink RJ0 38 "java/lang/String" "COMPACT_STRINGS" "Z", Cond.fieldLink RJ0 15 "java/lang/String" "coder" "B", Cond.methodLink RX6 24 yJ0_charAt_5068e, Cond.instanceMethod yJ0_charAt_5068e, Cond.selects RJ0 yJ0_charAt_5068e yJ0_charAt_5068e]
def wsL_law_r10 : List Cond := [Cond.code yJ0_charAt_5068e cJ0_charAt_5068e 2 (some .char), Cond.methodLink RJ0 492 yJ0_isLatin1_aae02, Cond.instanceMethod yJ0_isLatin1_aae02, Cond.selects RJ0 yJ0_isLatin1_aae02 yJ0_isLatin1_aae02, Cond.code yJ0_isLatin1_aae02 cJ0_isLatin1_aae02 1 (some .boolean), Cond.methodLink RJ0 495 yJ1_charAt_3b067, Cond.static yJ1_charAt_3b067, Cond.initialized RJ1, Cond.code yJ1_charAt_3b067 cJ1_charAt_3b067 2 (some .char), Cond.methodLink RJ1 9 yJ0_checkIndex_df160, Cond.static yJ0_checkIndex_df160, Cond.code yJ0_checkIndex_df160 cJ0_checkIndex_df160 2 none, Cond.fieldLink RJ0 1053 "jdk/internal/util/Preconditions" "SIOOBE_FORMATTER" "Ljava/util/function/BiFunction;", Cond.methodLink RJ0 1059 yJ3_checkIndex_8e157, Cond.static yJ3_checkIndex_8e157, Cond.initialized RJ3, Cond.code yJ3_checkIndex_8e157 cJ3_checkIndex_8e157 3 (some .int), Cond.methodLink RJ0 498 yJ2_charAt_3b067, Cond.static yJ2_charAt_3b067, Cond.initialized RJ2, Cond.code yJ2_charAt_3b067 cJ2_charAt_3b067 2 (some .char), Cond.methodLink RJ2 67 yJ2_checkIndex_2214a, Cond.static yJ2_checkIndex_2214a, Cond.code yJ2_checkIndex_2214a cJ2_checkIndex_2214a 2 none]
def wsL_law_r11 : List Cond := [Cond.methodLink RJ2 48 yJ2_length_9d52b, Cond.static yJ2_length_9d52b, Cond.code yJ2_length_9d52b cJ2_length_9d52b 1 (some .int), Cond.methodLink RJ2 414 yJ0_checkIndex_df160, Cond.methodLink RJ2 71 yJ2_getChar_3b067, Cond.static yJ2_getChar_3b067, Cond.code yJ2_getChar_3b067 cJ2_getChar_3b067 2 (some .char), Cond.fieldLink RJ2 44 "java/lang/StringUTF16" "$assertionsDisabled" "Z", Cond.fieldLink RJ2 59 "java/lang/StringUTF16" "HI_BYTE_SHIFT" "I", Cond.fieldLink RJ2 63 "java/lang/StringUTF16" "LO_BYTE_SHIFT" "I", Cond.methodLink RX4 62 yX4_readGround, Cond.instanceMethod yX4_readGround, Cond.selects RX4 yX4_readGround yX4_readGround, Cond.code yX4_readGround cX4_readGround 3 none, Cond.methodLink RX4 88 yX4_readNumber, Cond.instanceMethod yX4_readNumber, Cond.selects RX4 yX4_readNumber yX4_readNumber, Cond.code yX4_readNumber cX4_readNumber 4 (some .int), Cond.methodLink RX4 136 yX6_numberIn, Cond.instanceMethod yX6_numberIn, Cond.selects RX6 yX6_numberIn yX6_numberIn, Cond.code yX6_numberIn cX6_numberIn 5 (some .int), Cond.methodLink RX6 28 yX6_sortAt, Cond.methodLink RX4 92 yX3_startAnew]
def wsL_law_r12 : List Cond := [Cond.instanceMethod yX3_startAnew, Cond.selects RX3 yX3_startAnew yX3_startAnew, Cond.code yX3_startAnew cX3_startAnew 4 none, Cond.methodLink RX4 67 yX4_readStand, Cond.instanceMethod yX4_readStand, Cond.selects RX4 yX4_readStand yX4_readStand, Cond.code yX4_readStand cX4_readStand 3 none, Cond.methodLink RX4 72 yX4_readHour, Cond.instanceMethod yX4_readHour, Cond.selects RX4 yX4_readHour yX4_readHour, Cond.code yX4_readHour cX4_readHour 2 none, Cond.methodLink RX4 77 yX4_readRest, Cond.instanceMethod yX4_readRest, Cond.selects RX4 yX4_readRest yX4_readRest, Cond.code yX4_readRest cX4_readRest 2 none, Cond.methodLink RX4 80 yX4_kindNamed, Cond.instanceMethod yX4_kindNamed, Cond.selects RX4 yX4_kindNamed yX4_kindNamed, Cond.code yX4_kindNamed cX4_kindNamed 1 (some .int), Cond.methodLink RX4 84 yX4_readFigure, Cond.instanceMethod yX4_readFigure, Cond.selects RX4 yX4_readFigure yX4_readFigure, Cond.code yX4_readFigure cX4_readFigure 4 none, Cond.methodLink RX4 120 yX1_isFull]
def wsL_law_r13 : List Cond := [Cond.instanceMethod yX1_isFull, Cond.selects RX1 yX1_isFull yX1_isFull, Cond.code yX1_isFull cX1_isFull 1 (some .boolean), Cond.methodLink RX4 123 yX1_append, Cond.instanceMethod yX1_append, Cond.selects RX1 yX1_append yX1_append, Cond.code yX1_append cX1_append 3 none, Cond.methodLink RX1 22 yX1_isFull, Cond.methodLink RX4 42 yX4_readLink, Cond.instanceMethod yX4_readLink, Cond.selects RX4 yX4_readLink yX4_readLink, Cond.code yX4_readLink cX4_readLink 1 (some .boolean), Cond.methodLink RL 26 yX8_fault, Cond.instanceMethod yX8_fault, Cond.selects RX8 yX8_fault yX8_fault, Cond.code yX8_fault cX8_fault 1 (some .int), Cond.fieldLink RX8 60 "TwoArmiesModel" "start" "I", Cond.methodLink RX8 109 yX8_reads, Cond.instanceMethod yX8_reads, Cond.selects RX8 yX8_reads yX8_reads, Cond.code yX8_reads cX8_reads 3 (some .int), Cond.fieldLink RX8 53 "TwoArmiesModel" "at" "I", Cond.fieldLink RX8 70 "TwoArmiesModel" "sort" "I", Cond.methodLink RX8 76 yX8_token]
def wsL_law_r14 : List Cond := [Cond.instanceMethod yX8_token, Cond.selects RX8 yX8_token yX8_token, Cond.code yX8_token cX8_token 2 none, Cond.fieldLink RX8 73 "TwoArmiesModel" "value" "I", Cond.methodLink RX8 56 yX8_letterAt, Cond.instanceMethod yX8_letterAt, Cond.selects RX8 yX8_letterAt yX8_letterAt, Cond.code yX8_letterAt cX8_letterAt 2 (some .int), Cond.methodLink RX8 63 yX8_isLetter, Cond.static yX8_isLetter, Cond.code yX8_isLetter cX8_isLetter 1 (some .boolean), Cond.methodLink RX8 67 yX8_isDigit, Cond.static yX8_isDigit, Cond.code yX8_isDigit cX8_isDigit 1 (some .boolean), Cond.methodLink RX8 100 yX8_readsClause, Cond.instanceMethod yX8_readsClause, Cond.selects RX8 yX8_readsClause yX8_readsClause, Cond.code yX8_readsClause cX8_readsClause 2 (some .boolean), Cond.methodLink RX8 83 yX8_isWord, Cond.instanceMethod yX8_isWord, Cond.selects RX8 yX8_isWord yX8_isWord, Cond.code yX8_isWord cX8_isWord 10 (some .boolean), Cond.methodLink RX8 87 yX8_readsGround, Cond.instanceMethod yX8_readsGround]
def wsL_law_r15 : List Cond := [Cond.selects RX8 yX8_readsGround yX8_readsGround, Cond.code yX8_readsGround cX8_readsGround 3 (some .boolean), Cond.methodLink RX8 79 yX8_number, Cond.instanceMethod yX8_number, Cond.selects RX8 yX8_number yX8_number, Cond.code yX8_number cX8_number 3 (some .boolean), Cond.methodLink RX8 91 yX8_readsStand, Cond.instanceMethod yX8_readsStand, Cond.selects RX8 yX8_readsStand yX8_readsStand, Cond.code yX8_readsStand cX8_readsStand 2 (some .boolean), Cond.methodLink RX8 94 yX8_readsRest, Cond.instanceMethod yX8_readsRest, Cond.selects RX8 yX8_readsRest yX8_readsRest, Cond.code yX8_readsRest cX8_readsRest 1 (some .boolean), Cond.methodLink RX8 97 yX8_readsFigure, Cond.instanceMethod yX8_readsFigure, Cond.selects RX8 yX8_readsFigure yX8_readsFigure, Cond.code yX8_readsFigure cX8_readsFigure 3 (some .boolean), Cond.methodLink RL 27 yX7_parade, Cond.instanceMethod yX7_parade, Cond.selects RX7 yX7_parade yX7_parade, Cond.code yX7_parade cX7_parade 2 (some .int), Cond.methodLink RX7 83 yX3_copyFrom, Cond.methodLink RL 30 yX8_parade]
def wsL_law_r16 : List Cond := [Cond.instanceMethod yX8_parade, Cond.selects RX8 yX8_parade yX8_parade, Cond.code yX8_parade cX8_parade 3 (some .int), Cond.methodLink RL 31 yX7_mud, Cond.instanceMethod yX7_mud, Cond.selects RX7 yX7_mud yX7_mud, Cond.code yX7_mud cX7_mud 2 (some .int), Cond.methodLink RX7 93 yX0_hasCell, Cond.instanceMethod yX0_hasCell, Cond.selects RX0 yX0_hasCell yX0_hasCell, Cond.code yX0_hasCell cX0_hasCell 2 (some .boolean), Cond.methodLink RL 34 yX8_mud, Cond.instanceMethod yX8_mud, Cond.selects RX8 yX8_mud yX8_mud, Cond.code yX8_mud cX8_mud 2 (some .int), Cond.methodLink RX8 113 yX8_cells, Cond.instanceMethod yX8_cells, Cond.selects RX8 yX8_cells yX8_cells, Cond.code yX8_cells cX8_cells 1 (some .int), Cond.methodLink RL 35 yX7_figure, Cond.instanceMethod yX7_figure, Cond.selects RX7 yX7_figure yX7_figure, Cond.code yX7_figure cX7_figure 5 (some .int), Cond.methodLink RX7 100 yX7_isArmy]
def wsL_law_r17 : List Cond := [Cond.static yX7_isArmy, Cond.code yX7_isArmy cX7_isArmy 1 (some .boolean), Cond.methodLink RL 39 yX8_figure, Cond.instanceMethod yX8_figure, Cond.selects RX8 yX8_figure yX8_figure, Cond.code yX8_figure cX8_figure 5 (some .int), Cond.methodLink RX8 116 yX8_next, Cond.instanceMethod yX8_next, Cond.selects RX8 yX8_next yX8_next, Cond.code yX8_next cX8_next 3 (some .int), Cond.methodLink RL 40 yX7_army, Cond.instanceMethod yX7_army, Cond.selects RX7 yX7_army yX7_army, Cond.code yX7_army cX7_army 3 (some .int), Cond.methodLink RX7 119 yX0_armyOfHour, Cond.instanceMethod yX0_armyOfHour, Cond.selects RX0 yX0_armyOfHour yX0_armyOfHour, Cond.code yX0_armyOfHour cX0_armyOfHour 1 (some .int), Cond.methodLink RL 44 yX8_army, Cond.instanceMethod yX8_army, Cond.selects RX8 yX8_army yX8_army, Cond.code yX8_army cX8_army 3 (some .int), Cond.methodLink RL 45 yX7_as, Cond.instanceMethod yX7_as]
def wsL_law_r18 : List Cond := [Cond.selects RX7 yX7_as yX7_as, Cond.code yX7_as cX7_as 4 (some .int), Cond.fieldLink RX7 123 "TwoArmies" "ABOVE" "[I", Cond.fieldLink RX7 130 "TwoArmies" "CELLS_A_MINUTE" "[I", Cond.methodLink RX7 126 yX7_isUnder, Cond.static yX7_isUnder, Cond.code yX7_isUnder cX7_isUnder 4 (some .boolean), Cond.methodLink RL 48 yX8_as, Cond.instanceMethod yX8_as, Cond.selects RX8 yX8_as yX8_as, Cond.code yX8_as cX8_as 5 (some .int), Cond.methodLink RL 49 yX7_pass, Cond.instanceMethod yX7_pass, Cond.selects RX7 yX7_pass yX7_pass, Cond.code yX7_pass cX7_pass 2 (some .int), Cond.methodLink RX7 136 yX2_remember, Cond.instanceMethod yX2_remember, Cond.selects RX2 yX2_remember yX2_remember, Cond.code yX2_remember cX2_remember 2 none, Cond.methodLink RX2 22 yX2_dropOldest, Cond.instanceMethod yX2_dropOldest, Cond.selects RX2 yX2_dropOldest yX2_dropOldest, Cond.code yX2_dropOldest cX2_dropOldest 3 none, Cond.methodLink RX2 25 yX0_copyFrom]
def wsL_law_r19 : List Cond := [Cond.instanceMethod yX0_copyFrom, Cond.selects RX0 yX0_copyFrom yX0_copyFrom, Cond.code yX0_copyFrom cX0_copyFrom 3 none, Cond.methodLink RX0 80 arraycopyName, Cond.methodLink RX7 140 yX0_goMinutes, Cond.instanceMethod yX0_goMinutes, Cond.selects RX0 yX0_goMinutes yX0_goMinutes, Cond.code yX0_goMinutes cX0_goMinutes 3 none, Cond.methodLink RX0 86 yX0_goMinute, Cond.instanceMethod yX0_goMinute, Cond.selects RX0 yX0_goMinute yX0_goMinute, Cond.code yX0_goMinute cX0_goMinute 3 (some .int), Cond.methodLink RX0 90 yX0_armyOfHour, Cond.methodLink RX0 93 yX0_beginNext, Cond.instanceMethod yX0_beginNext, Cond.selects RX0 yX0_beginNext yX0_beginNext, Cond.code yX0_beginNext cX0_beginNext 2 none, Cond.methodLink RX0 112 yX1_dropNext, Cond.instanceMethod yX1_dropNext, Cond.selects RX1 yX1_dropNext yX1_dropNext, Cond.code yX1_dropNext cX1_dropNext 1 none, Cond.methodLink RX0 96 yX0_doBegun, Cond.instanceMethod yX0_doBegun, Cond.selects RX0 yX0_doBegun yX0_doBegun]
def wsL_law_r20 : List Cond := [Cond.code yX0_doBegun cX0_doBegun 2 none, Cond.methodLink RX0 115 yX0_step, Cond.instanceMethod yX0_step, Cond.selects RX0 yX0_step yX0_step, Cond.code yX0_step cX0_step 5 none, Cond.methodLink RX0 121 yX0_cell, Cond.instanceMethod yX0_cell, Cond.selects RX0 yX0_cell yX0_cell, Cond.code yX0_cell cX0_cell 1 (some .int), Cond.methodLink RX0 100 yX0_windOn, Cond.instanceMethod yX0_windOn, Cond.selects RX0 yX0_windOn yX0_windOn, Cond.code yX0_windOn cX0_windOn 2 none, Cond.methodLink RX7 144 yX0_cell, Cond.methodLink RL 52 yX8_pass, Cond.instanceMethod yX8_pass, Cond.selects RX8 yX8_pass yX8_pass, Cond.code yX8_pass cX8_pass 3 (some .int), Cond.methodLink RX8 127 yX8_keeps, Cond.instanceMethod yX8_keeps, Cond.selects RX8 yX8_keeps yX8_keeps, Cond.code yX8_keeps cX8_keeps 2 none, Cond.methodLink RX8 130 yX8_goes, Cond.instanceMethod yX8_goes]
def wsL_law_r21 : List Cond := [Cond.selects RX8 yX8_goes yX8_goes, Cond.code yX8_goes cX8_goes 4 (some .int), Cond.methodLink RX8 120 yX8_begins, Cond.instanceMethod yX8_begins, Cond.selects RX8 yX8_begins yX8_begins, Cond.code yX8_begins cX8_begins 4 none, Cond.methodLink RX8 124 yX8_steps, Cond.instanceMethod yX8_steps, Cond.selects RX8 yX8_steps yX8_steps, Cond.code yX8_steps cX8_steps 5 none, Cond.methodLink RL 53 yX7_order, Cond.instanceMethod yX7_order, Cond.selects RX7 yX7_order yX7_order, Cond.code yX7_order cX7_order 4 (some .int), Cond.methodLink RX7 147 yX7_isFigure, Cond.static yX7_isFigure, Cond.code yX7_isFigure cX7_isFigure 2 (some .boolean), Cond.methodLink RX7 150 yX1_isFull, Cond.methodLink RX7 154 yX1_append, Cond.methodLink RL 56 yX8_order, Cond.instanceMethod yX8_order, Cond.selects RX8 yX8_order yX8_order, Cond.code yX8_order cX8_order 4 (some .int), Cond.methodLink RX8 133 yX8_orders]
def wsL_law_r22 : List Cond := [Cond.instanceMethod yX8_orders, Cond.selects RX8 yX8_orders yX8_orders, Cond.code yX8_orders cX8_orders 3 none, Cond.methodLink RL 57 yX7_wind, Cond.instanceMethod yX7_wind, Cond.selects RX7 yX7_wind yX7_wind, Cond.code yX7_wind cX7_wind 2 (some .int), Cond.methodLink RX7 157 yX0_windOn, Cond.methodLink RL 60 yX8_wind, Cond.instanceMethod yX8_wind, Cond.selects RX8 yX8_wind yX8_wind, Cond.code yX8_wind cX8_wind 2 (some .int), Cond.methodLink RX8 136 yX8_winds, Cond.instanceMethod yX8_winds, Cond.selects RX8 yX8_winds yX8_winds, Cond.code yX8_winds cX8_winds 2 none, Cond.methodLink RL 61 yX7_undo, Cond.instanceMethod yX7_undo, Cond.selects RX7 yX7_undo yX7_undo, Cond.code yX7_undo cX7_undo 1 (some .int), Cond.methodLink RX7 160 yX2_recall, Cond.instanceMethod yX2_recall, Cond.selects RX2 yX2_recall yX2_recall, Cond.code yX2_recall cX2_recall 2 (some .boolean)]
def wsL_law_r23 : List Cond := [Cond.methodLink RL 64 yX8_undo, Cond.instanceMethod yX8_undo, Cond.selects RX8 yX8_undo yX8_undo, Cond.code yX8_undo cX8_undo 2 (some .int), Cond.methodLink RL 65 yX7_keep, Cond.instanceMethod yX7_keep, Cond.selects RX7 yX7_keep yX7_keep, Cond.code yX7_keep cX7_keep 2 (some .int), Cond.methodLink RX7 164 yX0_copyFrom, Cond.methodLink RL 68 yX8_keep, Cond.instanceMethod yX8_keep, Cond.selects RX8 yX8_keep yX8_keep, Cond.code yX8_keep cX8_keep 3 (some .int), Cond.methodLink RL 69 yX7_back, Cond.instanceMethod yX7_back, Cond.selects RX7 yX7_back yX7_back, Cond.code yX7_back cX7_back 2 (some .int), Cond.methodLink RL 72 yX8_back, Cond.instanceMethod yX8_back, Cond.selects RX8 yX8_back yX8_back, Cond.code yX8_back cX8_back 3 (some .int), Cond.methodLink RL 73 yX7_behind, Cond.instanceMethod yX7_behind, Cond.selects RX7 yX7_behind yX7_behind]
def wsL_law_r24 : List Cond := [Cond.code yX7_behind cX7_behind 3 (some .int), Cond.methodLink RL 76 yX8_behind, Cond.instanceMethod yX8_behind, Cond.selects RX8 yX8_behind yX8_behind, Cond.code yX8_behind cX8_behind 4 (some .int), Cond.methodLink RX8 139 yX8_holds, Cond.instanceMethod yX8_holds, Cond.selects RX8 yX8_holds yX8_holds, Cond.code yX8_holds cX8_holds 2 none, Cond.methodLink RX8 142 yX8_lets, Cond.instanceMethod yX8_lets, Cond.selects RX8 yX8_lets yX8_lets, Cond.code yX8_lets cX8_lets 2 none, Cond.methodLink RL 77 yX7_first, Cond.instanceMethod yX7_first, Cond.selects RX7 yX7_first yX7_first, Cond.code yX7_first cX7_first 3 (some .int), Cond.methodLink RX7 169 yX0_goMinute, Cond.methodLink RL 80 yX8_first, Cond.instanceMethod yX8_first, Cond.selects RX8 yX8_first yX8_first, Cond.code yX8_first cX8_first 4 (some .int), Cond.methodLink RL 81 yX7_plot, Cond.instanceMethod yX7_plot]
def wsL_law_r25 : List Cond := [Cond.selects RX7 yX7_plot yX7_plot, Cond.code yX7_plot cX7_plot 10 (some .int), Cond.methodLink RX7 172 yX7_gainOfMarches, Cond.instanceMethod yX7_gainOfMarches, Cond.selects RX7 yX7_gainOfMarches yX7_gainOfMarches, Cond.code yX7_gainOfMarches cX7_gainOfMarches 8 (some .int), Cond.methodLink RX7 176 yX7_codeOf, Cond.static yX7_codeOf, Cond.code yX7_codeOf cX7_codeOf 2 (some .int), Cond.methodLink RL 84 yX8_plot, Cond.instanceMethod yX8_plot, Cond.selects RX8 yX8_plot yX8_plot, Cond.code yX8_plot cX8_plot 12 (some .int), Cond.methodLink RL 85 yX7_seen, Cond.instanceMethod yX7_seen, Cond.selects RX7 yX7_seen yX7_seen, Cond.code yX7_seen cX7_seen 3 (some .int), Cond.methodLink RX7 180 yX5_append, Cond.instanceMethod yX5_append, Cond.selects RX5 yX5_append yX5_append, Cond.code yX5_append cX5_append 3 (some .boolean), Cond.methodLink RL 88 yX8_seen, Cond.instanceMethod yX8_seen, Cond.selects RX8 yX8_seen yX8_seen]
def wsL_law_r26 : List Cond := [Cond.code yX8_seen cX8_seen 3 (some .int), Cond.methodLink RL 89 yX7_forget, Cond.instanceMethod yX7_forget, Cond.selects RX7 yX7_forget yX7_forget, Cond.code yX7_forget cX7_forget 2 (some .int), Cond.methodLink RL 92 yX8_forget, Cond.instanceMethod yX8_forget, Cond.selects RX8 yX8_forget yX8_forget, Cond.code yX8_forget cX8_forget 2 (some .int), Cond.methodLink RL 93 yX7_wound, Cond.instanceMethod yX7_wound, Cond.selects RX7 yX7_wound yX7_wound, Cond.code yX7_wound cX7_wound 3 (some .int), Cond.methodLink RX7 182 yX5_areSoIn, Cond.instanceMethod yX5_areSoIn, Cond.selects RX5 yX5_areSoIn yX5_areSoIn, Cond.code yX5_areSoIn cX5_areSoIn 4 (some .boolean), Cond.methodLink RX5 22 yX5_latestTime, Cond.instanceMethod yX5_latestTime, Cond.selects RX5 yX5_latestTime yX5_latestTime, Cond.code yX5_latestTime cX5_latestTime 3 (some .int), Cond.methodLink RX5 38 Lib.Math.max.name, Cond.static Lib.Math.max.name, Cond.code Lib.Math.max.name Lib.Math.max.code 2 (some .int)]
def wsL_law_r27 : List Cond := [Cond.methodLink RX5 26 yX0_goMinute, Cond.methodLink RX5 31 yX0_cell, Cond.methodLink RX5 34 yX5_agreeWith, Cond.instanceMethod yX5_agreeWith, Cond.selects RX5 yX5_agreeWith yX5_agreeWith, Cond.code yX5_agreeWith cX5_agreeWith 4 (some .boolean), Cond.methodLink RL 96 yX8_wound, Cond.instanceMethod yX8_wound, Cond.selects RX8 yX8_wound yX8_wound, Cond.code yX8_wound cX8_wound 3 (some .int), Cond.methodLink RX8 145 yX8_isSo, Cond.instanceMethod yX8_isSo, Cond.selects RX8 yX8_isSo yX8_isSo, Cond.code yX8_isSo cX8_isSo 4 (some .boolean), Cond.methodLink RL 97 yX7_ordered, Cond.instanceMethod yX7_ordered, Cond.selects RX7 yX7_ordered yX7_ordered, Cond.code yX7_ordered cX7_ordered 7 (some .int), Cond.methodLink RX7 185 yX7_wouldExplain, Cond.instanceMethod yX7_wouldExplain, Cond.selects RX7 yX7_wouldExplain yX7_wouldExplain, Cond.code yX7_wouldExplain cX7_wouldExplain 4 (some .boolean), Cond.methodLink RX7 217 yX1_replaceNext, Cond.instanceMethod yX1_replaceNext]
def wsL_law_r28 : List Cond := [Cond.selects RX1 yX1_replaceNext yX1_replaceNext, Cond.code yX1_replaceNext cX1_replaceNext 3 none, Cond.methodLink RL 100 yX8_ordered, Cond.instanceMethod yX8_ordered, Cond.selects RX8 yX8_ordered yX8_ordered, Cond.code yX8_ordered cX8_ordered 7 (some .int), Cond.methodLink RL 101 yX7_inspected, Cond.instanceMethod yX7_inspected, Cond.selects RX7 yX7_inspected yX7_inspected, Cond.code yX7_inspected cX7_inspected 6 (some .int), Cond.constantLong RX7 189 (1000000000), Cond.constantLong RX7 191 (10), Cond.methodLink RL 104 yX8_inspected, Cond.instanceMethod yX8_inspected, Cond.selects RX8 yX8_inspected yX8_inspected, Cond.code yX8_inspected cX8_inspected 6 (some .int), Cond.constantLong RX8 148 (1000000000), Cond.constantLong RX8 150 (10), Cond.methodLink RL 105 yX7_count, Cond.instanceMethod yX7_count, Cond.selects RX7 yX7_count yX7_count, Cond.code yX7_count cX7_count 2 (some .int), Cond.methodLink RX7 211 yX0_mudInAll, Cond.instanceMethod yX0_mudInAll]
def wsL_law_r29 : List Cond := [Cond.selects RX0 yX0_mudInAll yX0_mudInAll, Cond.code yX0_mudInAll cX0_mudInAll 3 (some .int), Cond.methodLink RL 108 yX8_count, Cond.instanceMethod yX8_count, Cond.selects RX8 yX8_count yX8_count, Cond.code yX8_count cX8_count 4 (some .int)]
def wsL_law : List Cond := (wsL_law_r1 ++ (wsL_law_r2 ++ (wsL_law_r3 ++ (wsL_law_r4 ++ (wsL_law_r5 ++ (wsL_law_r6 ++ (wsL_law_r7 ++ (wsL_law_r8 ++ (wsL_law_r9 ++ (wsL_law_r10 ++ (wsL_law_r11 ++ (wsL_law_r12 ++ (wsL_law_r13 ++ (wsL_law_r14 ++ (wsL_law_r15 ++ (wsL_law_r16 ++ (wsL_law_r17 ++ (wsL_law_r18 ++ (wsL_law_r19 ++ (wsL_law_r20 ++ (wsL_law_r21 ++ (wsL_law_r22 ++ (wsL_law_r23 ++ (wsL_law_r24 ++ (wsL_law_r25 ++ (wsL_law_r26 ++ (wsL_law_r27 ++ (wsL_law_r28 ++ wsL_law_r29)))))))))))))))))))))))))))) ++ wsX70 ++ wsX80 ++ wsX60 ++ wsX30 ++ wsX40 ++ wsX00 ++ wsX20 ++ wsX50 ++ wsX10 ++ ([] : List Cond)
abbrev vwCl : List vw_C := [(RX0, TX0, 14), (RX1, TX1, 3), (RX2, TX2, 2), (RX3, TX3, 6), (RX4, TX4, 6), (RX5, TX5, 3), (RX6, TX6, 2), (RX7, TX7, 9), (RX8, TX8, 16)]
