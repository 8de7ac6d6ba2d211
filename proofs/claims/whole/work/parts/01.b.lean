/-! ===== BEGIN words of one list among another's, by their places ===== -/
theorem goodIn_r {big : List Cond} (ws : List Cond) (ps : List Nat) (hp : ws = ps.filterMap (fun i => big[i]?)) (h : ws.all goodWord = true) : GoodIn big ws := by
  intro w hw
  have h1 := List.all_eq_true.mp h w hw
  rw [hp] at hw
  obtain ⟨i, -, hi⟩ := List.mem_filterMap.mp hw
  have hm : w ∈ big := by first | exact List.mem_of_getElem? hi | exact List.getElem?_mem hi
  exact ⟨hm, good_of_word h1⟩
theorem goodIn_app {big a b : List Cond} (ha : GoodIn big a) (hb : GoodIn big b) : GoodIn big (a ++ b) := fun w h => (List.mem_append.mp h).elim (ha w) (hb w)
theorem goodIn_ca {big a b : List Cond} {c : Cond} (ha : GoodIn big (c :: a)) (hb : GoodIn big b) : GoodIn big (c :: (a ++ b)) := fun w h => (List.mem_cons.mp h).elim (fun e => ha w (List.mem_cons.mpr (Or.inl e))) (fun h => (List.mem_append.mp h).elim (fun h => ha w (List.mem_cons.mpr (Or.inr h))) (hb w))
theorem goodIn_sub {big ws : List Cond} (hm : ∀ w ∈ ws, w ∈ big) (h : ws.all goodWord = true) : GoodIn big ws := fun w hw => ⟨hm w hw, good_of_word (List.all_eq_true.mp h w hw)⟩
/-! ===== END ===== -/

/-! ===== BEGIN printed: names, fields, word lists, decode rows ===== -/
def RX0 : String := "RetiredTimer"
def TX0 : u_T := fun k => match k with
  | 0 => ("RetiredTimer", "entryCounts", "[I", true)
  | 1 => ("RetiredTimer", "entryLines", "[I", true)
  | 2 => ("RetiredTimer", "entries", "I", false)
  | 3 => ("RetiredTimer", "retired", "I", false)
  | 4 => ("RetiredTimer", "count", "I", false)
  | 5 => ("RetiredTimer", "period", "I", false)
  | 6 => ("RetiredTimer", "counting", "Z", false)
  | 7 => ("RetiredTimer", "pending", "Z", false)
  | 8 => ("RetiredTimer", "mask", "I", false)
  | 9 => ("RetiredTimer", "sr", "I", false)
  | 10 => ("RetiredTimer", "saved", "I", false)
  | _ => ("RetiredTimer", "taken", "I", false)
def tyX0 : Nat → FieldType := fun k => match k with
  | 0 => .array .int
  | 1 => .array .int
  | 2 => .int
  | 3 => .int
  | 4 => .int
  | 5 => .int
  | 6 => .boolean
  | 7 => .boolean
  | 8 => .int
  | 9 => .int
  | 10 => .int
  | _ => .int
abbrev wsX00 : List Cond := u_ws RX0 TX0 12
theorem nmX0 : ∀ a, a < 12 → ∀ b, b < 12 → a ≠ b → (TX0 a).2.1 ≠ (TX0 b).2.1 := by decide +kernel
theorem tyX0_ok : ∀ k, k < 12 → parseFieldDescriptor (TX0 k).2.2.1 = some (tyX0 k) := by decide +kernel
abbrev cX0_init : ByteArray := prog_1_method_1_code
def yX0_init : MethodName := ⟨RX0, "<init>", "()V"⟩
abbrev cX0_entry : ByteArray := prog_1_method_2_code
def yX0_entry : MethodName := ⟨RX0, "entry", "(II)Z"⟩
abbrev cX0_steps : ByteArray := prog_1_method_3_code
def yX0_steps : MethodName := ⟨RX0, "steps", "(I)I"⟩
abbrev cX0_take : ByteArray := prog_1_method_4_code
def yX0_take : MethodName := ⟨RX0, "take", "()I"⟩
abbrev cX0_back : ByteArray := prog_1_method_5_code
def yX0_back : MethodName := ⟨RX0, "back", "()V"⟩
abbrev cX0_mode : ByteArray := prog_1_method_6_code
def yX0_mode : MethodName := ⟨RX0, "mode", "(I)V"⟩
abbrev cX0_mask : ByteArray := prog_1_method_7_code
def yX0_mask : MethodName := ⟨RX0, "mask", "(I)V"⟩
abbrev cX0_timer : ByteArray := prog_1_method_8_code
def yX0_timer : MethodName := ⟨RX0, "timer", "(IZZ)V"⟩
abbrev cX0_count : ByteArray := prog_1_method_9_code
def yX0_count : MethodName := ⟨RX0, "count", "(I)V"⟩
abbrev cX0_reset : ByteArray := prog_1_method_10_code
def yX0_reset : MethodName := ⟨RX0, "reset", "()V"⟩
abbrev cX0_until : ByteArray := prog_1_method_11_code
def yX0_until : MethodName := ⟨RX0, "until", "()I"⟩
abbrev cX0_linesAt : ByteArray := prog_1_method_12_code
def yX0_linesAt : MethodName := ⟨RX0, "linesAt", "(I)I"⟩
abbrev cX0_entryOf : ByteArray := prog_1_method_13_code
def yX0_entryOf : MethodName := ⟨RX0, "entryOf", "(IZ)I"⟩
abbrev cX0_look : ByteArray := prog_1_method_14_code
def yX0_look : MethodName := ⟨RX0, "look", "(I)I"⟩
abbrev cX0_setAllAsAtFirst : ByteArray := prog_1_method_15_code
def yX0_setAllAsAtFirst : MethodName := ⟨RX0, "setAllAsAtFirst", "()V"⟩
abbrev cX0_lastEntryCount : ByteArray := prog_1_method_16_code
def yX0_lastEntryCount : MethodName := ⟨RX0, "lastEntryCount", "()I"⟩
abbrev cX0_interruptDue : ByteArray := prog_1_method_17_code
def yX0_interruptDue : MethodName := ⟨RX0, "interruptDue", "()I"⟩
abbrev cX0_isOn : ByteArray := prog_1_method_18_code
def yX0_isOn : MethodName := ⟨RX0, "isOn", "(I)Z"⟩
abbrev cX0_isInMask : ByteArray := prog_1_method_19_code
def yX0_isInMask : MethodName := ⟨RX0, "isInMask", "(I)Z"⟩
abbrev cX0_distanceToInterrupt : ByteArray := prog_1_method_20_code
def yX0_distanceToInterrupt : MethodName := ⟨RX0, "distanceToInterrupt", "()J"⟩
abbrev cX0_distanceToTimer : ByteArray := prog_1_method_21_code
def yX0_distanceToTimer : MethodName := ⟨RX0, "distanceToTimer", "()J"⟩
abbrev cX0_distanceToLines : ByteArray := prog_1_method_22_code
def yX0_distanceToLines : MethodName := ⟨RX0, "distanceToLines", "()J"⟩
abbrev cX0_distanceToPeriod : ByteArray := prog_1_method_23_code
def yX0_distanceToPeriod : MethodName := ⟨RX0, "distanceToPeriod", "()J"⟩
abbrev cX0_advance : ByteArray := prog_1_method_24_code
def yX0_advance : MethodName := ⟨RX0, "advance", "(I)V"⟩
abbrev cX0_advanceCount : ByteArray := prog_1_method_25_code
def yX0_advanceCount : MethodName := ⟨RX0, "advanceCount", "(I)V"⟩
def RX1 : String := "RetiredTimerModel"
def TX1 : u_T := fun k => match k with
  | 0 => ("RetiredTimerModel", "thrown", "I", false)
  | 1 => ("RetiredTimerModel", "retired", "I", false)
  | 2 => ("RetiredTimerModel", "count", "I", false)
  | 3 => ("RetiredTimerModel", "period", "I", false)
  | 4 => ("RetiredTimerModel", "counting", "Z", false)
  | 5 => ("RetiredTimerModel", "pending", "Z", false)
  | 6 => ("RetiredTimerModel", "mask", "I", false)
  | 7 => ("RetiredTimerModel", "sr", "I", false)
  | 8 => ("RetiredTimerModel", "saved", "I", false)
  | 9 => ("RetiredTimerModel", "taken", "I", false)
  | 10 => ("RetiredTimerModel", "counts", "[I", true)
  | 11 => ("RetiredTimerModel", "values", "[I", true)
  | 12 => ("RetiredTimerModel", "entries", "I", false)
  | _ => ("RetiredTimerModel", "come", "I", false)
def tyX1 : Nat → FieldType := fun k => match k with
  | 0 => .int
  | 1 => .int
  | 2 => .int
  | 3 => .int
  | 4 => .boolean
  | 5 => .boolean
  | 6 => .int
  | 7 => .int
  | 8 => .int
  | 9 => .int
  | 10 => .array .int
  | 11 => .array .int
  | 12 => .int
  | _ => .int
abbrev wsX10 : List Cond := u_ws RX1 TX1 14
theorem nmX1 : ∀ a, a < 14 → ∀ b, b < 14 → a ≠ b → (TX1 a).2.1 ≠ (TX1 b).2.1 := by decide +kernel
theorem tyX1_ok : ∀ k, k < 14 → parseFieldDescriptor (TX1 k).2.2.1 = some (tyX1 k) := by decide +kernel
abbrev cX1_init : ByteArray := prog_3_method_1_code
def yX1_init : MethodName := ⟨RX1, "<init>", "()V"⟩
abbrev cX1_goOn : ByteArray := prog_3_method_3_code
def yX1_goOn : MethodName := ⟨RX1, "goOn", "()V"⟩
abbrev cX1_linesNow : ByteArray := prog_3_method_4_code
def yX1_linesNow : MethodName := ⟨RX1, "linesNow", "()I"⟩
abbrev cX1_due : ByteArray := prog_3_method_5_code
def yX1_due : MethodName := ⟨RX1, "due", "()I"⟩
abbrev cX1_entry : ByteArray := prog_3_method_6_code
def yX1_entry : MethodName := ⟨RX1, "entry", "(II)Z"⟩
abbrev cX1_step : ByteArray := prog_3_method_7_code
def yX1_step : MethodName := ⟨RX1, "step", "()V"⟩
abbrev cX1_steps : ByteArray := prog_3_method_8_code
def yX1_steps : MethodName := ⟨RX1, "steps", "(I)I"⟩
abbrev cX1_take : ByteArray := prog_3_method_9_code
def yX1_take : MethodName := ⟨RX1, "take", "()I"⟩
abbrev cX1_back : ByteArray := prog_3_method_10_code
def yX1_back : MethodName := ⟨RX1, "back", "()V"⟩
def RJ9 : String := "java/lang/Math"
def TJ9 : u_T := fun k => match k with
  | _ => ("", "", "", false)
def tyJ9 : Nat → FieldType := fun k => match k with
  | _ => .int
abbrev wsJ90 : List Cond := u_ws RJ9 TJ9 0
theorem nmJ9 : ∀ a, a < 0 → ∀ b, b < 0 → a ≠ b → (TJ9 a).2.1 ≠ (TJ9 b).2.1 := by decide +kernel
theorem tyJ9_ok : ∀ k, k < 0 → parseFieldDescriptor (TJ9 k).2.2.1 = some (tyJ9 k) := by decide +kernel
abbrev cJ9_min_f86c9 : ByteArray := prog_4_method_70_code
def yJ9_min_f86c9 : MethodName := ⟨RJ9, "min", "(JJ)J"⟩
def RL : String := "RetiredTimerLaw"
abbrev cL_law : ByteArray := code
def yL_law : MethodName := ⟨RL, "law", "([I)Z"⟩
def wsX0_setAllAsAtFirst : List Cond := .code yX0_setAllAsAtFirst cX0_setAllAsAtFirst 1 none :: ([.fieldLink RX0 19 "RetiredTimer" "entries" "I", .fieldLink RX0 28 "RetiredTimer" "retired" "I", .fieldLink RX0 65 "RetiredTimer" "count" "I", .fieldLink RX0 55 "RetiredTimer" "period" "I", .fieldLink RX0 58 "RetiredTimer" "counting" "Z", .fieldLink RX0 62 "RetiredTimer" "pending" "Z", .fieldLink RX0 51 "RetiredTimer" "mask" "I", .fieldLink RX0 42 "RetiredTimer" "sr" "I", .fieldLink RX0 45 "RetiredTimer" "saved" "I", .fieldLink RX0 48 "RetiredTimer" "taken" "I"] ++ wsX00)
def wsX0_init : List Cond := .code yX0_init cX0_init 1 none :: ([.methodLink RX0 3 objectInit, .instanceMethod objectInit, .code objectInit ⟨#[0xb1]⟩ 1 none, .arrayClass .int, .fieldLink RX0 9 "RetiredTimer" "entryCounts" "[I", .fieldLink RX0 13 "RetiredTimer" "entryLines" "[I", .methodLink RX0 16 yX0_setAllAsAtFirst, .instanceMethod yX0_setAllAsAtFirst, .selects RX0 yX0_setAllAsAtFirst yX0_setAllAsAtFirst, .initialized RX0, .code yX0_setAllAsAtFirst cX0_setAllAsAtFirst 1 none, .fieldLink RX0 19 "RetiredTimer" "entries" "I", .fieldLink RX0 28 "RetiredTimer" "retired" "I", .fieldLink RX0 65 "RetiredTimer" "count" "I", .fieldLink RX0 55 "RetiredTimer" "period" "I", .fieldLink RX0 58 "RetiredTimer" "counting" "Z", .fieldLink RX0 62 "RetiredTimer" "pending" "Z", .fieldLink RX0 51 "RetiredTimer" "mask" "I", .fieldLink RX0 42 "RetiredTimer" "sr" "I", .fieldLink RX0 45 "RetiredTimer" "saved" "I", .fieldLink RX0 48 "RetiredTimer" "taken" "I"] ++ wsX00)
def wsX0_lastEntryCount : List Cond := .code yX0_lastEntryCount cX0_lastEntryCount 1 (some .int) :: ([.fieldLink RX0 19 "RetiredTimer" "entries" "I", .fieldLink RX0 9 "RetiredTimer" "entryCounts" "[I"] ++ wsX00)
def wsX0_entry : List Cond := .code yX0_entry cX0_entry 3 (some .boolean) :: ([.fieldLink RX0 19 "RetiredTimer" "entries" "I", .fieldLink RX0 9 "RetiredTimer" "entryCounts" "[I", .fieldLink RX0 13 "RetiredTimer" "entryLines" "[I", .methodLink RX0 23 yX0_lastEntryCount, .instanceMethod yX0_lastEntryCount, .selects RX0 yX0_lastEntryCount yX0_lastEntryCount, .initialized RX0, .code yX0_lastEntryCount cX0_lastEntryCount 1 (some .int)] ++ wsX00)
def wsX0_isOn : List Cond := .code yX0_isOn cX0_isOn 2 (some .boolean) :: ([.fieldLink RX0 42 "RetiredTimer" "sr" "I"] ++ wsX00)
def wsX0_linesAt : List Cond := .code yX0_linesAt cX0_linesAt 4 (some .int) :: ([.fieldLink RX0 19 "RetiredTimer" "entries" "I", .fieldLink RX0 9 "RetiredTimer" "entryCounts" "[I", .fieldLink RX0 13 "RetiredTimer" "entryLines" "[I"] ++ wsX00)
def wsX0_isInMask : List Cond := .code yX0_isInMask cX0_isInMask 2 (some .boolean) :: ([.fieldLink RX0 51 "RetiredTimer" "mask" "I"] ++ wsX00)
def wsX0_interruptDue : List Cond := .code yX0_interruptDue cX0_interruptDue 1 (some .int) :: ([.fieldLink RX0 62 "RetiredTimer" "pending" "Z", .fieldLink RX0 28 "RetiredTimer" "retired" "I", .methodLink RX0 72 yX0_isOn, .instanceMethod yX0_isOn, .selects RX0 yX0_isOn yX0_isOn, .initialized RX0, .code yX0_isOn cX0_isOn 2 (some .boolean), .fieldLink RX0 42 "RetiredTimer" "sr" "I", .methodLink RX0 68 yX0_linesAt, .instanceMethod yX0_linesAt, .selects RX0 yX0_linesAt yX0_linesAt, .code yX0_linesAt cX0_linesAt 4 (some .int), .fieldLink RX0 19 "RetiredTimer" "entries" "I", .fieldLink RX0 9 "RetiredTimer" "entryCounts" "[I", .fieldLink RX0 13 "RetiredTimer" "entryLines" "[I", .methodLink RX0 76 yX0_isInMask, .instanceMethod yX0_isInMask, .selects RX0 yX0_isInMask yX0_isInMask, .code yX0_isInMask cX0_isInMask 2 (some .boolean), .fieldLink RX0 51 "RetiredTimer" "mask" "I"] ++ wsX00)
def wsX0_distanceToPeriod : List Cond := .code yX0_distanceToPeriod cX0_distanceToPeriod 3 (some .long) :: ([.fieldLink RX0 55 "RetiredTimer" "period" "I", .fieldLink RX0 65 "RetiredTimer" "count" "I", .constantLong RX0 96 (4294967295), .constantLong RX0 98 (4294967296)] ++ wsX00)
def wsX0_distanceToTimer : List Cond := .code yX0_distanceToTimer cX0_distanceToTimer 1 (some .long) :: ([.fieldLink RX0 58 "RetiredTimer" "counting" "Z", .constantLong RX0 94 (1099511627776), .methodLink RX0 72 yX0_isOn, .instanceMethod yX0_isOn, .selects RX0 yX0_isOn yX0_isOn, .initialized RX0, .code yX0_isOn cX0_isOn 2 (some .boolean), .fieldLink RX0 42 "RetiredTimer" "sr" "I", .methodLink RX0 91 yX0_distanceToPeriod, .instanceMethod yX0_distanceToPeriod, .selects RX0 yX0_distanceToPeriod yX0_distanceToPeriod, .code yX0_distanceToPeriod cX0_distanceToPeriod 3 (some .long), .fieldLink RX0 55 "RetiredTimer" "period" "I", .fieldLink RX0 65 "RetiredTimer" "count" "I", .constantLong RX0 96 (4294967295), .constantLong RX0 98 (4294967296)] ++ wsX00)
def wsX0_distanceToLines : List Cond := .code yX0_distanceToLines cX0_distanceToLines 2 (some .long) :: ([.constantLong RX0 94 (1099511627776), .fieldLink RX0 19 "RetiredTimer" "entries" "I", .fieldLink RX0 9 "RetiredTimer" "entryCounts" "[I", .fieldLink RX0 28 "RetiredTimer" "retired" "I", .fieldLink RX0 13 "RetiredTimer" "entryLines" "[I", .methodLink RX0 72 yX0_isOn, .instanceMethod yX0_isOn, .selects RX0 yX0_isOn yX0_isOn, .initialized RX0, .code yX0_isOn cX0_isOn 2 (some .boolean), .fieldLink RX0 42 "RetiredTimer" "sr" "I", .methodLink RX0 76 yX0_isInMask, .instanceMethod yX0_isInMask, .selects RX0 yX0_isInMask yX0_isInMask, .code yX0_isInMask cX0_isInMask 2 (some .boolean), .fieldLink RX0 51 "RetiredTimer" "mask" "I"] ++ wsX00)
def wsX0_distanceToInterrupt_r1 : List Cond := [Cond.methodLink RX0 85 Lib.MathLoose.min_long.x, Cond.static Lib.MathLoose.min_long.x, Cond.initialized "java/lang/Math", Cond.code Lib.MathLoose.min_long.x Lib.MathLoose.min_long.code 4 (some .long), Cond.methodLink RX0 39 yX0_interruptDue, Cond.instanceMethod yX0_interruptDue, Cond.selects RX0 yX0_interruptDue yX0_interruptDue, Cond.initialized RX0, Cond.code yX0_interruptDue cX0_interruptDue 1 (some .int), Cond.fieldLink RX0 62 "RetiredTimer" "pending" "Z", Cond.fieldLink RX0 28 "RetiredTimer" "retired" "I", Cond.methodLink RX0 72 yX0_isOn, Cond.instanceMethod yX0_isOn, Cond.selects RX0 yX0_isOn yX0_isOn, Cond.code yX0_isOn cX0_isOn 2 (some .boolean), Cond.fieldLink RX0 42 "RetiredTimer" "sr" "I", Cond.methodLink RX0 68 yX0_linesAt, Cond.instanceMethod yX0_linesAt, Cond.selects RX0 yX0_linesAt yX0_linesAt, Cond.code yX0_linesAt cX0_linesAt 4 (some .int), Cond.fieldLink RX0 19 "RetiredTimer" "entries" "I", Cond.fieldLink RX0 9 "RetiredTimer" "entryCounts" "[I", Cond.fieldLink RX0 13 "RetiredTimer" "entryLines" "[I", Cond.methodLink RX0 76 yX0_isInMask]
def wsX0_distanceToInterrupt_r2 : List Cond := [Cond.instanceMethod yX0_isInMask, Cond.selects RX0 yX0_isInMask yX0_isInMask, Cond.code yX0_isInMask cX0_isInMask 2 (some .boolean), Cond.fieldLink RX0 51 "RetiredTimer" "mask" "I", Cond.methodLink RX0 79 yX0_distanceToTimer, Cond.instanceMethod yX0_distanceToTimer, Cond.selects RX0 yX0_distanceToTimer yX0_distanceToTimer, Cond.code yX0_distanceToTimer cX0_distanceToTimer 1 (some .long), Cond.fieldLink RX0 58 "RetiredTimer" "counting" "Z", Cond.constantLong RX0 94 (1099511627776), Cond.methodLink RX0 91 yX0_distanceToPeriod, Cond.instanceMethod yX0_distanceToPeriod, Cond.selects RX0 yX0_distanceToPeriod yX0_distanceToPeriod, Cond.code yX0_distanceToPeriod cX0_distanceToPeriod 3 (some .long), Cond.fieldLink RX0 55 "RetiredTimer" "period" "I", Cond.fieldLink RX0 65 "RetiredTimer" "count" "I", Cond.constantLong RX0 96 (4294967295), Cond.constantLong RX0 98 (4294967296), Cond.methodLink RX0 82 yX0_distanceToLines, Cond.instanceMethod yX0_distanceToLines, Cond.selects RX0 yX0_distanceToLines yX0_distanceToLines, Cond.code yX0_distanceToLines cX0_distanceToLines 2 (some .long)]
def wsX0_distanceToInterrupt : List Cond := .code yX0_distanceToInterrupt cX0_distanceToInterrupt 1 (some .long) :: ((wsX0_distanceToInterrupt_r1 ++ wsX0_distanceToInterrupt_r2) ++ wsX00)
def wsX0_advanceCount : List Cond := .code yX0_advanceCount cX0_advanceCount 5 none :: ([.fieldLink RX0 65 "RetiredTimer" "count" "I", .fieldLink RX0 62 "RetiredTimer" "pending" "Z", .fieldLink RX0 55 "RetiredTimer" "period" "I", .methodLink RX0 91 yX0_distanceToPeriod, .instanceMethod yX0_distanceToPeriod, .selects RX0 yX0_distanceToPeriod yX0_distanceToPeriod, .initialized RX0, .code yX0_distanceToPeriod cX0_distanceToPeriod 3 (some .long), .constantLong RX0 96 (4294967295), .constantLong RX0 98 (4294967296)] ++ wsX00)
def wsX0_advance : List Cond := .code yX0_advance cX0_advance 2 none :: ([.fieldLink RX0 28 "RetiredTimer" "retired" "I", .fieldLink RX0 58 "RetiredTimer" "counting" "Z", .methodLink RX0 100 yX0_advanceCount, .instanceMethod yX0_advanceCount, .selects RX0 yX0_advanceCount yX0_advanceCount, .initialized RX0, .code yX0_advanceCount cX0_advanceCount 5 none, .fieldLink RX0 65 "RetiredTimer" "count" "I", .fieldLink RX0 62 "RetiredTimer" "pending" "Z", .fieldLink RX0 55 "RetiredTimer" "period" "I", .methodLink RX0 91 yX0_distanceToPeriod, .instanceMethod yX0_distanceToPeriod, .selects RX0 yX0_distanceToPeriod yX0_distanceToPeriod, .code yX0_distanceToPeriod cX0_distanceToPeriod 3 (some .long), .constantLong RX0 96 (4294967295), .constantLong RX0 98 (4294967296)] ++ wsX00)
def wsX0_steps_r1 : List Cond := [Cond.constant RX0 27 (2147483647), Cond.fieldLink RX0 28 "RetiredTimer" "retired" "I", Cond.methodLink RX0 31 yX0_distanceToInterrupt, Cond.instanceMethod yX0_distanceToInterrupt, Cond.selects RX0 yX0_distanceToInterrupt yX0_distanceToInterrupt, Cond.initialized RX0, Cond.code yX0_distanceToInterrupt cX0_distanceToInterrupt 1 (some .long), Cond.methodLink RX0 85 Lib.MathLoose.min_long.x, Cond.static Lib.MathLoose.min_long.x, Cond.initialized "java/lang/Math", Cond.code Lib.MathLoose.min_long.x Lib.MathLoose.min_long.code 4 (some .long), Cond.methodLink RX0 39 yX0_interruptDue, Cond.instanceMethod yX0_interruptDue, Cond.selects RX0 yX0_interruptDue yX0_interruptDue, Cond.code yX0_interruptDue cX0_interruptDue 1 (some .int), Cond.fieldLink RX0 62 "RetiredTimer" "pending" "Z", Cond.methodLink RX0 72 yX0_isOn, Cond.instanceMethod yX0_isOn, Cond.selects RX0 yX0_isOn yX0_isOn, Cond.code yX0_isOn cX0_isOn 2 (some .boolean), Cond.fieldLink RX0 42 "RetiredTimer" "sr" "I", Cond.methodLink RX0 68 yX0_linesAt, Cond.instanceMethod yX0_linesAt, Cond.selects RX0 yX0_linesAt yX0_linesAt]
def wsX0_steps_r2 : List Cond := [Cond.code yX0_linesAt cX0_linesAt 4 (some .int), Cond.fieldLink RX0 19 "RetiredTimer" "entries" "I", Cond.fieldLink RX0 9 "RetiredTimer" "entryCounts" "[I", Cond.fieldLink RX0 13 "RetiredTimer" "entryLines" "[I", Cond.methodLink RX0 76 yX0_isInMask, Cond.instanceMethod yX0_isInMask, Cond.selects RX0 yX0_isInMask yX0_isInMask, Cond.code yX0_isInMask cX0_isInMask 2 (some .boolean), Cond.fieldLink RX0 51 "RetiredTimer" "mask" "I", Cond.methodLink RX0 79 yX0_distanceToTimer, Cond.instanceMethod yX0_distanceToTimer, Cond.selects RX0 yX0_distanceToTimer yX0_distanceToTimer, Cond.code yX0_distanceToTimer cX0_distanceToTimer 1 (some .long), Cond.fieldLink RX0 58 "RetiredTimer" "counting" "Z", Cond.constantLong RX0 94 (1099511627776), Cond.methodLink RX0 91 yX0_distanceToPeriod, Cond.instanceMethod yX0_distanceToPeriod, Cond.selects RX0 yX0_distanceToPeriod yX0_distanceToPeriod, Cond.code yX0_distanceToPeriod cX0_distanceToPeriod 3 (some .long), Cond.fieldLink RX0 55 "RetiredTimer" "period" "I", Cond.fieldLink RX0 65 "RetiredTimer" "count" "I", Cond.constantLong RX0 96 (4294967295), Cond.constantLong RX0 98 (4294967296), Cond.methodLink RX0 82 yX0_distanceToLines]
def wsX0_steps_r3 : List Cond := [Cond.instanceMethod yX0_distanceToLines, Cond.selects RX0 yX0_distanceToLines yX0_distanceToLines, Cond.code yX0_distanceToLines cX0_distanceToLines 2 (some .long), Cond.methodLink RX0 35 yX0_advance, Cond.instanceMethod yX0_advance, Cond.selects RX0 yX0_advance yX0_advance, Cond.code yX0_advance cX0_advance 2 none, Cond.methodLink RX0 100 yX0_advanceCount, Cond.instanceMethod yX0_advanceCount, Cond.selects RX0 yX0_advanceCount yX0_advanceCount, Cond.code yX0_advanceCount cX0_advanceCount 5 none]
def wsX0_steps : List Cond := .code yX0_steps cX0_steps 5 (some .int) :: ((wsX0_steps_r1 ++ (wsX0_steps_r2 ++ wsX0_steps_r3)) ++ wsX00)
def wsX0_take_r1 : List Cond := [Cond.fieldLink RX0 42 "RetiredTimer" "sr" "I", Cond.fieldLink RX0 45 "RetiredTimer" "saved" "I", Cond.fieldLink RX0 48 "RetiredTimer" "taken" "I", Cond.methodLink RX0 39 yX0_interruptDue, Cond.instanceMethod yX0_interruptDue, Cond.selects RX0 yX0_interruptDue yX0_interruptDue, Cond.initialized RX0, Cond.code yX0_interruptDue cX0_interruptDue 1 (some .int), Cond.fieldLink RX0 62 "RetiredTimer" "pending" "Z", Cond.fieldLink RX0 28 "RetiredTimer" "retired" "I", Cond.methodLink RX0 72 yX0_isOn, Cond.instanceMethod yX0_isOn, Cond.selects RX0 yX0_isOn yX0_isOn, Cond.code yX0_isOn cX0_isOn 2 (some .boolean), Cond.methodLink RX0 68 yX0_linesAt, Cond.instanceMethod yX0_linesAt, Cond.selects RX0 yX0_linesAt yX0_linesAt, Cond.code yX0_linesAt cX0_linesAt 4 (some .int), Cond.fieldLink RX0 19 "RetiredTimer" "entries" "I", Cond.fieldLink RX0 9 "RetiredTimer" "entryCounts" "[I", Cond.fieldLink RX0 13 "RetiredTimer" "entryLines" "[I", Cond.methodLink RX0 76 yX0_isInMask, Cond.instanceMethod yX0_isInMask, Cond.selects RX0 yX0_isInMask yX0_isInMask]
def wsX0_take_r2 : List Cond := [Cond.code yX0_isInMask cX0_isInMask 2 (some .boolean), Cond.fieldLink RX0 51 "RetiredTimer" "mask" "I"]
def wsX0_take : List Cond := .code yX0_take cX0_take 2 (some .int) :: ((wsX0_take_r1 ++ wsX0_take_r2) ++ wsX00)
def wsX0_back : List Cond := .code yX0_back cX0_back 1 none :: ([.fieldLink RX0 45 "RetiredTimer" "saved" "I", .fieldLink RX0 42 "RetiredTimer" "sr" "I"] ++ wsX00)
def wsX0_mode : List Cond := .code yX0_mode cX0_mode 2 none :: ([.fieldLink RX0 42 "RetiredTimer" "sr" "I"] ++ wsX00)
def wsX0_mask : List Cond := .code yX0_mask cX0_mask 2 none :: ([.fieldLink RX0 51 "RetiredTimer" "mask" "I"] ++ wsX00)
def wsX0_timer : List Cond := .code yX0_timer cX0_timer 4 none :: ([.constant RX0 54 (268435455), .fieldLink RX0 55 "RetiredTimer" "period" "I", .fieldLink RX0 58 "RetiredTimer" "counting" "Z", .fieldLink RX0 62 "RetiredTimer" "pending" "Z"] ++ wsX00)
def wsX0_count : List Cond := .code yX0_count cX0_count 2 none :: ([.fieldLink RX0 65 "RetiredTimer" "count" "I"] ++ wsX00)
def wsX0_reset : List Cond := .code yX0_reset cX0_reset 1 none :: ([.methodLink RX0 16 yX0_setAllAsAtFirst, .instanceMethod yX0_setAllAsAtFirst, .selects RX0 yX0_setAllAsAtFirst yX0_setAllAsAtFirst, .initialized RX0, .code yX0_setAllAsAtFirst cX0_setAllAsAtFirst 1 none, .fieldLink RX0 19 "RetiredTimer" "entries" "I", .fieldLink RX0 28 "RetiredTimer" "retired" "I", .fieldLink RX0 65 "RetiredTimer" "count" "I", .fieldLink RX0 55 "RetiredTimer" "period" "I", .fieldLink RX0 58 "RetiredTimer" "counting" "Z", .fieldLink RX0 62 "RetiredTimer" "pending" "Z", .fieldLink RX0 51 "RetiredTimer" "mask" "I", .fieldLink RX0 42 "RetiredTimer" "sr" "I", .fieldLink RX0 45 "RetiredTimer" "saved" "I", .fieldLink RX0 48 "RetiredTimer" "taken" "I"] ++ wsX00)
def wsX0_until_r1 : List Cond := [Cond.constant RX0 27 (2147483647), Cond.fieldLink RX0 28 "RetiredTimer" "retired" "I", Cond.methodLink RX0 31 yX0_distanceToInterrupt, Cond.instanceMethod yX0_distanceToInterrupt, Cond.selects RX0 yX0_distanceToInterrupt yX0_distanceToInterrupt, Cond.initialized RX0, Cond.code yX0_distanceToInterrupt cX0_distanceToInterrupt 1 (some .long), Cond.methodLink RX0 85 Lib.MathLoose.min_long.x, Cond.static Lib.MathLoose.min_long.x, Cond.initialized "java/lang/Math", Cond.code Lib.MathLoose.min_long.x Lib.MathLoose.min_long.code 4 (some .long), Cond.methodLink RX0 39 yX0_interruptDue, Cond.instanceMethod yX0_interruptDue, Cond.selects RX0 yX0_interruptDue yX0_interruptDue, Cond.code yX0_interruptDue cX0_interruptDue 1 (some .int), Cond.fieldLink RX0 62 "RetiredTimer" "pending" "Z", Cond.methodLink RX0 72 yX0_isOn, Cond.instanceMethod yX0_isOn, Cond.selects RX0 yX0_isOn yX0_isOn, Cond.code yX0_isOn cX0_isOn 2 (some .boolean), Cond.fieldLink RX0 42 "RetiredTimer" "sr" "I", Cond.methodLink RX0 68 yX0_linesAt, Cond.instanceMethod yX0_linesAt, Cond.selects RX0 yX0_linesAt yX0_linesAt]
def wsX0_until_r2 : List Cond := [Cond.code yX0_linesAt cX0_linesAt 4 (some .int), Cond.fieldLink RX0 19 "RetiredTimer" "entries" "I", Cond.fieldLink RX0 9 "RetiredTimer" "entryCounts" "[I", Cond.fieldLink RX0 13 "RetiredTimer" "entryLines" "[I", Cond.methodLink RX0 76 yX0_isInMask, Cond.instanceMethod yX0_isInMask, Cond.selects RX0 yX0_isInMask yX0_isInMask, Cond.code yX0_isInMask cX0_isInMask 2 (some .boolean), Cond.fieldLink RX0 51 "RetiredTimer" "mask" "I", Cond.methodLink RX0 79 yX0_distanceToTimer, Cond.instanceMethod yX0_distanceToTimer, Cond.selects RX0 yX0_distanceToTimer yX0_distanceToTimer, Cond.code yX0_distanceToTimer cX0_distanceToTimer 1 (some .long), Cond.fieldLink RX0 58 "RetiredTimer" "counting" "Z", Cond.constantLong RX0 94 (1099511627776), Cond.methodLink RX0 91 yX0_distanceToPeriod, Cond.instanceMethod yX0_distanceToPeriod, Cond.selects RX0 yX0_distanceToPeriod yX0_distanceToPeriod, Cond.code yX0_distanceToPeriod cX0_distanceToPeriod 3 (some .long), Cond.fieldLink RX0 55 "RetiredTimer" "period" "I", Cond.fieldLink RX0 65 "RetiredTimer" "count" "I", Cond.constantLong RX0 96 (4294967295), Cond.constantLong RX0 98 (4294967296), Cond.methodLink RX0 82 yX0_distanceToLines]
def wsX0_until_r3 : List Cond := [Cond.instanceMethod yX0_distanceToLines, Cond.selects RX0 yX0_distanceToLines yX0_distanceToLines, Cond.code yX0_distanceToLines cX0_distanceToLines 2 (some .long)]
def wsX0_until : List Cond := .code yX0_until cX0_until 3 (some .int) :: ((wsX0_until_r1 ++ (wsX0_until_r2 ++ wsX0_until_r3)) ++ wsX00)
def wsX0_entryOf : List Cond := .code yX0_entryOf cX0_entryOf 3 (some .int) :: ([.fieldLink RX0 19 "RetiredTimer" "entries" "I", .fieldLink RX0 13 "RetiredTimer" "entryLines" "[I", .fieldLink RX0 9 "RetiredTimer" "entryCounts" "[I"] ++ wsX00)
def wsX0_look_r1 : List Cond := [Cond.fieldLink RX0 28 "RetiredTimer" "retired" "I", Cond.fieldLink RX0 65 "RetiredTimer" "count" "I", Cond.fieldLink RX0 55 "RetiredTimer" "period" "I", Cond.fieldLink RX0 62 "RetiredTimer" "pending" "Z", Cond.fieldLink RX0 58 "RetiredTimer" "counting" "Z", Cond.fieldLink RX0 51 "RetiredTimer" "mask" "I", Cond.fieldLink RX0 42 "RetiredTimer" "sr" "I", Cond.fieldLink RX0 45 "RetiredTimer" "saved" "I", Cond.fieldLink RX0 48 "RetiredTimer" "taken" "I", Cond.fieldLink RX0 19 "RetiredTimer" "entries" "I", Cond.methodLink RX0 68 yX0_linesAt, Cond.instanceMethod yX0_linesAt, Cond.selects RX0 yX0_linesAt yX0_linesAt, Cond.initialized RX0, Cond.code yX0_linesAt cX0_linesAt 4 (some .int), Cond.fieldLink RX0 9 "RetiredTimer" "entryCounts" "[I", Cond.fieldLink RX0 13 "RetiredTimer" "entryLines" "[I", Cond.methodLink RX0 39 yX0_interruptDue, Cond.instanceMethod yX0_interruptDue, Cond.selects RX0 yX0_interruptDue yX0_interruptDue, Cond.code yX0_interruptDue cX0_interruptDue 1 (some .int), Cond.methodLink RX0 72 yX0_isOn, Cond.instanceMethod yX0_isOn, Cond.selects RX0 yX0_isOn yX0_isOn]
def wsX0_look_r2 : List Cond := [Cond.code yX0_isOn cX0_isOn 2 (some .boolean), Cond.methodLink RX0 76 yX0_isInMask, Cond.instanceMethod yX0_isInMask, Cond.selects RX0 yX0_isInMask yX0_isInMask, Cond.code yX0_isInMask cX0_isInMask 2 (some .boolean)]
def wsX0_look : List Cond := .code yX0_look cX0_look 2 (some .int) :: ((wsX0_look_r1 ++ wsX0_look_r2) ++ wsX00)
def wsX1_init : List Cond := .code yX1_init cX1_init 1 none :: ([.methodLink RX1 1 objectInit, .instanceMethod objectInit, .code objectInit ⟨#[0xb1]⟩ 1 none, .fieldLink RX1 7 "RetiredTimerModel" "sr" "I", .arrayClass .int, .fieldLink RX1 13 "RetiredTimerModel" "counts" "[I", .fieldLink RX1 17 "RetiredTimerModel" "values" "[I"] ++ wsX10)
def wsX1_goOn : List Cond := .code yX1_goOn cX1_goOn 1 none :: ([.fieldLink RX1 23 "RetiredTimerModel" "come" "I", .fieldLink RX1 26 "RetiredTimerModel" "entries" "I", .fieldLink RX1 13 "RetiredTimerModel" "counts" "[I", .fieldLink RX1 29 "RetiredTimerModel" "retired" "I"] ++ wsX10)
def wsX1_linesNow : List Cond := .code yX1_linesNow cX1_linesNow 1 (some .int) :: ([.fieldLink RX1 23 "RetiredTimerModel" "come" "I", .fieldLink RX1 17 "RetiredTimerModel" "values" "[I"] ++ wsX10)
def wsX1_due : List Cond := .code yX1_due cX1_due 1 (some .int) :: ([.fieldLink RX1 7 "RetiredTimerModel" "sr" "I", .fieldLink RX1 32 "RetiredTimerModel" "pending" "Z", .fieldLink RX1 40 "RetiredTimerModel" "mask" "I", .methodLink RX1 36 yX1_linesNow, .instanceMethod yX1_linesNow, .selects RX1 yX1_linesNow yX1_linesNow, .initialized RX1, .code yX1_linesNow cX1_linesNow 1 (some .int), .fieldLink RX1 23 "RetiredTimerModel" "come" "I", .fieldLink RX1 17 "RetiredTimerModel" "values" "[I"] ++ wsX10)
def wsX1_entry : List Cond := .code yX1_entry cX1_entry 3 (some .boolean) :: ([.fieldLink RX1 20 "RetiredTimerModel" "thrown" "I", .fieldLink RX1 26 "RetiredTimerModel" "entries" "I", .fieldLink RX1 13 "RetiredTimerModel" "counts" "[I", .fieldLink RX1 17 "RetiredTimerModel" "values" "[I", .methodLink RX1 43 yX1_goOn, .instanceMethod yX1_goOn, .selects RX1 yX1_goOn yX1_goOn, .initialized RX1, .code yX1_goOn cX1_goOn 1 none, .fieldLink RX1 23 "RetiredTimerModel" "come" "I", .fieldLink RX1 29 "RetiredTimerModel" "retired" "I"] ++ wsX10)
def wsX1_step : List Cond := .code yX1_step cX1_step 1 none :: ([.fieldLink RX1 29 "RetiredTimerModel" "retired" "I", .fieldLink RX1 46 "RetiredTimerModel" "counting" "Z", .fieldLink RX1 49 "RetiredTimerModel" "count" "I", .fieldLink RX1 52 "RetiredTimerModel" "period" "I", .fieldLink RX1 32 "RetiredTimerModel" "pending" "Z", .methodLink RX1 43 yX1_goOn, .instanceMethod yX1_goOn, .selects RX1 yX1_goOn yX1_goOn, .initialized RX1, .code yX1_goOn cX1_goOn 1 none, .fieldLink RX1 23 "RetiredTimerModel" "come" "I", .fieldLink RX1 26 "RetiredTimerModel" "entries" "I", .fieldLink RX1 13 "RetiredTimerModel" "counts" "[I"] ++ wsX10)
def wsX1_steps_r1 : List Cond := [Cond.fieldLink RX1 20 "RetiredTimerModel" "thrown" "I", Cond.fieldLink RX1 29 "RetiredTimerModel" "retired" "I", Cond.constant RX1 55 (2147483647), Cond.methodLink RX1 56 yX1_due, Cond.instanceMethod yX1_due, Cond.selects RX1 yX1_due yX1_due, Cond.initialized RX1, Cond.code yX1_due cX1_due 1 (some .int), Cond.fieldLink RX1 7 "RetiredTimerModel" "sr" "I", Cond.fieldLink RX1 32 "RetiredTimerModel" "pending" "Z", Cond.fieldLink RX1 40 "RetiredTimerModel" "mask" "I", Cond.methodLink RX1 36 yX1_linesNow, Cond.instanceMethod yX1_linesNow, Cond.selects RX1 yX1_linesNow yX1_linesNow, Cond.code yX1_linesNow cX1_linesNow 1 (some .int), Cond.fieldLink RX1 23 "RetiredTimerModel" "come" "I", Cond.fieldLink RX1 17 "RetiredTimerModel" "values" "[I", Cond.methodLink RX1 59 yX1_step, Cond.instanceMethod yX1_step, Cond.selects RX1 yX1_step yX1_step, Cond.code yX1_step cX1_step 1 none, Cond.fieldLink RX1 46 "RetiredTimerModel" "counting" "Z", Cond.fieldLink RX1 49 "RetiredTimerModel" "count" "I", Cond.fieldLink RX1 52 "RetiredTimerModel" "period" "I"]
def wsX1_steps_r2 : List Cond := [Cond.methodLink RX1 43 yX1_goOn, Cond.instanceMethod yX1_goOn, Cond.selects RX1 yX1_goOn yX1_goOn, Cond.code yX1_goOn cX1_goOn 1 none, Cond.fieldLink RX1 26 "RetiredTimerModel" "entries" "I", Cond.fieldLink RX1 13 "RetiredTimerModel" "counts" "[I"]
def wsX1_steps : List Cond := .code yX1_steps cX1_steps 3 (some .int) :: ((wsX1_steps_r1 ++ wsX1_steps_r2) ++ wsX10)
def wsX1_take : List Cond := .code yX1_take cX1_take 2 (some .int) :: ([.fieldLink RX1 20 "RetiredTimerModel" "thrown" "I", .fieldLink RX1 7 "RetiredTimerModel" "sr" "I", .fieldLink RX1 62 "RetiredTimerModel" "saved" "I", .fieldLink RX1 65 "RetiredTimerModel" "taken" "I", .methodLink RX1 56 yX1_due, .instanceMethod yX1_due, .selects RX1 yX1_due yX1_due, .initialized RX1, .code yX1_due cX1_due 1 (some .int), .fieldLink RX1 32 "RetiredTimerModel" "pending" "Z", .fieldLink RX1 40 "RetiredTimerModel" "mask" "I", .methodLink RX1 36 yX1_linesNow, .instanceMethod yX1_linesNow, .selects RX1 yX1_linesNow yX1_linesNow, .code yX1_linesNow cX1_linesNow 1 (some .int), .fieldLink RX1 23 "RetiredTimerModel" "come" "I", .fieldLink RX1 17 "RetiredTimerModel" "values" "[I"] ++ wsX10)
def wsX1_back : List Cond := .code yX1_back cX1_back 1 none :: ([.fieldLink RX1 20 "RetiredTimerModel" "thrown" "I", .fieldLink RX1 62 "RetiredTimerModel" "saved" "I", .fieldLink RX1 7 "RetiredTimerModel" "sr" "I"] ++ wsX10)
def wsJ9_min_f86c9 : List Cond := .code yJ9_min_f86c9 cJ9_min_f86c9 4 (some .long) :: ([])
def wsL_law_r1 : List Cond := [Cond.classLink RL 7 RX0, Cond.instantiable RX0 12, Cond.initialized RX0, Cond.classLink RL 10 RX1, Cond.instantiable RX1 14, Cond.initialized RX1, Cond.methodLink RL 9 yX0_init, Cond.instanceMethod yX0_init, Cond.code yX0_init cX0_init 1 none, Cond.methodLink RX0 3 objectInit, Cond.instanceMethod objectInit, Cond.code objectInit ⟨#[0xb1]⟩ 1 none, Cond.arrayClass .int, Cond.fieldLink RX0 9 "RetiredTimer" "entryCounts" "[I", Cond.fieldLink RX0 13 "RetiredTimer" "entryLines" "[I", Cond.methodLink RX0 16 yX0_setAllAsAtFirst, Cond.instanceMethod yX0_setAllAsAtFirst, Cond.selects RX0 yX0_setAllAsAtFirst yX0_setAllAsAtFirst, Cond.code yX0_setAllAsAtFirst cX0_setAllAsAtFirst 1 none, Cond.fieldLink RX0 19 "RetiredTimer" "entries" "I", Cond.fieldLink RX0 28 "RetiredTimer" "retired" "I", Cond.fieldLink RX0 65 "RetiredTimer" "count" "I", Cond.fieldLink RX0 55 "RetiredTimer" "period" "I", Cond.fieldLink RX0 58 "RetiredTimer" "counting" "Z"]
def wsL_law_r2 : List Cond := [Cond.fieldLink RX0 62 "RetiredTimer" "pending" "Z", Cond.fieldLink RX0 51 "RetiredTimer" "mask" "I", Cond.fieldLink RX0 42 "RetiredTimer" "sr" "I", Cond.fieldLink RX0 45 "RetiredTimer" "saved" "I", Cond.fieldLink RX0 48 "RetiredTimer" "taken" "I", Cond.methodLink RL 12 yX1_init, Cond.instanceMethod yX1_init, Cond.code yX1_init cX1_init 1 none, Cond.methodLink RX1 1 objectInit, Cond.fieldLink RX1 7 "RetiredTimerModel" "sr" "I", Cond.fieldLink RX1 13 "RetiredTimerModel" "counts" "[I", Cond.fieldLink RX1 17 "RetiredTimerModel" "values" "[I", Cond.methodLink RL 13 yX0_entry, Cond.instanceMethod yX0_entry, Cond.selects RX0 yX0_entry yX0_entry, Cond.code yX0_entry cX0_entry 3 (some .boolean), Cond.methodLink RX0 23 yX0_lastEntryCount, Cond.instanceMethod yX0_lastEntryCount, Cond.selects RX0 yX0_lastEntryCount yX0_lastEntryCount, Cond.code yX0_lastEntryCount cX0_lastEntryCount 1 (some .int), Cond.methodLink RL 17 yX1_entry, Cond.instanceMethod yX1_entry, Cond.selects RX1 yX1_entry yX1_entry, Cond.code yX1_entry cX1_entry 3 (some .boolean)]
def wsL_law_r3 : List Cond := [Cond.fieldLink RX1 20 "RetiredTimerModel" "thrown" "I", Cond.fieldLink RX1 26 "RetiredTimerModel" "entries" "I", Cond.methodLink RX1 43 yX1_goOn, Cond.instanceMethod yX1_goOn, Cond.selects RX1 yX1_goOn yX1_goOn, Cond.code yX1_goOn cX1_goOn 1 none, Cond.fieldLink RX1 23 "RetiredTimerModel" "come" "I", Cond.fieldLink RX1 29 "RetiredTimerModel" "retired" "I", Cond.methodLink RL 18 yX0_steps, Cond.instanceMethod yX0_steps, Cond.selects RX0 yX0_steps yX0_steps, Cond.code yX0_steps cX0_steps 5 (some .int), Cond.constant RX0 27 (2147483647), Cond.methodLink RX0 31 yX0_distanceToInterrupt, Cond.instanceMethod yX0_distanceToInterrupt, Cond.selects RX0 yX0_distanceToInterrupt yX0_distanceToInterrupt, Cond.code yX0_distanceToInterrupt cX0_distanceToInterrupt 1 (some .long), Cond.methodLink RX0 85 Lib.MathLoose.min_long.x, Cond.static Lib.MathLoose.min_long.x, Cond.initialized "java/lang/Math", Cond.code Lib.MathLoose.min_long.x Lib.MathLoose.min_long.code 4 (some .long), Cond.methodLink RX0 39 yX0_interruptDue, Cond.instanceMethod yX0_interruptDue, Cond.selects RX0 yX0_interruptDue yX0_interruptDue]
def wsL_law_r4 : List Cond := [Cond.code yX0_interruptDue cX0_interruptDue 1 (some .int), Cond.methodLink RX0 72 yX0_isOn, Cond.instanceMethod yX0_isOn, Cond.selects RX0 yX0_isOn yX0_isOn, Cond.code yX0_isOn cX0_isOn 2 (some .boolean), Cond.methodLink RX0 68 yX0_linesAt, Cond.instanceMethod yX0_linesAt, Cond.selects RX0 yX0_linesAt yX0_linesAt, Cond.code yX0_linesAt cX0_linesAt 4 (some .int), Cond.methodLink RX0 76 yX0_isInMask, Cond.instanceMethod yX0_isInMask, Cond.selects RX0 yX0_isInMask yX0_isInMask, Cond.code yX0_isInMask cX0_isInMask 2 (some .boolean), Cond.methodLink RX0 79 yX0_distanceToTimer, Cond.instanceMethod yX0_distanceToTimer, Cond.selects RX0 yX0_distanceToTimer yX0_distanceToTimer, Cond.code yX0_distanceToTimer cX0_distanceToTimer 1 (some .long), Cond.constantLong RX0 94 (1099511627776), Cond.methodLink RX0 91 yX0_distanceToPeriod, Cond.instanceMethod yX0_distanceToPeriod, Cond.selects RX0 yX0_distanceToPeriod yX0_distanceToPeriod, Cond.code yX0_distanceToPeriod cX0_distanceToPeriod 3 (some .long), Cond.constantLong RX0 96 (4294967295), Cond.constantLong RX0 98 (4294967296)]
def wsL_law_r5 : List Cond := [Cond.methodLink RX0 82 yX0_distanceToLines, Cond.instanceMethod yX0_distanceToLines, Cond.selects RX0 yX0_distanceToLines yX0_distanceToLines, Cond.code yX0_distanceToLines cX0_distanceToLines 2 (some .long), Cond.methodLink RX0 35 yX0_advance, Cond.instanceMethod yX0_advance, Cond.selects RX0 yX0_advance yX0_advance, Cond.code yX0_advance cX0_advance 2 none, Cond.methodLink RX0 100 yX0_advanceCount, Cond.instanceMethod yX0_advanceCount, Cond.selects RX0 yX0_advanceCount yX0_advanceCount, Cond.code yX0_advanceCount cX0_advanceCount 5 none, Cond.methodLink RL 22 yX1_steps, Cond.instanceMethod yX1_steps, Cond.selects RX1 yX1_steps yX1_steps, Cond.code yX1_steps cX1_steps 3 (some .int), Cond.constant RX1 55 (2147483647), Cond.methodLink RX1 56 yX1_due, Cond.instanceMethod yX1_due, Cond.selects RX1 yX1_due yX1_due, Cond.code yX1_due cX1_due 1 (some .int), Cond.fieldLink RX1 32 "RetiredTimerModel" "pending" "Z", Cond.fieldLink RX1 40 "RetiredTimerModel" "mask" "I", Cond.methodLink RX1 36 yX1_linesNow]
def wsL_law_r6 : List Cond := [Cond.instanceMethod yX1_linesNow, Cond.selects RX1 yX1_linesNow yX1_linesNow, Cond.code yX1_linesNow cX1_linesNow 1 (some .int), Cond.methodLink RX1 59 yX1_step, Cond.instanceMethod yX1_step, Cond.selects RX1 yX1_step yX1_step, Cond.code yX1_step cX1_step 1 none, Cond.fieldLink RX1 46 "RetiredTimerModel" "counting" "Z", Cond.fieldLink RX1 49 "RetiredTimerModel" "count" "I", Cond.fieldLink RX1 52 "RetiredTimerModel" "period" "I", Cond.methodLink RL 23 yX0_take, Cond.instanceMethod yX0_take, Cond.selects RX0 yX0_take yX0_take, Cond.code yX0_take cX0_take 2 (some .int), Cond.methodLink RL 27 yX1_take, Cond.instanceMethod yX1_take, Cond.selects RX1 yX1_take yX1_take, Cond.code yX1_take cX1_take 2 (some .int), Cond.fieldLink RX1 62 "RetiredTimerModel" "saved" "I", Cond.fieldLink RX1 65 "RetiredTimerModel" "taken" "I", Cond.methodLink RL 28 yX0_back, Cond.instanceMethod yX0_back, Cond.selects RX0 yX0_back yX0_back, Cond.code yX0_back cX0_back 1 none]
def wsL_law_r7 : List Cond := [Cond.methodLink RL 31 yX1_back, Cond.instanceMethod yX1_back, Cond.selects RX1 yX1_back yX1_back, Cond.code yX1_back cX1_back 1 none, Cond.methodLink RL 32 yX0_mode, Cond.instanceMethod yX0_mode, Cond.selects RX0 yX0_mode yX0_mode, Cond.code yX0_mode cX0_mode 2 none, Cond.methodLink RL 37 yX0_mask, Cond.instanceMethod yX0_mask, Cond.selects RX0 yX0_mask yX0_mask, Cond.code yX0_mask cX0_mask 2 none, Cond.methodLink RL 41 yX0_timer, Cond.instanceMethod yX0_timer, Cond.selects RX0 yX0_timer yX0_timer, Cond.code yX0_timer cX0_timer 4 none, Cond.constant RX0 54 (268435455), Cond.methodLink RL 46 yX0_count, Cond.instanceMethod yX0_count, Cond.selects RX0 yX0_count yX0_count, Cond.code yX0_count cX0_count 2 none, Cond.methodLink RL 50 yX0_reset, Cond.instanceMethod yX0_reset, Cond.selects RX0 yX0_reset yX0_reset]
def wsL_law_r8 : List Cond := [Cond.code yX0_reset cX0_reset 1 none, Cond.methodLink RL 54 yX0_until, Cond.instanceMethod yX0_until, Cond.selects RX0 yX0_until yX0_until, Cond.code yX0_until cX0_until 3 (some .int), Cond.methodLink RL 58 yX0_linesAt, Cond.methodLink RL 62 yX0_entryOf, Cond.instanceMethod yX0_entryOf, Cond.selects RX0 yX0_entryOf yX0_entryOf, Cond.code yX0_entryOf cX0_entryOf 3 (some .int), Cond.methodLink RL 67 yX0_look, Cond.instanceMethod yX0_look, Cond.selects RX0 yX0_look yX0_look, Cond.code yX0_look cX0_look 2 (some .int)]
def wsL_law : List Cond := (wsL_law_r1 ++ (wsL_law_r2 ++ (wsL_law_r3 ++ (wsL_law_r4 ++ (wsL_law_r5 ++ (wsL_law_r6 ++ (wsL_law_r7 ++ wsL_law_r8))))))) ++ wsX00 ++ wsX10 ++ ([] : List Cond)
set_option maxRecDepth 20000 in
theorem wsL_law_in : ∀ w ∈ wsL_law, w ∈ lw_tbl := fun w h => (goodIn_p wsL_law [23, 26, 30, 174, 72, 76, 222, 226, 80, 85, 119, 89, 93, 97, 101, 105, 109, 116, 123, 127, 230, 235, 239, 243, 131, 247, 135, 251, 139, 143, 147, 152, 156, 160, 165, 169] (by decide +kernel) (by decide +kernel) w h).1
theorem inlX0 : ∀ w ∈ wsX00, w ∈ wsL_law := fun _ h => List.mem_append_left _ (List.mem_append_left _ (List.mem_append_right _ h))
theorem inX0 : ∀ w ∈ wsX00, w ∈ lw_tbl := fun w h => wsL_law_in w (inlX0 w h)
theorem inlX1 : ∀ w ∈ wsX10, w ∈ wsL_law := fun _ h => List.mem_append_left _ (List.mem_append_right _ h)
theorem inX1 : ∀ w ∈ wsX10, w ∈ lw_tbl := fun w h => wsL_law_in w (inlX1 w h)
theorem inJ9 : ∀ w ∈ wsJ90, w ∈ lw_tbl := by decide +kernel
set_option maxRecDepth 20000 in
theorem ggX0_init_X0_setAllAsAtFirst : GoodIn wsX0_init wsX0_setAllAsAtFirst := goodIn_r _ [11, 12, 13, 14, 15, 16, 17, 18, 19, 20, 21, 22, 23, 24, 25, 26, 27, 28, 29, 30, 31, 32, 33] (by decide +kernel) (by decide +kernel)
set_option maxRecDepth 20000 in
theorem gX0_init_X0_setAllAsAtFirst : GoodIn wsX0_init (wsV RX0 16 RX0 yX0_setAllAsAtFirst wsX0_setAllAsAtFirst) := goodIn_app (goodIn_of _ (by decide +kernel)) ggX0_init_X0_setAllAsAtFirst
theorem dX0_init_0 : decode cX0_init 0 = .ok (.aload_n 0, 1) := by decide +kernel
theorem dX0_init_1 : decode cX0_init 1 = .ok (.invokespecial 3, 3) := by decide +kernel
theorem dX0_init_4 : decode cX0_init 4 = .ok (.aload_n 0, 1) := by decide +kernel
theorem dX0_init_5 : decode cX0_init 5 = .ok (.bipush 32, 2) := by decide +kernel
theorem dX0_init_7 : decode cX0_init 7 = .ok (.newarray .int, 2) := by decide +kernel
theorem dX0_init_9 : decode cX0_init 9 = .ok (.putfield 9, 3) := by decide +kernel
theorem dX0_init_12 : decode cX0_init 12 = .ok (.aload_n 0, 1) := by decide +kernel
theorem dX0_init_13 : decode cX0_init 13 = .ok (.bipush 32, 2) := by decide +kernel
theorem dX0_init_15 : decode cX0_init 15 = .ok (.newarray .int, 2) := by decide +kernel
theorem dX0_init_17 : decode cX0_init 17 = .ok (.putfield 13, 3) := by decide +kernel
theorem dX0_init_20 : decode cX0_init 20 = .ok (.aload_n 0, 1) := by decide +kernel
theorem dX0_init_21 : decode cX0_init 21 = .ok (.invokevirtual 16, 3) := by decide +kernel
theorem dX0_init_24 : decode cX0_init 24 = .ok (.return_, 1) := by decide +kernel
set_option maxRecDepth 20000 in
theorem ggX0_entry_X0_lastEntryCount : GoodIn wsX0_entry wsX0_lastEntryCount := goodIn_r _ [8, 1, 2, 9, 10, 11, 12, 13, 14, 15, 16, 17, 18, 19, 20] (by decide +kernel) (by decide +kernel)
set_option maxRecDepth 20000 in
theorem gX0_entry_X0_lastEntryCount : GoodIn wsX0_entry (wsV RX0 23 RX0 yX0_lastEntryCount wsX0_lastEntryCount) := goodIn_app (goodIn_of _ (by decide +kernel)) ggX0_entry_X0_lastEntryCount
theorem dX0_entry_0 : decode cX0_entry 0 = .ok (.aload_n 0, 1) := by decide +kernel
theorem dX0_entry_1 : decode cX0_entry 1 = .ok (.getfield 19, 3) := by decide +kernel
theorem dX0_entry_4 : decode cX0_entry 4 = .ok (.bipush 32, 2) := by decide +kernel
theorem dX0_entry_6 : decode cX0_entry 6 = .ok (.if_icmp .ge 11, 3) := by decide +kernel
theorem dX0_entry_9 : decode cX0_entry 9 = .ok (.iload_n 1, 1) := by decide +kernel
theorem dX0_entry_10 : decode cX0_entry 10 = .ok (.aload_n 0, 1) := by decide +kernel
theorem dX0_entry_11 : decode cX0_entry 11 = .ok (.invokevirtual 23, 3) := by decide +kernel
theorem dX0_entry_14 : decode cX0_entry 14 = .ok (.if_icmp .gt 5, 3) := by decide +kernel
theorem dX0_entry_17 : decode cX0_entry 17 = .ok (.iconst 0, 1) := by decide +kernel
theorem dX0_entry_18 : decode cX0_entry 18 = .ok (.ireturn, 1) := by decide +kernel
theorem dX0_entry_19 : decode cX0_entry 19 = .ok (.aload_n 0, 1) := by decide +kernel
theorem dX0_entry_20 : decode cX0_entry 20 = .ok (.getfield 9, 3) := by decide +kernel
theorem dX0_entry_23 : decode cX0_entry 23 = .ok (.aload_n 0, 1) := by decide +kernel
theorem dX0_entry_24 : decode cX0_entry 24 = .ok (.getfield 19, 3) := by decide +kernel
theorem dX0_entry_27 : decode cX0_entry 27 = .ok (.iload_n 1, 1) := by decide +kernel
theorem dX0_entry_28 : decode cX0_entry 28 = .ok (.iastore, 1) := by decide +kernel
theorem dX0_entry_29 : decode cX0_entry 29 = .ok (.aload_n 0, 1) := by decide +kernel
theorem dX0_entry_30 : decode cX0_entry 30 = .ok (.getfield 13, 3) := by decide +kernel
theorem dX0_entry_33 : decode cX0_entry 33 = .ok (.aload_n 0, 1) := by decide +kernel
theorem dX0_entry_34 : decode cX0_entry 34 = .ok (.getfield 19, 3) := by decide +kernel
theorem dX0_entry_37 : decode cX0_entry 37 = .ok (.iload_n 2, 1) := by decide +kernel
theorem dX0_entry_38 : decode cX0_entry 38 = .ok (.iastore, 1) := by decide +kernel
theorem dX0_entry_39 : decode cX0_entry 39 = .ok (.aload_n 0, 1) := by decide +kernel
theorem dX0_entry_40 : decode cX0_entry 40 = .ok (.dup, 1) := by decide +kernel
theorem dX0_entry_41 : decode cX0_entry 41 = .ok (.getfield 19, 3) := by decide +kernel
theorem dX0_entry_44 : decode cX0_entry 44 = .ok (.iconst 1, 1) := by decide +kernel
theorem dX0_entry_45 : decode cX0_entry 45 = .ok (.iadd, 1) := by decide +kernel
theorem dX0_entry_46 : decode cX0_entry 46 = .ok (.putfield 19, 3) := by decide +kernel
theorem dX0_entry_49 : decode cX0_entry 49 = .ok (.iconst 1, 1) := by decide +kernel
theorem dX0_entry_50 : decode cX0_entry 50 = .ok (.ireturn, 1) := by decide +kernel
set_option maxRecDepth 20000 in
theorem ggX0_steps_X0_distanceToInterrupt : GoodIn wsX0_steps wsX0_distanceToInterrupt := goodIn_r _ [7, 8, 9, 10, 11, 12, 13, 14, 6, 15, 16, 2, 17, 18, 19, 20, 21, 22, 23, 24, 25, 26, 27, 28, 29, 30, 31, 32, 33, 34, 35, 36, 37, 38, 39, 40, 41, 42, 43, 44, 45, 46, 47, 48, 49, 50, 51, 60, 61, 62, 63, 64, 65, 66, 67, 68, 69, 70, 71] (by decide +kernel) (by decide +kernel)
set_option maxRecDepth 20000 in
theorem gX0_steps_X0_distanceToInterrupt : GoodIn wsX0_steps (wsV RX0 31 RX0 yX0_distanceToInterrupt wsX0_distanceToInterrupt) := goodIn_app (goodIn_of _ (by decide +kernel)) ggX0_steps_X0_distanceToInterrupt
set_option maxRecDepth 20000 in
theorem ggX0_steps_X0_advance : GoodIn wsX0_steps wsX0_advance := goodIn_r _ [55, 2, 38, 56, 57, 58, 6, 59, 45, 16, 44, 40, 41, 42, 43, 46, 47, 60, 61, 62, 63, 64, 65, 66, 67, 68, 69, 70, 71] (by decide +kernel) (by decide +kernel)
set_option maxRecDepth 20000 in
theorem gX0_steps_X0_advance : GoodIn wsX0_steps (wsV RX0 35 RX0 yX0_advance wsX0_advance) := goodIn_app (goodIn_of _ (by decide +kernel)) ggX0_steps_X0_advance
theorem dX0_steps_0 : decode cX0_steps 0 = .ok (.iload_n 1, 1) := by decide +kernel
theorem dX0_steps_1 : decode cX0_steps 1 = .ok (.iconst 1, 1) := by decide +kernel
theorem dX0_steps_2 : decode cX0_steps 2 = .ok (.if_icmp .lt 21, 3) := by decide +kernel
theorem dX0_steps_5 : decode cX0_steps 5 = .ok (.iload_n 1, 1) := by decide +kernel
theorem dX0_steps_6 : decode cX0_steps 6 = .ok (.sipush 20000, 3) := by decide +kernel
theorem dX0_steps_9 : decode cX0_steps 9 = .ok (.if_icmp .gt 14, 3) := by decide +kernel
theorem dX0_steps_12 : decode cX0_steps 12 = .ok (.iload_n 1, 1) := by decide +kernel
theorem dX0_steps_13 : decode cX0_steps 13 = .ok (.ldc 27, 2) := by decide +kernel
theorem dX0_steps_15 : decode cX0_steps 15 = .ok (.aload_n 0, 1) := by decide +kernel
theorem dX0_steps_16 : decode cX0_steps 16 = .ok (.getfield 28, 3) := by decide +kernel
theorem dX0_steps_19 : decode cX0_steps 19 = .ok (.isub, 1) := by decide +kernel
theorem dX0_steps_20 : decode cX0_steps 20 = .ok (.if_icmp .le 5, 3) := by decide +kernel
theorem dX0_steps_23 : decode cX0_steps 23 = .ok (.iconst (-1), 1) := by decide +kernel
theorem dX0_steps_24 : decode cX0_steps 24 = .ok (.ireturn, 1) := by decide +kernel
theorem dX0_steps_25 : decode cX0_steps 25 = .ok (.aload_n 0, 1) := by decide +kernel
theorem dX0_steps_26 : decode cX0_steps 26 = .ok (.invokevirtual 31, 3) := by decide +kernel
theorem dX0_steps_29 : decode cX0_steps 29 = .ok (.lstore_n 2, 1) := by decide +kernel
theorem dX0_steps_30 : decode cX0_steps 30 = .ok (.lload_n 2, 1) := by decide +kernel
theorem dX0_steps_31 : decode cX0_steps 31 = .ok (.iload_n 1, 1) := by decide +kernel
theorem dX0_steps_32 : decode cX0_steps 32 = .ok (.i2l, 1) := by decide +kernel
theorem dX0_steps_33 : decode cX0_steps 33 = .ok (.lcmp, 1) := by decide +kernel
theorem dX0_steps_34 : decode cX0_steps 34 = .ok (.ifCond .ge 8, 3) := by decide +kernel
theorem dX0_steps_37 : decode cX0_steps 37 = .ok (.lload_n 2, 1) := by decide +kernel
theorem dX0_steps_38 : decode cX0_steps 38 = .ok (.l2i, 1) := by decide +kernel
theorem dX0_steps_39 : decode cX0_steps 39 = .ok (.goto 4, 3) := by decide +kernel
theorem dX0_steps_42 : decode cX0_steps 42 = .ok (.iload_n 1, 1) := by decide +kernel
theorem dX0_steps_43 : decode cX0_steps 43 = .ok (.istore 4, 2) := by decide +kernel
theorem dX0_steps_45 : decode cX0_steps 45 = .ok (.aload_n 0, 1) := by decide +kernel
theorem dX0_steps_46 : decode cX0_steps 46 = .ok (.iload 4, 2) := by decide +kernel
theorem dX0_steps_48 : decode cX0_steps 48 = .ok (.invokevirtual 35, 3) := by decide +kernel
theorem dX0_steps_51 : decode cX0_steps 51 = .ok (.iload 4, 2) := by decide +kernel
theorem dX0_steps_53 : decode cX0_steps 53 = .ok (.ireturn, 1) := by decide +kernel
set_option maxRecDepth 20000 in
theorem ggX0_take_X0_interruptDue : GoodIn wsX0_take wsX0_interruptDue := goodIn_r _ [8, 9, 10, 11, 12, 13, 7, 14, 1, 15, 16, 17, 18, 19, 20, 21, 22, 23, 24, 25, 26, 27, 28, 29, 30, 31, 32, 33, 34, 35, 36, 37, 38] (by decide +kernel) (by decide +kernel)
set_option maxRecDepth 20000 in
theorem gX0_take_X0_interruptDue : GoodIn wsX0_take (wsV RX0 39 RX0 yX0_interruptDue wsX0_interruptDue) := goodIn_app (goodIn_of _ (by decide +kernel)) ggX0_take_X0_interruptDue
theorem dX0_take_0 : decode cX0_take 0 = .ok (.aload_n 0, 1) := by decide +kernel
theorem dX0_take_1 : decode cX0_take 1 = .ok (.invokevirtual 39, 3) := by decide +kernel
theorem dX0_take_4 : decode cX0_take 4 = .ok (.istore_n 1, 1) := by decide +kernel
theorem dX0_take_5 : decode cX0_take 5 = .ok (.iload_n 1, 1) := by decide +kernel
theorem dX0_take_6 : decode cX0_take 6 = .ok (.ifCond .eq 34, 3) := by decide +kernel
theorem dX0_take_9 : decode cX0_take 9 = .ok (.aload_n 0, 1) := by decide +kernel
theorem dX0_take_10 : decode cX0_take 10 = .ok (.aload_n 0, 1) := by decide +kernel
theorem dX0_take_11 : decode cX0_take 11 = .ok (.getfield 42, 3) := by decide +kernel
theorem dX0_take_14 : decode cX0_take 14 = .ok (.putfield 45, 3) := by decide +kernel
theorem dX0_take_17 : decode cX0_take 17 = .ok (.aload_n 0, 1) := by decide +kernel
theorem dX0_take_18 : decode cX0_take 18 = .ok (.aload_n 0, 1) := by decide +kernel
theorem dX0_take_19 : decode cX0_take 19 = .ok (.getfield 42, 3) := by decide +kernel
theorem dX0_take_22 : decode cX0_take 22 = .ok (.bipush 32, 2) := by decide +kernel
theorem dX0_take_24 : decode cX0_take 24 = .ok (.iand, 1) := by decide +kernel
theorem dX0_take_25 : decode cX0_take 25 = .ok (.iconst 1, 1) := by decide +kernel
theorem dX0_take_26 : decode cX0_take 26 = .ok (.ior, 1) := by decide +kernel
theorem dX0_take_27 : decode cX0_take 27 = .ok (.putfield 42, 3) := by decide +kernel
theorem dX0_take_30 : decode cX0_take 30 = .ok (.aload_n 0, 1) := by decide +kernel
theorem dX0_take_31 : decode cX0_take 31 = .ok (.dup, 1) := by decide +kernel
theorem dX0_take_32 : decode cX0_take 32 = .ok (.getfield 48, 3) := by decide +kernel
theorem dX0_take_35 : decode cX0_take 35 = .ok (.iconst 1, 1) := by decide +kernel
theorem dX0_take_36 : decode cX0_take 36 = .ok (.iadd, 1) := by decide +kernel
theorem dX0_take_37 : decode cX0_take 37 = .ok (.putfield 48, 3) := by decide +kernel
theorem dX0_take_40 : decode cX0_take 40 = .ok (.iload_n 1, 1) := by decide +kernel
theorem dX0_take_41 : decode cX0_take 41 = .ok (.ireturn, 1) := by decide +kernel
theorem dX0_back_0 : decode cX0_back 0 = .ok (.aload_n 0, 1) := by decide +kernel
theorem dX0_back_1 : decode cX0_back 1 = .ok (.aload_n 0, 1) := by decide +kernel
theorem dX0_back_2 : decode cX0_back 2 = .ok (.getfield 45, 3) := by decide +kernel
theorem dX0_back_5 : decode cX0_back 5 = .ok (.putfield 42, 3) := by decide +kernel
theorem dX0_back_8 : decode cX0_back 8 = .ok (.return_, 1) := by decide +kernel
theorem dX0_mode_0 : decode cX0_mode 0 = .ok (.aload_n 0, 1) := by decide +kernel
theorem dX0_mode_1 : decode cX0_mode 1 = .ok (.iload_n 1, 1) := by decide +kernel
theorem dX0_mode_2 : decode cX0_mode 2 = .ok (.bipush 39, 2) := by decide +kernel
theorem dX0_mode_4 : decode cX0_mode 4 = .ok (.iand, 1) := by decide +kernel
theorem dX0_mode_5 : decode cX0_mode 5 = .ok (.putfield 42, 3) := by decide +kernel
theorem dX0_mode_8 : decode cX0_mode 8 = .ok (.return_, 1) := by decide +kernel
theorem dX0_mask_0 : decode cX0_mask 0 = .ok (.aload_n 0, 1) := by decide +kernel
theorem dX0_mask_1 : decode cX0_mask 1 = .ok (.iload_n 1, 1) := by decide +kernel
theorem dX0_mask_2 : decode cX0_mask 2 = .ok (.putfield 51, 3) := by decide +kernel
theorem dX0_mask_5 : decode cX0_mask 5 = .ok (.return_, 1) := by decide +kernel
theorem dX0_timer_0 : decode cX0_timer 0 = .ok (.aload_n 0, 1) := by decide +kernel
theorem dX0_timer_1 : decode cX0_timer 1 = .ok (.iload_n 1, 1) := by decide +kernel
theorem dX0_timer_2 : decode cX0_timer 2 = .ok (.ldc 54, 2) := by decide +kernel
theorem dX0_timer_4 : decode cX0_timer 4 = .ok (.iand, 1) := by decide +kernel
theorem dX0_timer_5 : decode cX0_timer 5 = .ok (.putfield 55, 3) := by decide +kernel
theorem dX0_timer_8 : decode cX0_timer 8 = .ok (.aload_n 0, 1) := by decide +kernel
theorem dX0_timer_9 : decode cX0_timer 9 = .ok (.iload_n 2, 1) := by decide +kernel
theorem dX0_timer_10 : decode cX0_timer 10 = .ok (.putfield 58, 3) := by decide +kernel
theorem dX0_timer_13 : decode cX0_timer 13 = .ok (.aload_n 0, 1) := by decide +kernel
theorem dX0_timer_14 : decode cX0_timer 14 = .ok (.iload_n 3, 1) := by decide +kernel
theorem dX0_timer_15 : decode cX0_timer 15 = .ok (.putfield 62, 3) := by decide +kernel
theorem dX0_timer_18 : decode cX0_timer 18 = .ok (.return_, 1) := by decide +kernel
theorem dX0_count_0 : decode cX0_count 0 = .ok (.aload_n 0, 1) := by decide +kernel
theorem dX0_count_1 : decode cX0_count 1 = .ok (.iload_n 1, 1) := by decide +kernel
theorem dX0_count_2 : decode cX0_count 2 = .ok (.putfield 65, 3) := by decide +kernel
theorem dX0_count_5 : decode cX0_count 5 = .ok (.return_, 1) := by decide +kernel
set_option maxRecDepth 20000 in
theorem ggX0_reset_X0_setAllAsAtFirst : GoodIn wsX0_reset wsX0_setAllAsAtFirst := goodIn_r _ [5, 6, 7, 8, 9, 10, 11, 12, 13, 14, 15, 16, 17, 18, 19, 20, 21, 22, 23, 24, 25, 26, 27] (by decide +kernel) (by decide +kernel)
set_option maxRecDepth 20000 in
theorem gX0_reset_X0_setAllAsAtFirst : GoodIn wsX0_reset (wsV RX0 16 RX0 yX0_setAllAsAtFirst wsX0_setAllAsAtFirst) := goodIn_app (goodIn_of _ (by decide +kernel)) ggX0_reset_X0_setAllAsAtFirst
theorem dX0_reset_0 : decode cX0_reset 0 = .ok (.aload_n 0, 1) := by decide +kernel
theorem dX0_reset_1 : decode cX0_reset 1 = .ok (.invokevirtual 16, 3) := by decide +kernel
theorem dX0_reset_4 : decode cX0_reset 4 = .ok (.return_, 1) := by decide +kernel
set_option maxRecDepth 20000 in
theorem ggX0_until_X0_distanceToInterrupt : GoodIn wsX0_until wsX0_distanceToInterrupt := goodIn_r _ [7, 8, 9, 10, 11, 12, 13, 14, 6, 15, 16, 2, 17, 18, 19, 20, 21, 22, 23, 24, 25, 26, 27, 28, 29, 30, 31, 32, 33, 34, 35, 36, 37, 38, 39, 40, 41, 42, 43, 44, 45, 46, 47, 48, 49, 50, 51, 52, 53, 54, 55, 56, 57, 58, 59, 60, 61, 62, 63] (by decide +kernel) (by decide +kernel)
set_option maxRecDepth 20000 in
theorem gX0_until_X0_distanceToInterrupt : GoodIn wsX0_until (wsV RX0 31 RX0 yX0_distanceToInterrupt wsX0_distanceToInterrupt) := goodIn_app (goodIn_of _ (by decide +kernel)) ggX0_until_X0_distanceToInterrupt
theorem dX0_until_0 : decode cX0_until 0 = .ok (.aload_n 0, 1) := by decide +kernel
theorem dX0_until_1 : decode cX0_until 1 = .ok (.invokevirtual 31, 3) := by decide +kernel
theorem dX0_until_4 : decode cX0_until 4 = .ok (.lstore_n 1, 1) := by decide +kernel
theorem dX0_until_5 : decode cX0_until 5 = .ok (.lload_n 1, 1) := by decide +kernel
theorem dX0_until_6 : decode cX0_until 6 = .ok (.ldc 27, 2) := by decide +kernel
theorem dX0_until_8 : decode cX0_until 8 = .ok (.aload_n 0, 1) := by decide +kernel
theorem dX0_until_9 : decode cX0_until 9 = .ok (.getfield 28, 3) := by decide +kernel
theorem dX0_until_12 : decode cX0_until 12 = .ok (.isub, 1) := by decide +kernel
theorem dX0_until_13 : decode cX0_until 13 = .ok (.i2l, 1) := by decide +kernel
theorem dX0_until_14 : decode cX0_until 14 = .ok (.lcmp, 1) := by decide +kernel
theorem dX0_until_15 : decode cX0_until 15 = .ok (.ifCond .gt 8, 3) := by decide +kernel
theorem dX0_until_18 : decode cX0_until 18 = .ok (.lload_n 1, 1) := by decide +kernel
theorem dX0_until_19 : decode cX0_until 19 = .ok (.l2i, 1) := by decide +kernel
theorem dX0_until_20 : decode cX0_until 20 = .ok (.goto 4, 3) := by decide +kernel
theorem dX0_until_23 : decode cX0_until 23 = .ok (.iconst (-1), 1) := by decide +kernel
theorem dX0_until_24 : decode cX0_until 24 = .ok (.ireturn, 1) := by decide +kernel
theorem dX0_linesAt_0 : decode cX0_linesAt 0 = .ok (.iconst 0, 1) := by decide +kernel
theorem dX0_linesAt_1 : decode cX0_linesAt 1 = .ok (.istore_n 2, 1) := by decide +kernel
theorem dX0_linesAt_2 : decode cX0_linesAt 2 = .ok (.iconst 0, 1) := by decide +kernel
theorem dX0_linesAt_3 : decode cX0_linesAt 3 = .ok (.istore_n 3, 1) := by decide +kernel
theorem dX0_linesAt_4 : decode cX0_linesAt 4 = .ok (.iload_n 3, 1) := by decide +kernel
theorem dX0_linesAt_5 : decode cX0_linesAt 5 = .ok (.aload_n 0, 1) := by decide +kernel
theorem dX0_linesAt_6 : decode cX0_linesAt 6 = .ok (.getfield 19, 3) := by decide +kernel
theorem dX0_linesAt_9 : decode cX0_linesAt 9 = .ok (.if_icmp .ge 32, 3) := by decide +kernel
theorem dX0_linesAt_12 : decode cX0_linesAt 12 = .ok (.iload_n 3, 1) := by decide +kernel
theorem dX0_linesAt_13 : decode cX0_linesAt 13 = .ok (.bipush 32, 2) := by decide +kernel
theorem dX0_linesAt_15 : decode cX0_linesAt 15 = .ok (.if_icmp .ge 26, 3) := by decide +kernel
theorem dX0_linesAt_18 : decode cX0_linesAt 18 = .ok (.aload_n 0, 1) := by decide +kernel
theorem dX0_linesAt_19 : decode cX0_linesAt 19 = .ok (.getfield 9, 3) := by decide +kernel
theorem dX0_linesAt_22 : decode cX0_linesAt 22 = .ok (.iload_n 3, 1) := by decide +kernel
theorem dX0_linesAt_23 : decode cX0_linesAt 23 = .ok (.iaload, 1) := by decide +kernel
theorem dX0_linesAt_24 : decode cX0_linesAt 24 = .ok (.iload_n 1, 1) := by decide +kernel
theorem dX0_linesAt_25 : decode cX0_linesAt 25 = .ok (.if_icmp .gt 10, 3) := by decide +kernel
theorem dX0_linesAt_28 : decode cX0_linesAt 28 = .ok (.aload_n 0, 1) := by decide +kernel
theorem dX0_linesAt_29 : decode cX0_linesAt 29 = .ok (.getfield 13, 3) := by decide +kernel
theorem dX0_linesAt_32 : decode cX0_linesAt 32 = .ok (.iload_n 3, 1) := by decide +kernel
theorem dX0_linesAt_33 : decode cX0_linesAt 33 = .ok (.iaload, 1) := by decide +kernel
theorem dX0_linesAt_34 : decode cX0_linesAt 34 = .ok (.istore_n 2, 1) := by decide +kernel
theorem dX0_linesAt_35 : decode cX0_linesAt 35 = .ok (.iinc 3 1, 3) := by decide +kernel
theorem dX0_linesAt_38 : decode cX0_linesAt 38 = .ok (.goto (-34), 3) := by decide +kernel
theorem dX0_linesAt_41 : decode cX0_linesAt 41 = .ok (.iload_n 2, 1) := by decide +kernel
theorem dX0_linesAt_42 : decode cX0_linesAt 42 = .ok (.ireturn, 1) := by decide +kernel
theorem dX0_entryOf_0 : decode cX0_entryOf 0 = .ok (.iload_n 1, 1) := by decide +kernel
theorem dX0_entryOf_1 : decode cX0_entryOf 1 = .ok (.ifCond .lt 17, 3) := by decide +kernel
theorem dX0_entryOf_4 : decode cX0_entryOf 4 = .ok (.iload_n 1, 1) := by decide +kernel
theorem dX0_entryOf_5 : decode cX0_entryOf 5 = .ok (.aload_n 0, 1) := by decide +kernel
theorem dX0_entryOf_6 : decode cX0_entryOf 6 = .ok (.getfield 19, 3) := by decide +kernel
theorem dX0_entryOf_9 : decode cX0_entryOf 9 = .ok (.if_icmp .ge 9, 3) := by decide +kernel
theorem dX0_entryOf_12 : decode cX0_entryOf 12 = .ok (.iload_n 1, 1) := by decide +kernel
theorem dX0_entryOf_13 : decode cX0_entryOf 13 = .ok (.bipush 32, 2) := by decide +kernel
theorem dX0_entryOf_15 : decode cX0_entryOf 15 = .ok (.if_icmp .lt 5, 3) := by decide +kernel
theorem dX0_entryOf_18 : decode cX0_entryOf 18 = .ok (.iconst (-1), 1) := by decide +kernel
theorem dX0_entryOf_19 : decode cX0_entryOf 19 = .ok (.ireturn, 1) := by decide +kernel
theorem dX0_entryOf_20 : decode cX0_entryOf 20 = .ok (.iload_n 2, 1) := by decide +kernel
theorem dX0_entryOf_21 : decode cX0_entryOf 21 = .ok (.ifCond .eq 12, 3) := by decide +kernel
theorem dX0_entryOf_24 : decode cX0_entryOf 24 = .ok (.aload_n 0, 1) := by decide +kernel
theorem dX0_entryOf_25 : decode cX0_entryOf 25 = .ok (.getfield 13, 3) := by decide +kernel
theorem dX0_entryOf_28 : decode cX0_entryOf 28 = .ok (.iload_n 1, 1) := by decide +kernel
theorem dX0_entryOf_29 : decode cX0_entryOf 29 = .ok (.iaload, 1) := by decide +kernel
theorem dX0_entryOf_30 : decode cX0_entryOf 30 = .ok (.goto 9, 3) := by decide +kernel
theorem dX0_entryOf_33 : decode cX0_entryOf 33 = .ok (.aload_n 0, 1) := by decide +kernel
theorem dX0_entryOf_34 : decode cX0_entryOf 34 = .ok (.getfield 9, 3) := by decide +kernel
theorem dX0_entryOf_37 : decode cX0_entryOf 37 = .ok (.iload_n 1, 1) := by decide +kernel
theorem dX0_entryOf_38 : decode cX0_entryOf 38 = .ok (.iaload, 1) := by decide +kernel
theorem dX0_entryOf_39 : decode cX0_entryOf 39 = .ok (.ireturn, 1) := by decide +kernel
set_option maxRecDepth 20000 in
theorem ggX0_look_X0_linesAt : GoodIn wsX0_look wsX0_linesAt := goodIn_r _ [15, 10, 16, 17, 30, 31, 32, 33, 34, 35, 36, 37, 38, 39, 40, 41] (by decide +kernel) (by decide +kernel)
set_option maxRecDepth 20000 in
theorem gX0_look_X0_linesAt : GoodIn wsX0_look (wsV RX0 68 RX0 yX0_linesAt wsX0_linesAt) := goodIn_app (goodIn_of _ (by decide +kernel)) ggX0_look_X0_linesAt
set_option maxRecDepth 20000 in
theorem ggX0_look_X0_interruptDue : GoodIn wsX0_look wsX0_interruptDue := goodIn_r _ [21, 4, 1, 22, 23, 24, 14, 25, 7, 11, 12, 13, 15, 10, 16, 17, 26, 27, 28, 29, 6, 30, 31, 32, 33, 34, 35, 36, 37, 38, 39, 40, 41] (by decide +kernel) (by decide +kernel)
set_option maxRecDepth 20000 in
theorem gX0_look_X0_interruptDue : GoodIn wsX0_look (wsV RX0 39 RX0 yX0_interruptDue wsX0_interruptDue) := goodIn_app (goodIn_of _ (by decide +kernel)) ggX0_look_X0_interruptDue
theorem dX0_look_0 : decode cX0_look 0 = .ok (.iload_n 1, 1) := by decide +kernel
theorem dX0_look_1 : decode cX0_look 1 = .ok (.tableswitch 143 0 11 #[63, 68, 73, 78, 91, 104, 109, 118, 123, 128, 133, 138], 63) := by decide +kernel
theorem dX0_look_64 : decode cX0_look 64 = .ok (.aload_n 0, 1) := by decide +kernel
theorem dX0_look_65 : decode cX0_look 65 = .ok (.getfield 28, 3) := by decide +kernel
theorem dX0_look_68 : decode cX0_look 68 = .ok (.ireturn, 1) := by decide +kernel
theorem dX0_look_69 : decode cX0_look 69 = .ok (.aload_n 0, 1) := by decide +kernel
theorem dX0_look_70 : decode cX0_look 70 = .ok (.getfield 65, 3) := by decide +kernel
theorem dX0_look_73 : decode cX0_look 73 = .ok (.ireturn, 1) := by decide +kernel
theorem dX0_look_74 : decode cX0_look 74 = .ok (.aload_n 0, 1) := by decide +kernel
theorem dX0_look_75 : decode cX0_look 75 = .ok (.getfield 55, 3) := by decide +kernel
theorem dX0_look_78 : decode cX0_look 78 = .ok (.ireturn, 1) := by decide +kernel
theorem dX0_look_79 : decode cX0_look 79 = .ok (.aload_n 0, 1) := by decide +kernel
theorem dX0_look_80 : decode cX0_look 80 = .ok (.getfield 62, 3) := by decide +kernel
theorem dX0_look_83 : decode cX0_look 83 = .ok (.ifCond .eq 7, 3) := by decide +kernel
theorem dX0_look_86 : decode cX0_look 86 = .ok (.iconst 1, 1) := by decide +kernel
theorem dX0_look_87 : decode cX0_look 87 = .ok (.goto 4, 3) := by decide +kernel
theorem dX0_look_90 : decode cX0_look 90 = .ok (.iconst 0, 1) := by decide +kernel
theorem dX0_look_91 : decode cX0_look 91 = .ok (.ireturn, 1) := by decide +kernel
theorem dX0_look_92 : decode cX0_look 92 = .ok (.aload_n 0, 1) := by decide +kernel
theorem dX0_look_93 : decode cX0_look 93 = .ok (.getfield 58, 3) := by decide +kernel
theorem dX0_look_96 : decode cX0_look 96 = .ok (.ifCond .eq 7, 3) := by decide +kernel
theorem dX0_look_99 : decode cX0_look 99 = .ok (.iconst 1, 1) := by decide +kernel
theorem dX0_look_100 : decode cX0_look 100 = .ok (.goto 4, 3) := by decide +kernel
theorem dX0_look_103 : decode cX0_look 103 = .ok (.iconst 0, 1) := by decide +kernel
theorem dX0_look_104 : decode cX0_look 104 = .ok (.ireturn, 1) := by decide +kernel
theorem dX0_look_105 : decode cX0_look 105 = .ok (.aload_n 0, 1) := by decide +kernel
theorem dX0_look_106 : decode cX0_look 106 = .ok (.getfield 51, 3) := by decide +kernel
theorem dX0_look_109 : decode cX0_look 109 = .ok (.ireturn, 1) := by decide +kernel
theorem dX0_look_110 : decode cX0_look 110 = .ok (.aload_n 0, 1) := by decide +kernel
theorem dX0_look_111 : decode cX0_look 111 = .ok (.aload_n 0, 1) := by decide +kernel
theorem dX0_look_112 : decode cX0_look 112 = .ok (.getfield 28, 3) := by decide +kernel
theorem dX0_look_115 : decode cX0_look 115 = .ok (.invokevirtual 68, 3) := by decide +kernel
theorem dX0_look_118 : decode cX0_look 118 = .ok (.ireturn, 1) := by decide +kernel
theorem dX0_look_119 : decode cX0_look 119 = .ok (.aload_n 0, 1) := by decide +kernel
theorem dX0_look_120 : decode cX0_look 120 = .ok (.getfield 42, 3) := by decide +kernel
theorem dX0_look_123 : decode cX0_look 123 = .ok (.ireturn, 1) := by decide +kernel
theorem dX0_look_124 : decode cX0_look 124 = .ok (.aload_n 0, 1) := by decide +kernel
theorem dX0_look_125 : decode cX0_look 125 = .ok (.getfield 45, 3) := by decide +kernel
theorem dX0_look_128 : decode cX0_look 128 = .ok (.ireturn, 1) := by decide +kernel
theorem dX0_look_129 : decode cX0_look 129 = .ok (.aload_n 0, 1) := by decide +kernel
theorem dX0_look_130 : decode cX0_look 130 = .ok (.getfield 48, 3) := by decide +kernel
theorem dX0_look_133 : decode cX0_look 133 = .ok (.ireturn, 1) := by decide +kernel
theorem dX0_look_134 : decode cX0_look 134 = .ok (.aload_n 0, 1) := by decide +kernel
theorem dX0_look_135 : decode cX0_look 135 = .ok (.getfield 19, 3) := by decide +kernel
theorem dX0_look_138 : decode cX0_look 138 = .ok (.ireturn, 1) := by decide +kernel
theorem dX0_look_139 : decode cX0_look 139 = .ok (.aload_n 0, 1) := by decide +kernel
theorem dX0_look_140 : decode cX0_look 140 = .ok (.invokevirtual 39, 3) := by decide +kernel
theorem dX0_look_143 : decode cX0_look 143 = .ok (.ireturn, 1) := by decide +kernel
theorem dX0_look_144 : decode cX0_look 144 = .ok (.iconst (-1), 1) := by decide +kernel
theorem dX0_look_145 : decode cX0_look 145 = .ok (.ireturn, 1) := by decide +kernel
theorem dX0_setAllAsAtFirst_0 : decode cX0_setAllAsAtFirst 0 = .ok (.aload_n 0, 1) := by decide +kernel
theorem dX0_setAllAsAtFirst_1 : decode cX0_setAllAsAtFirst 1 = .ok (.iconst 0, 1) := by decide +kernel
theorem dX0_setAllAsAtFirst_2 : decode cX0_setAllAsAtFirst 2 = .ok (.putfield 19, 3) := by decide +kernel
theorem dX0_setAllAsAtFirst_5 : decode cX0_setAllAsAtFirst 5 = .ok (.aload_n 0, 1) := by decide +kernel
theorem dX0_setAllAsAtFirst_6 : decode cX0_setAllAsAtFirst 6 = .ok (.iconst 0, 1) := by decide +kernel
theorem dX0_setAllAsAtFirst_7 : decode cX0_setAllAsAtFirst 7 = .ok (.putfield 28, 3) := by decide +kernel
theorem dX0_setAllAsAtFirst_10 : decode cX0_setAllAsAtFirst 10 = .ok (.aload_n 0, 1) := by decide +kernel
theorem dX0_setAllAsAtFirst_11 : decode cX0_setAllAsAtFirst 11 = .ok (.iconst 0, 1) := by decide +kernel
theorem dX0_setAllAsAtFirst_12 : decode cX0_setAllAsAtFirst 12 = .ok (.putfield 65, 3) := by decide +kernel
theorem dX0_setAllAsAtFirst_15 : decode cX0_setAllAsAtFirst 15 = .ok (.aload_n 0, 1) := by decide +kernel
theorem dX0_setAllAsAtFirst_16 : decode cX0_setAllAsAtFirst 16 = .ok (.iconst 0, 1) := by decide +kernel
theorem dX0_setAllAsAtFirst_17 : decode cX0_setAllAsAtFirst 17 = .ok (.putfield 55, 3) := by decide +kernel
theorem dX0_setAllAsAtFirst_20 : decode cX0_setAllAsAtFirst 20 = .ok (.aload_n 0, 1) := by decide +kernel
theorem dX0_setAllAsAtFirst_21 : decode cX0_setAllAsAtFirst 21 = .ok (.iconst 0, 1) := by decide +kernel
theorem dX0_setAllAsAtFirst_22 : decode cX0_setAllAsAtFirst 22 = .ok (.putfield 58, 3) := by decide +kernel
theorem dX0_setAllAsAtFirst_25 : decode cX0_setAllAsAtFirst 25 = .ok (.aload_n 0, 1) := by decide +kernel
theorem dX0_setAllAsAtFirst_26 : decode cX0_setAllAsAtFirst 26 = .ok (.iconst 0, 1) := by decide +kernel
theorem dX0_setAllAsAtFirst_27 : decode cX0_setAllAsAtFirst 27 = .ok (.putfield 62, 3) := by decide +kernel
theorem dX0_setAllAsAtFirst_30 : decode cX0_setAllAsAtFirst 30 = .ok (.aload_n 0, 1) := by decide +kernel
theorem dX0_setAllAsAtFirst_31 : decode cX0_setAllAsAtFirst 31 = .ok (.iconst 0, 1) := by decide +kernel
theorem dX0_setAllAsAtFirst_32 : decode cX0_setAllAsAtFirst 32 = .ok (.putfield 51, 3) := by decide +kernel
theorem dX0_setAllAsAtFirst_35 : decode cX0_setAllAsAtFirst 35 = .ok (.aload_n 0, 1) := by decide +kernel
theorem dX0_setAllAsAtFirst_36 : decode cX0_setAllAsAtFirst 36 = .ok (.iconst 1, 1) := by decide +kernel
theorem dX0_setAllAsAtFirst_37 : decode cX0_setAllAsAtFirst 37 = .ok (.putfield 42, 3) := by decide +kernel
theorem dX0_setAllAsAtFirst_40 : decode cX0_setAllAsAtFirst 40 = .ok (.aload_n 0, 1) := by decide +kernel
theorem dX0_setAllAsAtFirst_41 : decode cX0_setAllAsAtFirst 41 = .ok (.iconst 0, 1) := by decide +kernel
theorem dX0_setAllAsAtFirst_42 : decode cX0_setAllAsAtFirst 42 = .ok (.putfield 45, 3) := by decide +kernel
theorem dX0_setAllAsAtFirst_45 : decode cX0_setAllAsAtFirst 45 = .ok (.aload_n 0, 1) := by decide +kernel
theorem dX0_setAllAsAtFirst_46 : decode cX0_setAllAsAtFirst 46 = .ok (.iconst 0, 1) := by decide +kernel
theorem dX0_setAllAsAtFirst_47 : decode cX0_setAllAsAtFirst 47 = .ok (.putfield 48, 3) := by decide +kernel
theorem dX0_setAllAsAtFirst_50 : decode cX0_setAllAsAtFirst 50 = .ok (.return_, 1) := by decide +kernel
theorem dX0_lastEntryCount_0 : decode cX0_lastEntryCount 0 = .ok (.aload_n 0, 1) := by decide +kernel
theorem dX0_lastEntryCount_1 : decode cX0_lastEntryCount 1 = .ok (.getfield 19, 3) := by decide +kernel
theorem dX0_lastEntryCount_4 : decode cX0_lastEntryCount 4 = .ok (.ifCond .le 26, 3) := by decide +kernel
theorem dX0_lastEntryCount_7 : decode cX0_lastEntryCount 7 = .ok (.aload_n 0, 1) := by decide +kernel
theorem dX0_lastEntryCount_8 : decode cX0_lastEntryCount 8 = .ok (.getfield 19, 3) := by decide +kernel
theorem dX0_lastEntryCount_11 : decode cX0_lastEntryCount 11 = .ok (.bipush 32, 2) := by decide +kernel
theorem dX0_lastEntryCount_13 : decode cX0_lastEntryCount 13 = .ok (.if_icmp .gt 17, 3) := by decide +kernel
theorem dX0_lastEntryCount_16 : decode cX0_lastEntryCount 16 = .ok (.aload_n 0, 1) := by decide +kernel
theorem dX0_lastEntryCount_17 : decode cX0_lastEntryCount 17 = .ok (.getfield 9, 3) := by decide +kernel
theorem dX0_lastEntryCount_20 : decode cX0_lastEntryCount 20 = .ok (.aload_n 0, 1) := by decide +kernel
theorem dX0_lastEntryCount_21 : decode cX0_lastEntryCount 21 = .ok (.getfield 19, 3) := by decide +kernel
theorem dX0_lastEntryCount_24 : decode cX0_lastEntryCount 24 = .ok (.iconst 1, 1) := by decide +kernel
theorem dX0_lastEntryCount_25 : decode cX0_lastEntryCount 25 = .ok (.isub, 1) := by decide +kernel
theorem dX0_lastEntryCount_26 : decode cX0_lastEntryCount 26 = .ok (.iaload, 1) := by decide +kernel
theorem dX0_lastEntryCount_27 : decode cX0_lastEntryCount 27 = .ok (.goto 4, 3) := by decide +kernel
theorem dX0_lastEntryCount_30 : decode cX0_lastEntryCount 30 = .ok (.iconst (-1), 1) := by decide +kernel
theorem dX0_lastEntryCount_31 : decode cX0_lastEntryCount 31 = .ok (.ireturn, 1) := by decide +kernel
set_option maxRecDepth 20000 in
theorem ggX0_interruptDue_X0_isOn : GoodIn wsX0_interruptDue wsX0_isOn := goodIn_r _ [7, 8, 21, 22, 23, 24, 25, 26, 27, 28, 29, 30, 31, 32] (by decide +kernel) (by decide +kernel)
set_option maxRecDepth 20000 in
theorem gX0_interruptDue_X0_isOn : GoodIn wsX0_interruptDue (wsV RX0 72 RX0 yX0_isOn wsX0_isOn) := goodIn_app (goodIn_of _ (by decide +kernel)) ggX0_interruptDue_X0_isOn
set_option maxRecDepth 20000 in
theorem ggX0_interruptDue_X0_linesAt : GoodIn wsX0_interruptDue wsX0_linesAt := goodIn_r _ [12, 13, 14, 15, 21, 22, 23, 24, 25, 26, 27, 28, 29, 30, 31, 32] (by decide +kernel) (by decide +kernel)
set_option maxRecDepth 20000 in
theorem gX0_interruptDue_X0_linesAt : GoodIn wsX0_interruptDue (wsV RX0 68 RX0 yX0_linesAt wsX0_linesAt) := goodIn_app (goodIn_of _ (by decide +kernel)) ggX0_interruptDue_X0_linesAt
set_option maxRecDepth 20000 in
theorem ggX0_interruptDue_X0_isInMask : GoodIn wsX0_interruptDue wsX0_isInMask := goodIn_r _ [19, 20, 21, 22, 23, 24, 25, 26, 27, 28, 29, 30, 31, 32] (by decide +kernel) (by decide +kernel)
set_option maxRecDepth 20000 in
theorem gX0_interruptDue_X0_isInMask : GoodIn wsX0_interruptDue (wsV RX0 76 RX0 yX0_isInMask wsX0_isInMask) := goodIn_app (goodIn_of _ (by decide +kernel)) ggX0_interruptDue_X0_isInMask
theorem dX0_interruptDue_0 : decode cX0_interruptDue 0 = .ok (.aload_n 0, 1) := by decide +kernel
theorem dX0_interruptDue_1 : decode cX0_interruptDue 1 = .ok (.iconst 2, 1) := by decide +kernel
theorem dX0_interruptDue_2 : decode cX0_interruptDue 2 = .ok (.invokevirtual 72, 3) := by decide +kernel
theorem dX0_interruptDue_5 : decode cX0_interruptDue 5 = .ok (.ifCond .eq 12, 3) := by decide +kernel
theorem dX0_interruptDue_8 : decode cX0_interruptDue 8 = .ok (.aload_n 0, 1) := by decide +kernel
theorem dX0_interruptDue_9 : decode cX0_interruptDue 9 = .ok (.getfield 62, 3) := by decide +kernel
theorem dX0_interruptDue_12 : decode cX0_interruptDue 12 = .ok (.ifCond .eq 5, 3) := by decide +kernel
theorem dX0_interruptDue_15 : decode cX0_interruptDue 15 = .ok (.iconst 5, 1) := by decide +kernel
theorem dX0_interruptDue_16 : decode cX0_interruptDue 16 = .ok (.ireturn, 1) := by decide +kernel
theorem dX0_interruptDue_17 : decode cX0_interruptDue 17 = .ok (.aload_n 0, 1) := by decide +kernel
theorem dX0_interruptDue_18 : decode cX0_interruptDue 18 = .ok (.iconst 4, 1) := by decide +kernel
theorem dX0_interruptDue_19 : decode cX0_interruptDue 19 = .ok (.invokevirtual 72, 3) := by decide +kernel
theorem dX0_interruptDue_22 : decode cX0_interruptDue 22 = .ok (.ifCond .eq 21, 3) := by decide +kernel
theorem dX0_interruptDue_25 : decode cX0_interruptDue 25 = .ok (.aload_n 0, 1) := by decide +kernel
theorem dX0_interruptDue_26 : decode cX0_interruptDue 26 = .ok (.aload_n 0, 1) := by decide +kernel
theorem dX0_interruptDue_27 : decode cX0_interruptDue 27 = .ok (.aload_n 0, 1) := by decide +kernel
theorem dX0_interruptDue_28 : decode cX0_interruptDue 28 = .ok (.getfield 28, 3) := by decide +kernel
theorem dX0_interruptDue_31 : decode cX0_interruptDue 31 = .ok (.invokevirtual 68, 3) := by decide +kernel
theorem dX0_interruptDue_34 : decode cX0_interruptDue 34 = .ok (.invokevirtual 76, 3) := by decide +kernel
theorem dX0_interruptDue_37 : decode cX0_interruptDue 37 = .ok (.ifCond .eq 6, 3) := by decide +kernel
theorem dX0_interruptDue_40 : decode cX0_interruptDue 40 = .ok (.bipush 8, 2) := by decide +kernel
theorem dX0_interruptDue_42 : decode cX0_interruptDue 42 = .ok (.ireturn, 1) := by decide +kernel
theorem dX0_interruptDue_43 : decode cX0_interruptDue 43 = .ok (.iconst 0, 1) := by decide +kernel
theorem dX0_interruptDue_44 : decode cX0_interruptDue 44 = .ok (.ireturn, 1) := by decide +kernel
theorem dX0_isOn_0 : decode cX0_isOn 0 = .ok (.aload_n 0, 1) := by decide +kernel
theorem dX0_isOn_1 : decode cX0_isOn 1 = .ok (.getfield 42, 3) := by decide +kernel
theorem dX0_isOn_4 : decode cX0_isOn 4 = .ok (.iload_n 1, 1) := by decide +kernel
theorem dX0_isOn_5 : decode cX0_isOn 5 = .ok (.iand, 1) := by decide +kernel
theorem dX0_isOn_6 : decode cX0_isOn 6 = .ok (.ifCond .eq 7, 3) := by decide +kernel
theorem dX0_isOn_9 : decode cX0_isOn 9 = .ok (.iconst 1, 1) := by decide +kernel
theorem dX0_isOn_10 : decode cX0_isOn 10 = .ok (.goto 4, 3) := by decide +kernel
theorem dX0_isOn_13 : decode cX0_isOn 13 = .ok (.iconst 0, 1) := by decide +kernel
theorem dX0_isOn_14 : decode cX0_isOn 14 = .ok (.ireturn, 1) := by decide +kernel
theorem dX0_isInMask_0 : decode cX0_isInMask 0 = .ok (.iload_n 1, 1) := by decide +kernel
theorem dX0_isInMask_1 : decode cX0_isInMask 1 = .ok (.aload_n 0, 1) := by decide +kernel
theorem dX0_isInMask_2 : decode cX0_isInMask 2 = .ok (.getfield 51, 3) := by decide +kernel
theorem dX0_isInMask_5 : decode cX0_isInMask 5 = .ok (.iand, 1) := by decide +kernel
theorem dX0_isInMask_6 : decode cX0_isInMask 6 = .ok (.ifCond .eq 7, 3) := by decide +kernel
theorem dX0_isInMask_9 : decode cX0_isInMask 9 = .ok (.iconst 1, 1) := by decide +kernel
theorem dX0_isInMask_10 : decode cX0_isInMask 10 = .ok (.goto 4, 3) := by decide +kernel
theorem dX0_isInMask_13 : decode cX0_isInMask 13 = .ok (.iconst 0, 1) := by decide +kernel
theorem dX0_isInMask_14 : decode cX0_isInMask 14 = .ok (.ireturn, 1) := by decide +kernel
set_option maxRecDepth 20000 in
theorem ggX0_distanceToInterrupt_X0_interruptDue : GoodIn wsX0_distanceToInterrupt wsX0_interruptDue := goodIn_r _ [9, 10, 11, 12, 13, 14, 8, 15, 16, 17, 18, 19, 20, 21, 22, 23, 24, 25, 26, 27, 28, 47, 48, 49, 50, 51, 52, 53, 54, 55, 56, 57, 58] (by decide +kernel) (by decide +kernel)
set_option maxRecDepth 20000 in
theorem gX0_distanceToInterrupt_X0_interruptDue : GoodIn wsX0_distanceToInterrupt (wsV RX0 39 RX0 yX0_interruptDue wsX0_interruptDue) := goodIn_app (goodIn_of _ (by decide +kernel)) ggX0_distanceToInterrupt_X0_interruptDue
set_option maxRecDepth 20000 in
theorem ggX0_distanceToInterrupt_X0_distanceToTimer : GoodIn wsX0_distanceToInterrupt wsX0_distanceToTimer := goodIn_r _ [32, 33, 34, 12, 13, 14, 8, 15, 16, 35, 36, 37, 38, 39, 40, 41, 42, 47, 48, 49, 50, 51, 52, 53, 54, 55, 56, 57, 58] (by decide +kernel) (by decide +kernel)
set_option maxRecDepth 20000 in
theorem gX0_distanceToInterrupt_X0_distanceToTimer : GoodIn wsX0_distanceToInterrupt (wsV RX0 79 RX0 yX0_distanceToTimer wsX0_distanceToTimer) := goodIn_app (goodIn_of _ (by decide +kernel)) ggX0_distanceToInterrupt_X0_distanceToTimer
set_option maxRecDepth 20000 in
theorem ggX0_distanceToInterrupt_X0_distanceToLines : GoodIn wsX0_distanceToInterrupt wsX0_distanceToLines := goodIn_r _ [46, 34, 21, 22, 11, 23, 12, 13, 14, 8, 15, 16, 24, 25, 26, 27, 28, 47, 48, 49, 50, 51, 52, 53, 54, 55, 56, 57, 58] (by decide +kernel) (by decide +kernel)
set_option maxRecDepth 20000 in
theorem gX0_distanceToInterrupt_X0_distanceToLines : GoodIn wsX0_distanceToInterrupt (wsV RX0 82 RX0 yX0_distanceToLines wsX0_distanceToLines) := goodIn_app (goodIn_of _ (by decide +kernel)) ggX0_distanceToInterrupt_X0_distanceToLines
theorem dX0_distanceToInterrupt_0 : decode cX0_distanceToInterrupt 0 = .ok (.aload_n 0, 1) := by decide +kernel
theorem dX0_distanceToInterrupt_1 : decode cX0_distanceToInterrupt 1 = .ok (.invokevirtual 39, 3) := by decide +kernel
theorem dX0_distanceToInterrupt_4 : decode cX0_distanceToInterrupt 4 = .ok (.ifCond .eq 5, 3) := by decide +kernel
theorem dX0_distanceToInterrupt_7 : decode cX0_distanceToInterrupt 7 = .ok (.lconst 0, 1) := by decide +kernel
theorem dX0_distanceToInterrupt_8 : decode cX0_distanceToInterrupt 8 = .ok (.lreturn, 1) := by decide +kernel
theorem dX0_distanceToInterrupt_9 : decode cX0_distanceToInterrupt 9 = .ok (.aload_n 0, 1) := by decide +kernel
theorem dX0_distanceToInterrupt_10 : decode cX0_distanceToInterrupt 10 = .ok (.invokevirtual 79, 3) := by decide +kernel
theorem dX0_distanceToInterrupt_13 : decode cX0_distanceToInterrupt 13 = .ok (.aload_n 0, 1) := by decide +kernel
theorem dX0_distanceToInterrupt_14 : decode cX0_distanceToInterrupt 14 = .ok (.invokevirtual 82, 3) := by decide +kernel
theorem dX0_distanceToInterrupt_17 : decode cX0_distanceToInterrupt 17 = .ok (.invokestatic 85, 3) := by decide +kernel
theorem dX0_distanceToInterrupt_20 : decode cX0_distanceToInterrupt 20 = .ok (.lreturn, 1) := by decide +kernel
set_option maxRecDepth 20000 in
theorem ggX0_distanceToTimer_X0_isOn : GoodIn wsX0_distanceToTimer wsX0_isOn := goodIn_r _ [7, 8, 17, 18, 19, 20, 21, 22, 23, 24, 25, 26, 27, 28] (by decide +kernel) (by decide +kernel)
set_option maxRecDepth 20000 in
theorem gX0_distanceToTimer_X0_isOn : GoodIn wsX0_distanceToTimer (wsV RX0 72 RX0 yX0_isOn wsX0_isOn) := goodIn_app (goodIn_of _ (by decide +kernel)) ggX0_distanceToTimer_X0_isOn
set_option maxRecDepth 20000 in
theorem ggX0_distanceToTimer_X0_distanceToPeriod : GoodIn wsX0_distanceToTimer wsX0_distanceToPeriod := goodIn_r _ [12, 13, 14, 15, 16, 17, 18, 19, 20, 21, 22, 23, 24, 25, 26, 27, 28] (by decide +kernel) (by decide +kernel)
set_option maxRecDepth 20000 in
theorem gX0_distanceToTimer_X0_distanceToPeriod : GoodIn wsX0_distanceToTimer (wsV RX0 91 RX0 yX0_distanceToPeriod wsX0_distanceToPeriod) := goodIn_app (goodIn_of _ (by decide +kernel)) ggX0_distanceToTimer_X0_distanceToPeriod
theorem dX0_distanceToTimer_0 : decode cX0_distanceToTimer 0 = .ok (.aload_n 0, 1) := by decide +kernel
theorem dX0_distanceToTimer_1 : decode cX0_distanceToTimer 1 = .ok (.iconst 2, 1) := by decide +kernel
theorem dX0_distanceToTimer_2 : decode cX0_distanceToTimer 2 = .ok (.invokevirtual 72, 3) := by decide +kernel
theorem dX0_distanceToTimer_5 : decode cX0_distanceToTimer 5 = .ok (.ifCond .eq 17, 3) := by decide +kernel
theorem dX0_distanceToTimer_8 : decode cX0_distanceToTimer 8 = .ok (.aload_n 0, 1) := by decide +kernel
theorem dX0_distanceToTimer_9 : decode cX0_distanceToTimer 9 = .ok (.getfield 58, 3) := by decide +kernel
theorem dX0_distanceToTimer_12 : decode cX0_distanceToTimer 12 = .ok (.ifCond .eq 10, 3) := by decide +kernel
theorem dX0_distanceToTimer_15 : decode cX0_distanceToTimer 15 = .ok (.aload_n 0, 1) := by decide +kernel
theorem dX0_distanceToTimer_16 : decode cX0_distanceToTimer 16 = .ok (.invokevirtual 91, 3) := by decide +kernel
theorem dX0_distanceToTimer_19 : decode cX0_distanceToTimer 19 = .ok (.goto 6, 3) := by decide +kernel
theorem dX0_distanceToTimer_22 : decode cX0_distanceToTimer 22 = .ok (.ldc2_w 94, 3) := by decide +kernel
theorem dX0_distanceToTimer_25 : decode cX0_distanceToTimer 25 = .ok (.lreturn, 1) := by decide +kernel
set_option maxRecDepth 20000 in
theorem ggX0_distanceToLines_X0_isOn : GoodIn wsX0_distanceToLines wsX0_isOn := goodIn_r _ [10, 11, 17, 18, 19, 20, 21, 22, 23, 24, 25, 26, 27, 28] (by decide +kernel) (by decide +kernel)
set_option maxRecDepth 20000 in
theorem gX0_distanceToLines_X0_isOn : GoodIn wsX0_distanceToLines (wsV RX0 72 RX0 yX0_isOn wsX0_isOn) := goodIn_app (goodIn_of _ (by decide +kernel)) ggX0_distanceToLines_X0_isOn
set_option maxRecDepth 20000 in
theorem ggX0_distanceToLines_X0_isInMask : GoodIn wsX0_distanceToLines wsX0_isInMask := goodIn_r _ [15, 16, 17, 18, 19, 20, 21, 22, 23, 24, 25, 26, 27, 28] (by decide +kernel) (by decide +kernel)
set_option maxRecDepth 20000 in
theorem gX0_distanceToLines_X0_isInMask : GoodIn wsX0_distanceToLines (wsV RX0 76 RX0 yX0_isInMask wsX0_isInMask) := goodIn_app (goodIn_of _ (by decide +kernel)) ggX0_distanceToLines_X0_isInMask
theorem dX0_distanceToLines_0 : decode cX0_distanceToLines 0 = .ok (.aload_n 0, 1) := by decide +kernel
theorem dX0_distanceToLines_1 : decode cX0_distanceToLines 1 = .ok (.iconst 4, 1) := by decide +kernel
theorem dX0_distanceToLines_2 : decode cX0_distanceToLines 2 = .ok (.invokevirtual 72, 3) := by decide +kernel
theorem dX0_distanceToLines_5 : decode cX0_distanceToLines 5 = .ok (.ifCond .ne 7, 3) := by decide +kernel
theorem dX0_distanceToLines_8 : decode cX0_distanceToLines 8 = .ok (.ldc2_w 94, 3) := by decide +kernel
theorem dX0_distanceToLines_11 : decode cX0_distanceToLines 11 = .ok (.lreturn, 1) := by decide +kernel
theorem dX0_distanceToLines_12 : decode cX0_distanceToLines 12 = .ok (.iconst 0, 1) := by decide +kernel
theorem dX0_distanceToLines_13 : decode cX0_distanceToLines 13 = .ok (.istore_n 1, 1) := by decide +kernel
theorem dX0_distanceToLines_14 : decode cX0_distanceToLines 14 = .ok (.iload_n 1, 1) := by decide +kernel
theorem dX0_distanceToLines_15 : decode cX0_distanceToLines 15 = .ok (.aload_n 0, 1) := by decide +kernel
theorem dX0_distanceToLines_16 : decode cX0_distanceToLines 16 = .ok (.getfield 19, 3) := by decide +kernel
theorem dX0_distanceToLines_19 : decode cX0_distanceToLines 19 = .ok (.if_icmp .ge 54, 3) := by decide +kernel
theorem dX0_distanceToLines_22 : decode cX0_distanceToLines 22 = .ok (.iload_n 1, 1) := by decide +kernel
theorem dX0_distanceToLines_23 : decode cX0_distanceToLines 23 = .ok (.bipush 32, 2) := by decide +kernel
theorem dX0_distanceToLines_25 : decode cX0_distanceToLines 25 = .ok (.if_icmp .ge 48, 3) := by decide +kernel
theorem dX0_distanceToLines_28 : decode cX0_distanceToLines 28 = .ok (.aload_n 0, 1) := by decide +kernel
theorem dX0_distanceToLines_29 : decode cX0_distanceToLines 29 = .ok (.getfield 9, 3) := by decide +kernel
theorem dX0_distanceToLines_32 : decode cX0_distanceToLines 32 = .ok (.iload_n 1, 1) := by decide +kernel
theorem dX0_distanceToLines_33 : decode cX0_distanceToLines 33 = .ok (.iaload, 1) := by decide +kernel
theorem dX0_distanceToLines_34 : decode cX0_distanceToLines 34 = .ok (.aload_n 0, 1) := by decide +kernel
theorem dX0_distanceToLines_35 : decode cX0_distanceToLines 35 = .ok (.getfield 28, 3) := by decide +kernel
theorem dX0_distanceToLines_38 : decode cX0_distanceToLines 38 = .ok (.if_icmp .le 29, 3) := by decide +kernel
theorem dX0_distanceToLines_41 : decode cX0_distanceToLines 41 = .ok (.aload_n 0, 1) := by decide +kernel
theorem dX0_distanceToLines_42 : decode cX0_distanceToLines 42 = .ok (.aload_n 0, 1) := by decide +kernel
theorem dX0_distanceToLines_43 : decode cX0_distanceToLines 43 = .ok (.getfield 13, 3) := by decide +kernel
theorem dX0_distanceToLines_46 : decode cX0_distanceToLines 46 = .ok (.iload_n 1, 1) := by decide +kernel
theorem dX0_distanceToLines_47 : decode cX0_distanceToLines 47 = .ok (.iaload, 1) := by decide +kernel
theorem dX0_distanceToLines_48 : decode cX0_distanceToLines 48 = .ok (.invokevirtual 76, 3) := by decide +kernel
theorem dX0_distanceToLines_51 : decode cX0_distanceToLines 51 = .ok (.ifCond .eq 16, 3) := by decide +kernel
theorem dX0_distanceToLines_54 : decode cX0_distanceToLines 54 = .ok (.aload_n 0, 1) := by decide +kernel
theorem dX0_distanceToLines_55 : decode cX0_distanceToLines 55 = .ok (.getfield 9, 3) := by decide +kernel
theorem dX0_distanceToLines_58 : decode cX0_distanceToLines 58 = .ok (.iload_n 1, 1) := by decide +kernel
theorem dX0_distanceToLines_59 : decode cX0_distanceToLines 59 = .ok (.iaload, 1) := by decide +kernel
theorem dX0_distanceToLines_60 : decode cX0_distanceToLines 60 = .ok (.aload_n 0, 1) := by decide +kernel
theorem dX0_distanceToLines_61 : decode cX0_distanceToLines 61 = .ok (.getfield 28, 3) := by decide +kernel
theorem dX0_distanceToLines_64 : decode cX0_distanceToLines 64 = .ok (.isub, 1) := by decide +kernel
theorem dX0_distanceToLines_65 : decode cX0_distanceToLines 65 = .ok (.i2l, 1) := by decide +kernel
theorem dX0_distanceToLines_66 : decode cX0_distanceToLines 66 = .ok (.lreturn, 1) := by decide +kernel
theorem dX0_distanceToLines_67 : decode cX0_distanceToLines 67 = .ok (.iinc 1 1, 3) := by decide +kernel
theorem dX0_distanceToLines_70 : decode cX0_distanceToLines 70 = .ok (.goto (-56), 3) := by decide +kernel
theorem dX0_distanceToLines_73 : decode cX0_distanceToLines 73 = .ok (.ldc2_w 94, 3) := by decide +kernel
theorem dX0_distanceToLines_76 : decode cX0_distanceToLines 76 = .ok (.lreturn, 1) := by decide +kernel
theorem dX0_distanceToPeriod_0 : decode cX0_distanceToPeriod 0 = .ok (.aload_n 0, 1) := by decide +kernel
theorem dX0_distanceToPeriod_1 : decode cX0_distanceToPeriod 1 = .ok (.getfield 55, 3) := by decide +kernel
theorem dX0_distanceToPeriod_4 : decode cX0_distanceToPeriod 4 = .ok (.i2l, 1) := by decide +kernel
theorem dX0_distanceToPeriod_5 : decode cX0_distanceToPeriod 5 = .ok (.aload_n 0, 1) := by decide +kernel
theorem dX0_distanceToPeriod_6 : decode cX0_distanceToPeriod 6 = .ok (.getfield 65, 3) := by decide +kernel
theorem dX0_distanceToPeriod_9 : decode cX0_distanceToPeriod 9 = .ok (.i2l, 1) := by decide +kernel
theorem dX0_distanceToPeriod_10 : decode cX0_distanceToPeriod 10 = .ok (.lsub, 1) := by decide +kernel
theorem dX0_distanceToPeriod_11 : decode cX0_distanceToPeriod 11 = .ok (.ldc2_w 96, 3) := by decide +kernel
theorem dX0_distanceToPeriod_14 : decode cX0_distanceToPeriod 14 = .ok (.land, 1) := by decide +kernel
theorem dX0_distanceToPeriod_15 : decode cX0_distanceToPeriod 15 = .ok (.lstore_n 1, 1) := by decide +kernel
theorem dX0_distanceToPeriod_16 : decode cX0_distanceToPeriod 16 = .ok (.lload_n 1, 1) := by decide +kernel
theorem dX0_distanceToPeriod_17 : decode cX0_distanceToPeriod 17 = .ok (.lconst 0, 1) := by decide +kernel
theorem dX0_distanceToPeriod_18 : decode cX0_distanceToPeriod 18 = .ok (.lcmp, 1) := by decide +kernel
theorem dX0_distanceToPeriod_19 : decode cX0_distanceToPeriod 19 = .ok (.ifCond .ne 9, 3) := by decide +kernel
theorem dX0_distanceToPeriod_22 : decode cX0_distanceToPeriod 22 = .ok (.ldc2_w 98, 3) := by decide +kernel
theorem dX0_distanceToPeriod_25 : decode cX0_distanceToPeriod 25 = .ok (.goto 4, 3) := by decide +kernel
theorem dX0_distanceToPeriod_28 : decode cX0_distanceToPeriod 28 = .ok (.lload_n 1, 1) := by decide +kernel
theorem dX0_distanceToPeriod_29 : decode cX0_distanceToPeriod 29 = .ok (.lreturn, 1) := by decide +kernel
set_option maxRecDepth 20000 in
theorem ggX0_advance_X0_advanceCount : GoodIn wsX0_advance wsX0_advanceCount := goodIn_r _ [7, 8, 9, 10, 11, 12, 13, 6, 14, 15, 16, 17, 18, 19, 20, 21, 22, 23, 24, 25, 26, 27, 28] (by decide +kernel) (by decide +kernel)
set_option maxRecDepth 20000 in
theorem gX0_advance_X0_advanceCount : GoodIn wsX0_advance (wsV RX0 100 RX0 yX0_advanceCount wsX0_advanceCount) := goodIn_app (goodIn_of _ (by decide +kernel)) ggX0_advance_X0_advanceCount
theorem dX0_advance_0 : decode cX0_advance 0 = .ok (.aload_n 0, 1) := by decide +kernel
theorem dX0_advance_1 : decode cX0_advance 1 = .ok (.dup, 1) := by decide +kernel
theorem dX0_advance_2 : decode cX0_advance 2 = .ok (.getfield 28, 3) := by decide +kernel
theorem dX0_advance_5 : decode cX0_advance 5 = .ok (.iload_n 1, 1) := by decide +kernel
theorem dX0_advance_6 : decode cX0_advance 6 = .ok (.iadd, 1) := by decide +kernel
theorem dX0_advance_7 : decode cX0_advance 7 = .ok (.putfield 28, 3) := by decide +kernel
theorem dX0_advance_10 : decode cX0_advance 10 = .ok (.aload_n 0, 1) := by decide +kernel
theorem dX0_advance_11 : decode cX0_advance 11 = .ok (.getfield 58, 3) := by decide +kernel
theorem dX0_advance_14 : decode cX0_advance 14 = .ok (.ifCond .eq 8, 3) := by decide +kernel
theorem dX0_advance_17 : decode cX0_advance 17 = .ok (.aload_n 0, 1) := by decide +kernel
theorem dX0_advance_18 : decode cX0_advance 18 = .ok (.iload_n 1, 1) := by decide +kernel
theorem dX0_advance_19 : decode cX0_advance 19 = .ok (.invokevirtual 100, 3) := by decide +kernel
theorem dX0_advance_22 : decode cX0_advance 22 = .ok (.return_, 1) := by decide +kernel
set_option maxRecDepth 20000 in
theorem ggX0_advanceCount_X0_distanceToPeriod : GoodIn wsX0_advanceCount wsX0_distanceToPeriod := goodIn_r _ [8, 3, 1, 9, 10, 11, 12, 13, 14, 15, 16, 17, 18, 19, 20, 21, 22] (by decide +kernel) (by decide +kernel)
set_option maxRecDepth 20000 in
theorem gX0_advanceCount_X0_distanceToPeriod : GoodIn wsX0_advanceCount (wsV RX0 91 RX0 yX0_distanceToPeriod wsX0_distanceToPeriod) := goodIn_app (goodIn_of _ (by decide +kernel)) ggX0_advanceCount_X0_distanceToPeriod
theorem dX0_advanceCount_0 : decode cX0_advanceCount 0 = .ok (.aload_n 0, 1) := by decide +kernel
theorem dX0_advanceCount_1 : decode cX0_advanceCount 1 = .ok (.invokevirtual 91, 3) := by decide +kernel
theorem dX0_advanceCount_4 : decode cX0_advanceCount 4 = .ok (.lstore_n 2, 1) := by decide +kernel
theorem dX0_advanceCount_5 : decode cX0_advanceCount 5 = .ok (.iload_n 1, 1) := by decide +kernel
theorem dX0_advanceCount_6 : decode cX0_advanceCount 6 = .ok (.i2l, 1) := by decide +kernel
theorem dX0_advanceCount_7 : decode cX0_advanceCount 7 = .ok (.lload_n 2, 1) := by decide +kernel
theorem dX0_advanceCount_8 : decode cX0_advanceCount 8 = .ok (.lcmp, 1) := by decide +kernel
theorem dX0_advanceCount_9 : decode cX0_advanceCount 9 = .ok (.ifCond .ge 14, 3) := by decide +kernel
theorem dX0_advanceCount_12 : decode cX0_advanceCount 12 = .ok (.aload_n 0, 1) := by decide +kernel
theorem dX0_advanceCount_13 : decode cX0_advanceCount 13 = .ok (.dup, 1) := by decide +kernel
theorem dX0_advanceCount_14 : decode cX0_advanceCount 14 = .ok (.getfield 65, 3) := by decide +kernel
theorem dX0_advanceCount_17 : decode cX0_advanceCount 17 = .ok (.iload_n 1, 1) := by decide +kernel
theorem dX0_advanceCount_18 : decode cX0_advanceCount 18 = .ok (.iadd, 1) := by decide +kernel
theorem dX0_advanceCount_19 : decode cX0_advanceCount 19 = .ok (.putfield 65, 3) := by decide +kernel
theorem dX0_advanceCount_22 : decode cX0_advanceCount 22 = .ok (.return_, 1) := by decide +kernel
theorem dX0_advanceCount_23 : decode cX0_advanceCount 23 = .ok (.aload_n 0, 1) := by decide +kernel
theorem dX0_advanceCount_24 : decode cX0_advanceCount 24 = .ok (.iconst 1, 1) := by decide +kernel
theorem dX0_advanceCount_25 : decode cX0_advanceCount 25 = .ok (.putfield 62, 3) := by decide +kernel
theorem dX0_advanceCount_28 : decode cX0_advanceCount 28 = .ok (.iload_n 1, 1) := by decide +kernel
theorem dX0_advanceCount_29 : decode cX0_advanceCount 29 = .ok (.lload_n 2, 1) := by decide +kernel
theorem dX0_advanceCount_30 : decode cX0_advanceCount 30 = .ok (.l2i, 1) := by decide +kernel
theorem dX0_advanceCount_31 : decode cX0_advanceCount 31 = .ok (.isub, 1) := by decide +kernel
theorem dX0_advanceCount_32 : decode cX0_advanceCount 32 = .ok (.istore 4, 2) := by decide +kernel
theorem dX0_advanceCount_34 : decode cX0_advanceCount 34 = .ok (.aload_n 0, 1) := by decide +kernel
theorem dX0_advanceCount_35 : decode cX0_advanceCount 35 = .ok (.aload_n 0, 1) := by decide +kernel
theorem dX0_advanceCount_36 : decode cX0_advanceCount 36 = .ok (.getfield 55, 3) := by decide +kernel
theorem dX0_advanceCount_39 : decode cX0_advanceCount 39 = .ok (.ifCond .ne 8, 3) := by decide +kernel
theorem dX0_advanceCount_42 : decode cX0_advanceCount 42 = .ok (.iload 4, 2) := by decide +kernel
theorem dX0_advanceCount_44 : decode cX0_advanceCount 44 = .ok (.goto 10, 3) := by decide +kernel
theorem dX0_advanceCount_47 : decode cX0_advanceCount 47 = .ok (.iload 4, 2) := by decide +kernel
theorem dX0_advanceCount_49 : decode cX0_advanceCount 49 = .ok (.aload_n 0, 1) := by decide +kernel
theorem dX0_advanceCount_50 : decode cX0_advanceCount 50 = .ok (.getfield 55, 3) := by decide +kernel
theorem dX0_advanceCount_53 : decode cX0_advanceCount 53 = .ok (.irem, 1) := by decide +kernel
theorem dX0_advanceCount_54 : decode cX0_advanceCount 54 = .ok (.putfield 65, 3) := by decide +kernel
theorem dX0_advanceCount_57 : decode cX0_advanceCount 57 = .ok (.return_, 1) := by decide +kernel
theorem dX1_init_0 : decode cX1_init 0 = .ok (.aload_n 0, 1) := by decide +kernel
theorem dX1_init_1 : decode cX1_init 1 = .ok (.invokespecial 1, 3) := by decide +kernel
theorem dX1_init_4 : decode cX1_init 4 = .ok (.aload_n 0, 1) := by decide +kernel
theorem dX1_init_5 : decode cX1_init 5 = .ok (.iconst 1, 1) := by decide +kernel
theorem dX1_init_6 : decode cX1_init 6 = .ok (.putfield 7, 3) := by decide +kernel
theorem dX1_init_9 : decode cX1_init 9 = .ok (.aload_n 0, 1) := by decide +kernel
theorem dX1_init_10 : decode cX1_init 10 = .ok (.bipush 32, 2) := by decide +kernel
theorem dX1_init_12 : decode cX1_init 12 = .ok (.newarray .int, 2) := by decide +kernel
theorem dX1_init_14 : decode cX1_init 14 = .ok (.putfield 13, 3) := by decide +kernel
theorem dX1_init_17 : decode cX1_init 17 = .ok (.aload_n 0, 1) := by decide +kernel
theorem dX1_init_18 : decode cX1_init 18 = .ok (.bipush 32, 2) := by decide +kernel
theorem dX1_init_20 : decode cX1_init 20 = .ok (.newarray .int, 2) := by decide +kernel
theorem dX1_init_22 : decode cX1_init 22 = .ok (.putfield 17, 3) := by decide +kernel
theorem dX1_init_25 : decode cX1_init 25 = .ok (.return_, 1) := by decide +kernel
theorem dX1_goOn_0 : decode cX1_goOn 0 = .ok (.aload_n 0, 1) := by decide +kernel
theorem dX1_goOn_1 : decode cX1_goOn 1 = .ok (.getfield 23, 3) := by decide +kernel
theorem dX1_goOn_4 : decode cX1_goOn 4 = .ok (.aload_n 0, 1) := by decide +kernel
theorem dX1_goOn_5 : decode cX1_goOn 5 = .ok (.getfield 26, 3) := by decide +kernel
theorem dX1_goOn_8 : decode cX1_goOn 8 = .ok (.if_icmp .ge 32, 3) := by decide +kernel
theorem dX1_goOn_11 : decode cX1_goOn 11 = .ok (.aload_n 0, 1) := by decide +kernel
theorem dX1_goOn_12 : decode cX1_goOn 12 = .ok (.getfield 13, 3) := by decide +kernel
theorem dX1_goOn_15 : decode cX1_goOn 15 = .ok (.aload_n 0, 1) := by decide +kernel
theorem dX1_goOn_16 : decode cX1_goOn 16 = .ok (.getfield 23, 3) := by decide +kernel
theorem dX1_goOn_19 : decode cX1_goOn 19 = .ok (.iaload, 1) := by decide +kernel
theorem dX1_goOn_20 : decode cX1_goOn 20 = .ok (.aload_n 0, 1) := by decide +kernel
theorem dX1_goOn_21 : decode cX1_goOn 21 = .ok (.getfield 29, 3) := by decide +kernel
theorem dX1_goOn_24 : decode cX1_goOn 24 = .ok (.if_icmp .gt 16, 3) := by decide +kernel
theorem dX1_goOn_27 : decode cX1_goOn 27 = .ok (.aload_n 0, 1) := by decide +kernel
theorem dX1_goOn_28 : decode cX1_goOn 28 = .ok (.dup, 1) := by decide +kernel
theorem dX1_goOn_29 : decode cX1_goOn 29 = .ok (.getfield 23, 3) := by decide +kernel
theorem dX1_goOn_32 : decode cX1_goOn 32 = .ok (.iconst 1, 1) := by decide +kernel
theorem dX1_goOn_33 : decode cX1_goOn 33 = .ok (.iadd, 1) := by decide +kernel
theorem dX1_goOn_34 : decode cX1_goOn 34 = .ok (.putfield 23, 3) := by decide +kernel
theorem dX1_goOn_37 : decode cX1_goOn 37 = .ok (.goto (-37), 3) := by decide +kernel
theorem dX1_goOn_40 : decode cX1_goOn 40 = .ok (.return_, 1) := by decide +kernel
theorem dX1_linesNow_0 : decode cX1_linesNow 0 = .ok (.aload_n 0, 1) := by decide +kernel
theorem dX1_linesNow_1 : decode cX1_linesNow 1 = .ok (.getfield 23, 3) := by decide +kernel
theorem dX1_linesNow_4 : decode cX1_linesNow 4 = .ok (.ifCond .le 17, 3) := by decide +kernel
theorem dX1_linesNow_7 : decode cX1_linesNow 7 = .ok (.aload_n 0, 1) := by decide +kernel
theorem dX1_linesNow_8 : decode cX1_linesNow 8 = .ok (.getfield 17, 3) := by decide +kernel
theorem dX1_linesNow_11 : decode cX1_linesNow 11 = .ok (.aload_n 0, 1) := by decide +kernel
theorem dX1_linesNow_12 : decode cX1_linesNow 12 = .ok (.getfield 23, 3) := by decide +kernel
theorem dX1_linesNow_15 : decode cX1_linesNow 15 = .ok (.iconst 1, 1) := by decide +kernel
theorem dX1_linesNow_16 : decode cX1_linesNow 16 = .ok (.isub, 1) := by decide +kernel
theorem dX1_linesNow_17 : decode cX1_linesNow 17 = .ok (.iaload, 1) := by decide +kernel
theorem dX1_linesNow_18 : decode cX1_linesNow 18 = .ok (.goto 4, 3) := by decide +kernel
theorem dX1_linesNow_21 : decode cX1_linesNow 21 = .ok (.iconst 0, 1) := by decide +kernel
theorem dX1_linesNow_22 : decode cX1_linesNow 22 = .ok (.ireturn, 1) := by decide +kernel
set_option maxRecDepth 20000 in
theorem ggX1_due_X1_linesNow : GoodIn wsX1_due wsX1_linesNow := goodIn_r _ [8, 9, 10, 11, 12, 13, 14, 15, 16, 17, 18, 19, 20, 21, 22, 23, 24] (by decide +kernel) (by decide +kernel)
set_option maxRecDepth 20000 in
theorem gX1_due_X1_linesNow : GoodIn wsX1_due (wsV RX1 36 RX1 yX1_linesNow wsX1_linesNow) := goodIn_app (goodIn_of _ (by decide +kernel)) ggX1_due_X1_linesNow
theorem dX1_due_0 : decode cX1_due 0 = .ok (.aload_n 0, 1) := by decide +kernel
theorem dX1_due_1 : decode cX1_due 1 = .ok (.getfield 7, 3) := by decide +kernel
theorem dX1_due_4 : decode cX1_due 4 = .ok (.iconst 2, 1) := by decide +kernel
theorem dX1_due_5 : decode cX1_due 5 = .ok (.iand, 1) := by decide +kernel
theorem dX1_due_6 : decode cX1_due 6 = .ok (.ifCond .eq 12, 3) := by decide +kernel
theorem dX1_due_9 : decode cX1_due 9 = .ok (.aload_n 0, 1) := by decide +kernel
theorem dX1_due_10 : decode cX1_due 10 = .ok (.getfield 32, 3) := by decide +kernel
theorem dX1_due_13 : decode cX1_due 13 = .ok (.ifCond .eq 5, 3) := by decide +kernel
theorem dX1_due_16 : decode cX1_due 16 = .ok (.iconst 5, 1) := by decide +kernel
theorem dX1_due_17 : decode cX1_due 17 = .ok (.ireturn, 1) := by decide +kernel
theorem dX1_due_18 : decode cX1_due 18 = .ok (.aload_n 0, 1) := by decide +kernel
theorem dX1_due_19 : decode cX1_due 19 = .ok (.getfield 7, 3) := by decide +kernel
theorem dX1_due_22 : decode cX1_due 22 = .ok (.iconst 4, 1) := by decide +kernel
theorem dX1_due_23 : decode cX1_due 23 = .ok (.iand, 1) := by decide +kernel
theorem dX1_due_24 : decode cX1_due 24 = .ok (.ifCond .eq 20, 3) := by decide +kernel
theorem dX1_due_27 : decode cX1_due 27 = .ok (.aload_n 0, 1) := by decide +kernel
theorem dX1_due_28 : decode cX1_due 28 = .ok (.invokevirtual 36, 3) := by decide +kernel
theorem dX1_due_31 : decode cX1_due 31 = .ok (.aload_n 0, 1) := by decide +kernel
theorem dX1_due_32 : decode cX1_due 32 = .ok (.getfield 40, 3) := by decide +kernel
theorem dX1_due_35 : decode cX1_due 35 = .ok (.iand, 1) := by decide +kernel
theorem dX1_due_36 : decode cX1_due 36 = .ok (.ifCond .eq 8, 3) := by decide +kernel
theorem dX1_due_39 : decode cX1_due 39 = .ok (.bipush 8, 2) := by decide +kernel
theorem dX1_due_41 : decode cX1_due 41 = .ok (.goto 4, 3) := by decide +kernel
theorem dX1_due_44 : decode cX1_due 44 = .ok (.iconst 0, 1) := by decide +kernel
theorem dX1_due_45 : decode cX1_due 45 = .ok (.ireturn, 1) := by decide +kernel
set_option maxRecDepth 20000 in
theorem ggX1_entry_X1_goOn : GoodIn wsX1_entry wsX1_goOn := goodIn_r _ [9, 10, 2, 3, 11, 12, 13, 14, 15, 16, 17, 18, 19, 20, 21, 22, 23, 24, 25] (by decide +kernel) (by decide +kernel)
set_option maxRecDepth 20000 in
theorem gX1_entry_X1_goOn : GoodIn wsX1_entry (wsV RX1 43 RX1 yX1_goOn wsX1_goOn) := goodIn_app (goodIn_of _ (by decide +kernel)) ggX1_entry_X1_goOn
theorem dX1_entry_0 : decode cX1_entry 0 = .ok (.aload_n 0, 1) := by decide +kernel
theorem dX1_entry_1 : decode cX1_entry 1 = .ok (.iconst 0, 1) := by decide +kernel
theorem dX1_entry_2 : decode cX1_entry 2 = .ok (.putfield 20, 3) := by decide +kernel
theorem dX1_entry_5 : decode cX1_entry 5 = .ok (.iload_n 1, 1) := by decide +kernel
theorem dX1_entry_6 : decode cX1_entry 6 = .ok (.ifCond .lt 45, 3) := by decide +kernel
theorem dX1_entry_9 : decode cX1_entry 9 = .ok (.aload_n 0, 1) := by decide +kernel
theorem dX1_entry_10 : decode cX1_entry 10 = .ok (.getfield 26, 3) := by decide +kernel
theorem dX1_entry_13 : decode cX1_entry 13 = .ok (.bipush 32, 2) := by decide +kernel
theorem dX1_entry_15 : decode cX1_entry 15 = .ok (.if_icmp .eq 36, 3) := by decide +kernel
theorem dX1_entry_18 : decode cX1_entry 18 = .ok (.aload_n 0, 1) := by decide +kernel
theorem dX1_entry_19 : decode cX1_entry 19 = .ok (.getfield 26, 3) := by decide +kernel
theorem dX1_entry_22 : decode cX1_entry 22 = .ok (.ifCond .le 31, 3) := by decide +kernel
theorem dX1_entry_25 : decode cX1_entry 25 = .ok (.iload_n 1, 1) := by decide +kernel
theorem dX1_entry_26 : decode cX1_entry 26 = .ok (.aload_n 0, 1) := by decide +kernel
theorem dX1_entry_27 : decode cX1_entry 27 = .ok (.getfield 13, 3) := by decide +kernel
theorem dX1_entry_30 : decode cX1_entry 30 = .ok (.aload_n 0, 1) := by decide +kernel
theorem dX1_entry_31 : decode cX1_entry 31 = .ok (.getfield 26, 3) := by decide +kernel
theorem dX1_entry_34 : decode cX1_entry 34 = .ok (.ifCond .le 12, 3) := by decide +kernel
theorem dX1_entry_37 : decode cX1_entry 37 = .ok (.aload_n 0, 1) := by decide +kernel
theorem dX1_entry_38 : decode cX1_entry 38 = .ok (.getfield 26, 3) := by decide +kernel
theorem dX1_entry_41 : decode cX1_entry 41 = .ok (.iconst 1, 1) := by decide +kernel
theorem dX1_entry_42 : decode cX1_entry 42 = .ok (.isub, 1) := by decide +kernel
theorem dX1_entry_43 : decode cX1_entry 43 = .ok (.goto 4, 3) := by decide +kernel
theorem dX1_entry_46 : decode cX1_entry 46 = .ok (.iconst 0, 1) := by decide +kernel
theorem dX1_entry_47 : decode cX1_entry 47 = .ok (.iaload, 1) := by decide +kernel
theorem dX1_entry_48 : decode cX1_entry 48 = .ok (.if_icmp .gt 5, 3) := by decide +kernel
theorem dX1_entry_51 : decode cX1_entry 51 = .ok (.iconst 0, 1) := by decide +kernel
theorem dX1_entry_52 : decode cX1_entry 52 = .ok (.ireturn, 1) := by decide +kernel
theorem dX1_entry_53 : decode cX1_entry 53 = .ok (.aload_n 0, 1) := by decide +kernel
theorem dX1_entry_54 : decode cX1_entry 54 = .ok (.getfield 13, 3) := by decide +kernel
theorem dX1_entry_57 : decode cX1_entry 57 = .ok (.aload_n 0, 1) := by decide +kernel
theorem dX1_entry_58 : decode cX1_entry 58 = .ok (.getfield 26, 3) := by decide +kernel
theorem dX1_entry_61 : decode cX1_entry 61 = .ok (.iload_n 1, 1) := by decide +kernel
theorem dX1_entry_62 : decode cX1_entry 62 = .ok (.iastore, 1) := by decide +kernel
theorem dX1_entry_63 : decode cX1_entry 63 = .ok (.aload_n 0, 1) := by decide +kernel
theorem dX1_entry_64 : decode cX1_entry 64 = .ok (.getfield 17, 3) := by decide +kernel
theorem dX1_entry_67 : decode cX1_entry 67 = .ok (.aload_n 0, 1) := by decide +kernel
theorem dX1_entry_68 : decode cX1_entry 68 = .ok (.getfield 26, 3) := by decide +kernel
theorem dX1_entry_71 : decode cX1_entry 71 = .ok (.iload_n 2, 1) := by decide +kernel
theorem dX1_entry_72 : decode cX1_entry 72 = .ok (.iastore, 1) := by decide +kernel
theorem dX1_entry_73 : decode cX1_entry 73 = .ok (.aload_n 0, 1) := by decide +kernel
theorem dX1_entry_74 : decode cX1_entry 74 = .ok (.dup, 1) := by decide +kernel
theorem dX1_entry_75 : decode cX1_entry 75 = .ok (.getfield 26, 3) := by decide +kernel
theorem dX1_entry_78 : decode cX1_entry 78 = .ok (.iconst 1, 1) := by decide +kernel
theorem dX1_entry_79 : decode cX1_entry 79 = .ok (.iadd, 1) := by decide +kernel
theorem dX1_entry_80 : decode cX1_entry 80 = .ok (.putfield 26, 3) := by decide +kernel
theorem dX1_entry_83 : decode cX1_entry 83 = .ok (.aload_n 0, 1) := by decide +kernel
theorem dX1_entry_84 : decode cX1_entry 84 = .ok (.invokevirtual 43, 3) := by decide +kernel
theorem dX1_entry_87 : decode cX1_entry 87 = .ok (.iconst 1, 1) := by decide +kernel
theorem dX1_entry_88 : decode cX1_entry 88 = .ok (.ireturn, 1) := by decide +kernel
set_option maxRecDepth 20000 in
theorem ggX1_step_X1_goOn : GoodIn wsX1_step wsX1_goOn := goodIn_r _ [10, 11, 12, 13, 1, 14, 15, 16, 17, 18, 19, 20, 21, 22, 23, 24, 25, 26, 27] (by decide +kernel) (by decide +kernel)
set_option maxRecDepth 20000 in
theorem gX1_step_X1_goOn : GoodIn wsX1_step (wsV RX1 43 RX1 yX1_goOn wsX1_goOn) := goodIn_app (goodIn_of _ (by decide +kernel)) ggX1_step_X1_goOn
theorem dX1_step_0 : decode cX1_step 0 = .ok (.aload_n 0, 1) := by decide +kernel
theorem dX1_step_1 : decode cX1_step 1 = .ok (.dup, 1) := by decide +kernel
theorem dX1_step_2 : decode cX1_step 2 = .ok (.getfield 29, 3) := by decide +kernel
theorem dX1_step_5 : decode cX1_step 5 = .ok (.iconst 1, 1) := by decide +kernel
theorem dX1_step_6 : decode cX1_step 6 = .ok (.iadd, 1) := by decide +kernel
theorem dX1_step_7 : decode cX1_step 7 = .ok (.putfield 29, 3) := by decide +kernel
theorem dX1_step_10 : decode cX1_step 10 = .ok (.aload_n 0, 1) := by decide +kernel
theorem dX1_step_11 : decode cX1_step 11 = .ok (.getfield 46, 3) := by decide +kernel
theorem dX1_step_14 : decode cX1_step 14 = .ok (.ifCond .eq 34, 3) := by decide +kernel
theorem dX1_step_17 : decode cX1_step 17 = .ok (.aload_n 0, 1) := by decide +kernel
theorem dX1_step_18 : decode cX1_step 18 = .ok (.dup, 1) := by decide +kernel
theorem dX1_step_19 : decode cX1_step 19 = .ok (.getfield 49, 3) := by decide +kernel
theorem dX1_step_22 : decode cX1_step 22 = .ok (.iconst 1, 1) := by decide +kernel
theorem dX1_step_23 : decode cX1_step 23 = .ok (.iadd, 1) := by decide +kernel
theorem dX1_step_24 : decode cX1_step 24 = .ok (.putfield 49, 3) := by decide +kernel
theorem dX1_step_27 : decode cX1_step 27 = .ok (.aload_n 0, 1) := by decide +kernel
theorem dX1_step_28 : decode cX1_step 28 = .ok (.getfield 49, 3) := by decide +kernel
theorem dX1_step_31 : decode cX1_step 31 = .ok (.aload_n 0, 1) := by decide +kernel
theorem dX1_step_32 : decode cX1_step 32 = .ok (.getfield 52, 3) := by decide +kernel
theorem dX1_step_35 : decode cX1_step 35 = .ok (.if_icmp .ne 13, 3) := by decide +kernel
theorem dX1_step_38 : decode cX1_step 38 = .ok (.aload_n 0, 1) := by decide +kernel
theorem dX1_step_39 : decode cX1_step 39 = .ok (.iconst 1, 1) := by decide +kernel
theorem dX1_step_40 : decode cX1_step 40 = .ok (.putfield 32, 3) := by decide +kernel
theorem dX1_step_43 : decode cX1_step 43 = .ok (.aload_n 0, 1) := by decide +kernel
theorem dX1_step_44 : decode cX1_step 44 = .ok (.iconst 0, 1) := by decide +kernel
theorem dX1_step_45 : decode cX1_step 45 = .ok (.putfield 49, 3) := by decide +kernel
theorem dX1_step_48 : decode cX1_step 48 = .ok (.aload_n 0, 1) := by decide +kernel
theorem dX1_step_49 : decode cX1_step 49 = .ok (.invokevirtual 43, 3) := by decide +kernel
theorem dX1_step_52 : decode cX1_step 52 = .ok (.return_, 1) := by decide +kernel
set_option maxRecDepth 20000 in
theorem ggX1_steps_X1_due : GoodIn wsX1_steps wsX1_due := goodIn_r _ [8, 9, 10, 11, 12, 13, 14, 7, 15, 16, 17, 31, 32, 33, 34, 35, 36, 37, 38, 39, 40, 41, 42, 43, 44] (by decide +kernel) (by decide +kernel)
set_option maxRecDepth 20000 in
theorem gX1_steps_X1_due : GoodIn wsX1_steps (wsV RX1 56 RX1 yX1_due wsX1_due) := goodIn_app (goodIn_of _ (by decide +kernel)) ggX1_steps_X1_due
set_option maxRecDepth 20000 in
theorem ggX1_steps_X1_step : GoodIn wsX1_steps wsX1_step := goodIn_r _ [21, 2, 22, 23, 24, 10, 25, 26, 27, 7, 28, 16, 29, 30, 31, 32, 33, 34, 35, 36, 37, 38, 39, 40, 41, 42, 43, 44] (by decide +kernel) (by decide +kernel)
set_option maxRecDepth 20000 in
theorem gX1_steps_X1_step : GoodIn wsX1_steps (wsV RX1 59 RX1 yX1_step wsX1_step) := goodIn_app (goodIn_of _ (by decide +kernel)) ggX1_steps_X1_step
theorem dX1_steps_0 : decode cX1_steps 0 = .ok (.aload_n 0, 1) := by decide +kernel
theorem dX1_steps_1 : decode cX1_steps 1 = .ok (.iconst 0, 1) := by decide +kernel
theorem dX1_steps_2 : decode cX1_steps 2 = .ok (.putfield 20, 3) := by decide +kernel
theorem dX1_steps_5 : decode cX1_steps 5 = .ok (.iload_n 1, 1) := by decide +kernel
theorem dX1_steps_6 : decode cX1_steps 6 = .ok (.iconst 1, 1) := by decide +kernel
theorem dX1_steps_7 : decode cX1_steps 7 = .ok (.if_icmp .lt 21, 3) := by decide +kernel
theorem dX1_steps_10 : decode cX1_steps 10 = .ok (.iload_n 1, 1) := by decide +kernel
theorem dX1_steps_11 : decode cX1_steps 11 = .ok (.sipush 20000, 3) := by decide +kernel
theorem dX1_steps_14 : decode cX1_steps 14 = .ok (.if_icmp .gt 14, 3) := by decide +kernel
theorem dX1_steps_17 : decode cX1_steps 17 = .ok (.aload_n 0, 1) := by decide +kernel
theorem dX1_steps_18 : decode cX1_steps 18 = .ok (.getfield 29, 3) := by decide +kernel
theorem dX1_steps_21 : decode cX1_steps 21 = .ok (.ldc 55, 2) := by decide +kernel
theorem dX1_steps_23 : decode cX1_steps 23 = .ok (.iload_n 1, 1) := by decide +kernel
theorem dX1_steps_24 : decode cX1_steps 24 = .ok (.isub, 1) := by decide +kernel
theorem dX1_steps_25 : decode cX1_steps 25 = .ok (.if_icmp .le 5, 3) := by decide +kernel
theorem dX1_steps_28 : decode cX1_steps 28 = .ok (.iconst (-1), 1) := by decide +kernel
theorem dX1_steps_29 : decode cX1_steps 29 = .ok (.ireturn, 1) := by decide +kernel
theorem dX1_steps_30 : decode cX1_steps 30 = .ok (.iconst 0, 1) := by decide +kernel
theorem dX1_steps_31 : decode cX1_steps 31 = .ok (.istore_n 2, 1) := by decide +kernel
theorem dX1_steps_32 : decode cX1_steps 32 = .ok (.iload_n 2, 1) := by decide +kernel
theorem dX1_steps_33 : decode cX1_steps 33 = .ok (.iload_n 1, 1) := by decide +kernel
theorem dX1_steps_34 : decode cX1_steps 34 = .ok (.if_icmp .ge 20, 3) := by decide +kernel
theorem dX1_steps_37 : decode cX1_steps 37 = .ok (.aload_n 0, 1) := by decide +kernel
theorem dX1_steps_38 : decode cX1_steps 38 = .ok (.invokevirtual 56, 3) := by decide +kernel
theorem dX1_steps_41 : decode cX1_steps 41 = .ok (.ifCond .ne 13, 3) := by decide +kernel
theorem dX1_steps_44 : decode cX1_steps 44 = .ok (.aload_n 0, 1) := by decide +kernel
theorem dX1_steps_45 : decode cX1_steps 45 = .ok (.invokevirtual 59, 3) := by decide +kernel
theorem dX1_steps_48 : decode cX1_steps 48 = .ok (.iinc 2 1, 3) := by decide +kernel
theorem dX1_steps_51 : decode cX1_steps 51 = .ok (.goto (-19), 3) := by decide +kernel
theorem dX1_steps_54 : decode cX1_steps 54 = .ok (.iload_n 2, 1) := by decide +kernel
theorem dX1_steps_55 : decode cX1_steps 55 = .ok (.ireturn, 1) := by decide +kernel
set_option maxRecDepth 20000 in
theorem ggX1_take_X1_due : GoodIn wsX1_take wsX1_due := goodIn_r _ [9, 2, 10, 11, 12, 13, 14, 8, 15, 16, 17, 18, 19, 20, 21, 22, 23, 24, 25, 26, 27, 28, 29, 30, 31] (by decide +kernel) (by decide +kernel)
set_option maxRecDepth 20000 in
theorem gX1_take_X1_due : GoodIn wsX1_take (wsV RX1 56 RX1 yX1_due wsX1_due) := goodIn_app (goodIn_of _ (by decide +kernel)) ggX1_take_X1_due
theorem dX1_take_0 : decode cX1_take 0 = .ok (.aload_n 0, 1) := by decide +kernel
theorem dX1_take_1 : decode cX1_take 1 = .ok (.iconst 0, 1) := by decide +kernel
theorem dX1_take_2 : decode cX1_take 2 = .ok (.putfield 20, 3) := by decide +kernel
theorem dX1_take_5 : decode cX1_take 5 = .ok (.aload_n 0, 1) := by decide +kernel
theorem dX1_take_6 : decode cX1_take 6 = .ok (.invokevirtual 56, 3) := by decide +kernel
theorem dX1_take_9 : decode cX1_take 9 = .ok (.istore_n 1, 1) := by decide +kernel
theorem dX1_take_10 : decode cX1_take 10 = .ok (.iload_n 1, 1) := by decide +kernel
theorem dX1_take_11 : decode cX1_take 11 = .ok (.ifCond .le 34, 3) := by decide +kernel
theorem dX1_take_14 : decode cX1_take 14 = .ok (.aload_n 0, 1) := by decide +kernel
theorem dX1_take_15 : decode cX1_take 15 = .ok (.aload_n 0, 1) := by decide +kernel
theorem dX1_take_16 : decode cX1_take 16 = .ok (.getfield 7, 3) := by decide +kernel
theorem dX1_take_19 : decode cX1_take 19 = .ok (.putfield 62, 3) := by decide +kernel
theorem dX1_take_22 : decode cX1_take 22 = .ok (.aload_n 0, 1) := by decide +kernel
theorem dX1_take_23 : decode cX1_take 23 = .ok (.aload_n 0, 1) := by decide +kernel
theorem dX1_take_24 : decode cX1_take 24 = .ok (.getfield 7, 3) := by decide +kernel
theorem dX1_take_27 : decode cX1_take 27 = .ok (.bipush 32, 2) := by decide +kernel
theorem dX1_take_29 : decode cX1_take 29 = .ok (.iand, 1) := by decide +kernel
theorem dX1_take_30 : decode cX1_take 30 = .ok (.iconst 1, 1) := by decide +kernel
theorem dX1_take_31 : decode cX1_take 31 = .ok (.ior, 1) := by decide +kernel
theorem dX1_take_32 : decode cX1_take 32 = .ok (.putfield 7, 3) := by decide +kernel
theorem dX1_take_35 : decode cX1_take 35 = .ok (.aload_n 0, 1) := by decide +kernel
theorem dX1_take_36 : decode cX1_take 36 = .ok (.dup, 1) := by decide +kernel
theorem dX1_take_37 : decode cX1_take 37 = .ok (.getfield 65, 3) := by decide +kernel
theorem dX1_take_40 : decode cX1_take 40 = .ok (.iconst 1, 1) := by decide +kernel
theorem dX1_take_41 : decode cX1_take 41 = .ok (.iadd, 1) := by decide +kernel
theorem dX1_take_42 : decode cX1_take 42 = .ok (.putfield 65, 3) := by decide +kernel
theorem dX1_take_45 : decode cX1_take 45 = .ok (.iload_n 1, 1) := by decide +kernel
theorem dX1_take_46 : decode cX1_take 46 = .ok (.ireturn, 1) := by decide +kernel
theorem dX1_back_0 : decode cX1_back 0 = .ok (.aload_n 0, 1) := by decide +kernel
theorem dX1_back_1 : decode cX1_back 1 = .ok (.iconst 0, 1) := by decide +kernel
theorem dX1_back_2 : decode cX1_back 2 = .ok (.putfield 20, 3) := by decide +kernel
theorem dX1_back_5 : decode cX1_back 5 = .ok (.aload_n 0, 1) := by decide +kernel
theorem dX1_back_6 : decode cX1_back 6 = .ok (.aload_n 0, 1) := by decide +kernel
theorem dX1_back_7 : decode cX1_back 7 = .ok (.getfield 62, 3) := by decide +kernel
theorem dX1_back_10 : decode cX1_back 10 = .ok (.putfield 7, 3) := by decide +kernel
theorem dX1_back_13 : decode cX1_back 13 = .ok (.return_, 1) := by decide +kernel
theorem dJ9_min_f86c9_0 : decode cJ9_min_f86c9 0 = .ok (.lload_n 0, 1) := by decide +kernel
theorem dJ9_min_f86c9_1 : decode cJ9_min_f86c9 1 = .ok (.lload_n 2, 1) := by decide +kernel
theorem dJ9_min_f86c9_2 : decode cJ9_min_f86c9 2 = .ok (.lcmp, 1) := by decide +kernel
theorem dJ9_min_f86c9_3 : decode cJ9_min_f86c9 3 = .ok (.ifCond .gt 7, 3) := by decide +kernel
theorem dJ9_min_f86c9_6 : decode cJ9_min_f86c9 6 = .ok (.lload_n 0, 1) := by decide +kernel
theorem dJ9_min_f86c9_7 : decode cJ9_min_f86c9 7 = .ok (.goto 4, 3) := by decide +kernel
theorem dJ9_min_f86c9_10 : decode cJ9_min_f86c9 10 = .ok (.lload_n 2, 1) := by decide +kernel
theorem dJ9_min_f86c9_11 : decode cJ9_min_f86c9 11 = .ok (.lreturn, 1) := by decide +kernel
set_option maxRecDepth 20000 in
theorem ggL_law_X0_init : GoodIn wsL_law wsX0_init := goodIn_r _ [8, 9, 10, 11, 12, 13, 14, 15, 16, 17, 2, 18, 19, 20, 21, 22, 23, 24, 25, 26, 27, 28, 182, 183, 184, 185, 186, 187, 188, 189, 190, 191, 192, 193] (by decide +kernel) (by decide +kernel)
set_option maxRecDepth 20000 in
theorem gL_law_X0_init : GoodIn wsL_law (wsX0_init) := ggL_law_X0_init
set_option maxRecDepth 20000 in
theorem ggL_law_X1_init : GoodIn wsL_law wsX1_init := goodIn_r _ [31, 32, 10, 11, 33, 12, 34, 35, 194, 195, 196, 197, 198, 199, 200, 201, 202, 203, 204, 205, 206, 207] (by decide +kernel) (by decide +kernel)
set_option maxRecDepth 20000 in
theorem gL_law_X1_init : GoodIn wsL_law (wsX1_init) := ggL_law_X1_init
set_option maxRecDepth 20000 in
theorem ggL_law_X0_entry : GoodIn wsL_law wsX0_entry := goodIn_r _ [39, 19, 13, 14, 40, 41, 42, 2, 43, 182, 183, 184, 185, 186, 187, 188, 189, 190, 191, 192, 193] (by decide +kernel) (by decide +kernel)
set_option maxRecDepth 20000 in
theorem gL_law_X0_entry : GoodIn wsL_law (wsV RL 13 RX0 yX0_entry wsX0_entry) := goodIn_app (goodIn_of _ (by decide +kernel)) ggL_law_X0_entry
set_option maxRecDepth 20000 in
theorem ggL_law_X1_entry : GoodIn wsL_law wsX1_entry := goodIn_r _ [47, 48, 49, 34, 35, 50, 51, 52, 5, 53, 54, 55, 194, 195, 196, 197, 198, 199, 200, 201, 202, 203, 204, 205, 206, 207] (by decide +kernel) (by decide +kernel)
set_option maxRecDepth 20000 in
theorem gL_law_X1_entry : GoodIn wsL_law (wsV RL 17 RX1 yX1_entry wsX1_entry) := goodIn_app (goodIn_of _ (by decide +kernel)) ggL_law_X1_entry
set_option maxRecDepth 20000 in
theorem ggL_law_X0_steps : GoodIn wsL_law wsX0_steps := goodIn_r _ [59, 60, 20, 61, 62, 63, 2, 64, 65, 66, 67, 68, 69, 70, 71, 72, 24, 73, 74, 75, 76, 26, 77, 78, 79, 80, 19, 13, 14, 81, 82, 83, 84, 25, 85, 86, 87, 88, 23, 89, 90, 91, 92, 93, 22, 21, 94, 95, 96, 97, 98, 99, 100, 101, 102, 103, 104, 105, 106, 107, 182, 183, 184, 185, 186, 187, 188, 189, 190, 191, 192, 193] (by decide +kernel) (by decide +kernel)
set_option maxRecDepth 20000 in
theorem gL_law_X0_steps : GoodIn wsL_law (wsV RL 18 RX0 yX0_steps wsX0_steps) := goodIn_app (goodIn_of _ (by decide +kernel)) ggL_law_X0_steps
set_option maxRecDepth 20000 in
theorem ggL_law_X1_steps : GoodIn wsL_law wsX1_steps := goodIn_r _ [111, 48, 55, 112, 113, 114, 115, 5, 116, 33, 117, 118, 119, 120, 121, 122, 54, 35, 123, 124, 125, 126, 127, 128, 129, 50, 51, 52, 53, 49, 34, 194, 195, 196, 197, 198, 199, 200, 201, 202, 203, 204, 205, 206, 207] (by decide +kernel) (by decide +kernel)
set_option maxRecDepth 20000 in
theorem gL_law_X1_steps : GoodIn wsL_law (wsV RL 22 RX1 yX1_steps wsX1_steps) := goodIn_app (goodIn_of _ (by decide +kernel)) ggL_law_X1_steps
set_option maxRecDepth 20000 in
theorem ggL_law_X0_take : GoodIn wsL_law wsX0_take := goodIn_r _ [133, 26, 27, 28, 69, 70, 71, 2, 72, 24, 20, 73, 74, 75, 76, 77, 78, 79, 80, 19, 13, 14, 81, 82, 83, 84, 25, 182, 183, 184, 185, 186, 187, 188, 189, 190, 191, 192, 193] (by decide +kernel) (by decide +kernel)
set_option maxRecDepth 20000 in
theorem gL_law_X0_take : GoodIn wsL_law (wsV RL 23 RX0 yX0_take wsX0_take) := goodIn_app (goodIn_of _ (by decide +kernel)) ggL_law_X0_take
set_option maxRecDepth 20000 in
theorem ggL_law_X1_take : GoodIn wsL_law wsX1_take := goodIn_r _ [137, 48, 33, 138, 139, 113, 114, 115, 5, 116, 117, 118, 119, 120, 121, 122, 54, 35, 194, 195, 196, 197, 198, 199, 200, 201, 202, 203, 204, 205, 206, 207] (by decide +kernel) (by decide +kernel)
set_option maxRecDepth 20000 in
theorem gL_law_X1_take : GoodIn wsL_law (wsV RL 27 RX1 yX1_take wsX1_take) := goodIn_app (goodIn_of _ (by decide +kernel)) ggL_law_X1_take
set_option maxRecDepth 20000 in
theorem ggL_law_X0_back : GoodIn wsL_law wsX0_back := goodIn_r _ [143, 27, 26, 182, 183, 184, 185, 186, 187, 188, 189, 190, 191, 192, 193] (by decide +kernel) (by decide +kernel)
set_option maxRecDepth 20000 in
theorem gL_law_X0_back : GoodIn wsL_law (wsV RL 28 RX0 yX0_back wsX0_back) := goodIn_app (goodIn_of _ (by decide +kernel)) ggL_law_X0_back
set_option maxRecDepth 20000 in
theorem ggL_law_X1_back : GoodIn wsL_law wsX1_back := goodIn_r _ [147, 48, 138, 33, 194, 195, 196, 197, 198, 199, 200, 201, 202, 203, 204, 205, 206, 207] (by decide +kernel) (by decide +kernel)
set_option maxRecDepth 20000 in
theorem gL_law_X1_back : GoodIn wsL_law (wsV RL 31 RX1 yX1_back wsX1_back) := goodIn_app (goodIn_of _ (by decide +kernel)) ggL_law_X1_back
set_option maxRecDepth 20000 in
theorem ggL_law_X0_mode : GoodIn wsL_law wsX0_mode := goodIn_r _ [151, 26, 182, 183, 184, 185, 186, 187, 188, 189, 190, 191, 192, 193] (by decide +kernel) (by decide +kernel)
set_option maxRecDepth 20000 in
theorem gL_law_X0_mode : GoodIn wsL_law (wsV RL 32 RX0 yX0_mode wsX0_mode) := goodIn_app (goodIn_of _ (by decide +kernel)) ggL_law_X0_mode
set_option maxRecDepth 20000 in
theorem ggL_law_X0_mask : GoodIn wsL_law wsX0_mask := goodIn_r _ [155, 25, 182, 183, 184, 185, 186, 187, 188, 189, 190, 191, 192, 193] (by decide +kernel) (by decide +kernel)
set_option maxRecDepth 20000 in
theorem gL_law_X0_mask : GoodIn wsL_law (wsV RL 37 RX0 yX0_mask wsX0_mask) := goodIn_app (goodIn_of _ (by decide +kernel)) ggL_law_X0_mask
set_option maxRecDepth 20000 in
theorem ggL_law_X0_timer : GoodIn wsL_law wsX0_timer := goodIn_r _ [159, 160, 22, 23, 24, 182, 183, 184, 185, 186, 187, 188, 189, 190, 191, 192, 193] (by decide +kernel) (by decide +kernel)
set_option maxRecDepth 20000 in
theorem gL_law_X0_timer : GoodIn wsL_law (wsV RL 41 RX0 yX0_timer wsX0_timer) := goodIn_app (goodIn_of _ (by decide +kernel)) ggL_law_X0_timer
set_option maxRecDepth 20000 in
theorem ggL_law_X0_count : GoodIn wsL_law wsX0_count := goodIn_r _ [164, 21, 182, 183, 184, 185, 186, 187, 188, 189, 190, 191, 192, 193] (by decide +kernel) (by decide +kernel)
set_option maxRecDepth 20000 in
theorem gL_law_X0_count : GoodIn wsL_law (wsV RL 46 RX0 yX0_count wsX0_count) := goodIn_app (goodIn_of _ (by decide +kernel)) ggL_law_X0_count
set_option maxRecDepth 20000 in
theorem ggL_law_X0_reset : GoodIn wsL_law wsX0_reset := goodIn_r _ [168, 15, 16, 17, 2, 18, 19, 20, 21, 22, 23, 24, 25, 26, 27, 28, 182, 183, 184, 185, 186, 187, 188, 189, 190, 191, 192, 193] (by decide +kernel) (by decide +kernel)
set_option maxRecDepth 20000 in
theorem gL_law_X0_reset : GoodIn wsL_law (wsV RL 50 RX0 yX0_reset wsX0_reset) := goodIn_app (goodIn_of _ (by decide +kernel)) ggL_law_X0_reset
set_option maxRecDepth 20000 in
theorem ggL_law_X0_until : GoodIn wsL_law wsX0_until := goodIn_r _ [172, 60, 20, 61, 62, 63, 2, 64, 65, 66, 67, 68, 69, 70, 71, 72, 24, 73, 74, 75, 76, 26, 77, 78, 79, 80, 19, 13, 14, 81, 82, 83, 84, 25, 85, 86, 87, 88, 23, 89, 90, 91, 92, 93, 22, 21, 94, 95, 96, 97, 98, 99, 182, 183, 184, 185, 186, 187, 188, 189, 190, 191, 192, 193] (by decide +kernel) (by decide +kernel)
set_option maxRecDepth 20000 in
theorem gL_law_X0_until : GoodIn wsL_law (wsV RL 54 RX0 yX0_until wsX0_until) := goodIn_app (goodIn_of _ (by decide +kernel)) ggL_law_X0_until
set_option maxRecDepth 20000 in
theorem ggL_law_X0_linesAt : GoodIn wsL_law wsX0_linesAt := goodIn_r _ [80, 19, 13, 14, 182, 183, 184, 185, 186, 187, 188, 189, 190, 191, 192, 193] (by decide +kernel) (by decide +kernel)
set_option maxRecDepth 20000 in
theorem gL_law_X0_linesAt : GoodIn wsL_law (wsV RL 58 RX0 yX0_linesAt wsX0_linesAt) := goodIn_app (goodIn_of _ (by decide +kernel)) ggL_law_X0_linesAt
set_option maxRecDepth 20000 in
theorem ggL_law_X0_entryOf : GoodIn wsL_law wsX0_entryOf := goodIn_r _ [177, 19, 14, 13, 182, 183, 184, 185, 186, 187, 188, 189, 190, 191, 192, 193] (by decide +kernel) (by decide +kernel)
set_option maxRecDepth 20000 in
theorem gL_law_X0_entryOf : GoodIn wsL_law (wsV RL 62 RX0 yX0_entryOf wsX0_entryOf) := goodIn_app (goodIn_of _ (by decide +kernel)) ggL_law_X0_entryOf
set_option maxRecDepth 20000 in
theorem ggL_law_X0_look : GoodIn wsL_law wsX0_look := goodIn_r _ [181, 20, 21, 22, 24, 23, 25, 26, 27, 28, 19, 77, 78, 79, 2, 80, 13, 14, 69, 70, 71, 72, 73, 74, 75, 76, 81, 82, 83, 84, 182, 183, 184, 185, 186, 187, 188, 189, 190, 191, 192, 193] (by decide +kernel) (by decide +kernel)
set_option maxRecDepth 20000 in
theorem gL_law_X0_look : GoodIn wsL_law (wsV RL 67 RX0 yX0_look wsX0_look) := goodIn_app (goodIn_of _ (by decide +kernel)) ggL_law_X0_look
theorem dL_law_0 : decode cL_law 0 = .ok (.new 7, 3) := by decide +kernel
theorem dL_law_3 : decode cL_law 3 = .ok (.dup, 1) := by decide +kernel
theorem dL_law_4 : decode cL_law 4 = .ok (.invokespecial 9, 3) := by decide +kernel
theorem dL_law_7 : decode cL_law 7 = .ok (.astore_n 1, 1) := by decide +kernel
theorem dL_law_8 : decode cL_law 8 = .ok (.new 10, 3) := by decide +kernel
theorem dL_law_11 : decode cL_law 11 = .ok (.dup, 1) := by decide +kernel
theorem dL_law_12 : decode cL_law 12 = .ok (.invokespecial 12, 3) := by decide +kernel
theorem dL_law_15 : decode cL_law 15 = .ok (.astore_n 2, 1) := by decide +kernel
theorem dL_law_16 : decode cL_law 16 = .ok (.iconst 0, 1) := by decide +kernel
theorem dL_law_17 : decode cL_law 17 = .ok (.istore_n 3, 1) := by decide +kernel
theorem dL_law_18 : decode cL_law 18 = .ok (.iload_n 3, 1) := by decide +kernel
theorem dL_law_19 : decode cL_law 19 = .ok (.aload_n 0, 1) := by decide +kernel
theorem dL_law_20 : decode cL_law 20 = .ok (.arraylength, 1) := by decide +kernel
theorem dL_law_21 : decode cL_law 21 = .ok (.iconst 4, 1) := by decide +kernel
theorem dL_law_22 : decode cL_law 22 = .ok (.isub, 1) := by decide +kernel
theorem dL_law_23 : decode cL_law 23 = .ok (.if_icmp .gt 418, 3) := by decide +kernel
theorem dL_law_26 : decode cL_law 26 = .ok (.aload_n 0, 1) := by decide +kernel
theorem dL_law_27 : decode cL_law 27 = .ok (.iload_n 3, 1) := by decide +kernel
theorem dL_law_28 : decode cL_law 28 = .ok (.iaload, 1) := by decide +kernel
theorem dL_law_29 : decode cL_law 29 = .ok (.bipush 15, 2) := by decide +kernel
theorem dL_law_31 : decode cL_law 31 = .ok (.iand, 1) := by decide +kernel
theorem dL_law_32 : decode cL_law 32 = .ok (.tableswitch 403 0 12 #[68, 101, 124, 137, 148, 169, 190, 263, 284, 295, 308, 331, 380], 68) := by decide +kernel
theorem dL_law_100 : decode cL_law 100 = .ok (.aload_n 1, 1) := by decide +kernel
theorem dL_law_101 : decode cL_law 101 = .ok (.aload_n 0, 1) := by decide +kernel
theorem dL_law_102 : decode cL_law 102 = .ok (.iload_n 3, 1) := by decide +kernel
theorem dL_law_103 : decode cL_law 103 = .ok (.iconst 1, 1) := by decide +kernel
theorem dL_law_104 : decode cL_law 104 = .ok (.iadd, 1) := by decide +kernel
theorem dL_law_105 : decode cL_law 105 = .ok (.iaload, 1) := by decide +kernel
theorem dL_law_106 : decode cL_law 106 = .ok (.aload_n 0, 1) := by decide +kernel
theorem dL_law_107 : decode cL_law 107 = .ok (.iload_n 3, 1) := by decide +kernel
theorem dL_law_108 : decode cL_law 108 = .ok (.iconst 2, 1) := by decide +kernel
theorem dL_law_109 : decode cL_law 109 = .ok (.iadd, 1) := by decide +kernel
theorem dL_law_110 : decode cL_law 110 = .ok (.iaload, 1) := by decide +kernel
theorem dL_law_111 : decode cL_law 111 = .ok (.invokevirtual 13, 3) := by decide +kernel
theorem dL_law_114 : decode cL_law 114 = .ok (.aload_n 2, 1) := by decide +kernel
theorem dL_law_115 : decode cL_law 115 = .ok (.aload_n 0, 1) := by decide +kernel
theorem dL_law_116 : decode cL_law 116 = .ok (.iload_n 3, 1) := by decide +kernel
theorem dL_law_117 : decode cL_law 117 = .ok (.iconst 1, 1) := by decide +kernel
theorem dL_law_118 : decode cL_law 118 = .ok (.iadd, 1) := by decide +kernel
theorem dL_law_119 : decode cL_law 119 = .ok (.iaload, 1) := by decide +kernel
theorem dL_law_120 : decode cL_law 120 = .ok (.aload_n 0, 1) := by decide +kernel
theorem dL_law_121 : decode cL_law 121 = .ok (.iload_n 3, 1) := by decide +kernel
theorem dL_law_122 : decode cL_law 122 = .ok (.iconst 2, 1) := by decide +kernel
theorem dL_law_123 : decode cL_law 123 = .ok (.iadd, 1) := by decide +kernel
theorem dL_law_124 : decode cL_law 124 = .ok (.iaload, 1) := by decide +kernel
theorem dL_law_125 : decode cL_law 125 = .ok (.invokevirtual 17, 3) := by decide +kernel
theorem dL_law_128 : decode cL_law 128 = .ok (.if_icmp .eq 307, 3) := by decide +kernel
theorem dL_law_131 : decode cL_law 131 = .ok (.iconst 0, 1) := by decide +kernel
theorem dL_law_132 : decode cL_law 132 = .ok (.ireturn, 1) := by decide +kernel
theorem dL_law_133 : decode cL_law 133 = .ok (.aload_n 1, 1) := by decide +kernel
theorem dL_law_134 : decode cL_law 134 = .ok (.aload_n 0, 1) := by decide +kernel
theorem dL_law_135 : decode cL_law 135 = .ok (.iload_n 3, 1) := by decide +kernel
theorem dL_law_136 : decode cL_law 136 = .ok (.iconst 1, 1) := by decide +kernel
theorem dL_law_137 : decode cL_law 137 = .ok (.iadd, 1) := by decide +kernel
theorem dL_law_138 : decode cL_law 138 = .ok (.iaload, 1) := by decide +kernel
theorem dL_law_139 : decode cL_law 139 = .ok (.invokevirtual 18, 3) := by decide +kernel
theorem dL_law_142 : decode cL_law 142 = .ok (.aload_n 2, 1) := by decide +kernel
theorem dL_law_143 : decode cL_law 143 = .ok (.aload_n 0, 1) := by decide +kernel
theorem dL_law_144 : decode cL_law 144 = .ok (.iload_n 3, 1) := by decide +kernel
theorem dL_law_145 : decode cL_law 145 = .ok (.iconst 1, 1) := by decide +kernel
theorem dL_law_146 : decode cL_law 146 = .ok (.iadd, 1) := by decide +kernel
theorem dL_law_147 : decode cL_law 147 = .ok (.iaload, 1) := by decide +kernel
theorem dL_law_148 : decode cL_law 148 = .ok (.invokevirtual 22, 3) := by decide +kernel
theorem dL_law_151 : decode cL_law 151 = .ok (.if_icmp .eq 284, 3) := by decide +kernel
theorem dL_law_154 : decode cL_law 154 = .ok (.iconst 0, 1) := by decide +kernel
theorem dL_law_155 : decode cL_law 155 = .ok (.ireturn, 1) := by decide +kernel
theorem dL_law_156 : decode cL_law 156 = .ok (.aload_n 1, 1) := by decide +kernel
theorem dL_law_157 : decode cL_law 157 = .ok (.invokevirtual 23, 3) := by decide +kernel
theorem dL_law_160 : decode cL_law 160 = .ok (.aload_n 2, 1) := by decide +kernel
theorem dL_law_161 : decode cL_law 161 = .ok (.invokevirtual 27, 3) := by decide +kernel
theorem dL_law_164 : decode cL_law 164 = .ok (.if_icmp .eq 271, 3) := by decide +kernel
theorem dL_law_167 : decode cL_law 167 = .ok (.iconst 0, 1) := by decide +kernel
theorem dL_law_168 : decode cL_law 168 = .ok (.ireturn, 1) := by decide +kernel
theorem dL_law_169 : decode cL_law 169 = .ok (.aload_n 1, 1) := by decide +kernel
theorem dL_law_170 : decode cL_law 170 = .ok (.invokevirtual 28, 3) := by decide +kernel
theorem dL_law_173 : decode cL_law 173 = .ok (.aload_n 2, 1) := by decide +kernel
theorem dL_law_174 : decode cL_law 174 = .ok (.invokevirtual 31, 3) := by decide +kernel
theorem dL_law_177 : decode cL_law 177 = .ok (.goto 258, 3) := by decide +kernel
theorem dL_law_180 : decode cL_law 180 = .ok (.aload_n 1, 1) := by decide +kernel
theorem dL_law_181 : decode cL_law 181 = .ok (.aload_n 0, 1) := by decide +kernel
theorem dL_law_182 : decode cL_law 182 = .ok (.iload_n 3, 1) := by decide +kernel
theorem dL_law_183 : decode cL_law 183 = .ok (.iconst 1, 1) := by decide +kernel
theorem dL_law_184 : decode cL_law 184 = .ok (.iadd, 1) := by decide +kernel
theorem dL_law_185 : decode cL_law 185 = .ok (.iaload, 1) := by decide +kernel
theorem dL_law_186 : decode cL_law 186 = .ok (.invokevirtual 32, 3) := by decide +kernel
theorem dL_law_189 : decode cL_law 189 = .ok (.aload_n 2, 1) := by decide +kernel
theorem dL_law_190 : decode cL_law 190 = .ok (.aload_n 0, 1) := by decide +kernel
theorem dL_law_191 : decode cL_law 191 = .ok (.iload_n 3, 1) := by decide +kernel
theorem dL_law_192 : decode cL_law 192 = .ok (.iconst 1, 1) := by decide +kernel
theorem dL_law_193 : decode cL_law 193 = .ok (.iadd, 1) := by decide +kernel
theorem dL_law_194 : decode cL_law 194 = .ok (.iaload, 1) := by decide +kernel
theorem dL_law_195 : decode cL_law 195 = .ok (.invokevirtual 36, 3) := by decide +kernel
theorem dL_law_198 : decode cL_law 198 = .ok (.goto 237, 3) := by decide +kernel
theorem dL_law_201 : decode cL_law 201 = .ok (.aload_n 1, 1) := by decide +kernel
theorem dL_law_202 : decode cL_law 202 = .ok (.aload_n 0, 1) := by decide +kernel
theorem dL_law_203 : decode cL_law 203 = .ok (.iload_n 3, 1) := by decide +kernel
theorem dL_law_204 : decode cL_law 204 = .ok (.iconst 1, 1) := by decide +kernel
theorem dL_law_205 : decode cL_law 205 = .ok (.iadd, 1) := by decide +kernel
theorem dL_law_206 : decode cL_law 206 = .ok (.iaload, 1) := by decide +kernel
theorem dL_law_207 : decode cL_law 207 = .ok (.invokevirtual 37, 3) := by decide +kernel
theorem dL_law_210 : decode cL_law 210 = .ok (.aload_n 2, 1) := by decide +kernel
theorem dL_law_211 : decode cL_law 211 = .ok (.aload_n 0, 1) := by decide +kernel
theorem dL_law_212 : decode cL_law 212 = .ok (.iload_n 3, 1) := by decide +kernel
theorem dL_law_213 : decode cL_law 213 = .ok (.iconst 1, 1) := by decide +kernel
theorem dL_law_214 : decode cL_law 214 = .ok (.iadd, 1) := by decide +kernel
theorem dL_law_215 : decode cL_law 215 = .ok (.iaload, 1) := by decide +kernel
theorem dL_law_216 : decode cL_law 216 = .ok (.invokevirtual 40, 3) := by decide +kernel
theorem dL_law_219 : decode cL_law 219 = .ok (.goto 216, 3) := by decide +kernel
theorem dL_law_222 : decode cL_law 222 = .ok (.aload_n 1, 1) := by decide +kernel
theorem dL_law_223 : decode cL_law 223 = .ok (.aload_n 0, 1) := by decide +kernel
theorem dL_law_224 : decode cL_law 224 = .ok (.iload_n 3, 1) := by decide +kernel
theorem dL_law_225 : decode cL_law 225 = .ok (.iconst 1, 1) := by decide +kernel
theorem dL_law_226 : decode cL_law 226 = .ok (.iadd, 1) := by decide +kernel
theorem dL_law_227 : decode cL_law 227 = .ok (.iaload, 1) := by decide +kernel
theorem dL_law_228 : decode cL_law 228 = .ok (.aload_n 0, 1) := by decide +kernel
theorem dL_law_229 : decode cL_law 229 = .ok (.iload_n 3, 1) := by decide +kernel
theorem dL_law_230 : decode cL_law 230 = .ok (.iconst 2, 1) := by decide +kernel
theorem dL_law_231 : decode cL_law 231 = .ok (.iadd, 1) := by decide +kernel
theorem dL_law_232 : decode cL_law 232 = .ok (.iaload, 1) := by decide +kernel
theorem dL_law_233 : decode cL_law 233 = .ok (.ifCond .eq 7, 3) := by decide +kernel
theorem dL_law_236 : decode cL_law 236 = .ok (.iconst 1, 1) := by decide +kernel
theorem dL_law_237 : decode cL_law 237 = .ok (.goto 4, 3) := by decide +kernel
theorem dL_law_240 : decode cL_law 240 = .ok (.iconst 0, 1) := by decide +kernel
theorem dL_law_241 : decode cL_law 241 = .ok (.aload_n 0, 1) := by decide +kernel
theorem dL_law_242 : decode cL_law 242 = .ok (.iload_n 3, 1) := by decide +kernel
theorem dL_law_243 : decode cL_law 243 = .ok (.iconst 3, 1) := by decide +kernel
theorem dL_law_244 : decode cL_law 244 = .ok (.iadd, 1) := by decide +kernel
theorem dL_law_245 : decode cL_law 245 = .ok (.iaload, 1) := by decide +kernel
theorem dL_law_246 : decode cL_law 246 = .ok (.ifCond .eq 7, 3) := by decide +kernel
theorem dL_law_249 : decode cL_law 249 = .ok (.iconst 1, 1) := by decide +kernel
theorem dL_law_250 : decode cL_law 250 = .ok (.goto 4, 3) := by decide +kernel
theorem dL_law_253 : decode cL_law 253 = .ok (.iconst 0, 1) := by decide +kernel
theorem dL_law_254 : decode cL_law 254 = .ok (.invokevirtual 41, 3) := by decide +kernel
theorem dL_law_257 : decode cL_law 257 = .ok (.aload_n 2, 1) := by decide +kernel
theorem dL_law_258 : decode cL_law 258 = .ok (.aload_n 0, 1) := by decide +kernel
theorem dL_law_259 : decode cL_law 259 = .ok (.iload_n 3, 1) := by decide +kernel
theorem dL_law_260 : decode cL_law 260 = .ok (.iconst 1, 1) := by decide +kernel
theorem dL_law_261 : decode cL_law 261 = .ok (.iadd, 1) := by decide +kernel
theorem dL_law_262 : decode cL_law 262 = .ok (.iaload, 1) := by decide +kernel
theorem dL_law_263 : decode cL_law 263 = .ok (.aload_n 0, 1) := by decide +kernel
theorem dL_law_264 : decode cL_law 264 = .ok (.iload_n 3, 1) := by decide +kernel
theorem dL_law_265 : decode cL_law 265 = .ok (.iconst 2, 1) := by decide +kernel
theorem dL_law_266 : decode cL_law 266 = .ok (.iadd, 1) := by decide +kernel
theorem dL_law_267 : decode cL_law 267 = .ok (.iaload, 1) := by decide +kernel
theorem dL_law_268 : decode cL_law 268 = .ok (.ifCond .eq 7, 3) := by decide +kernel
theorem dL_law_271 : decode cL_law 271 = .ok (.iconst 1, 1) := by decide +kernel
theorem dL_law_272 : decode cL_law 272 = .ok (.goto 4, 3) := by decide +kernel
theorem dL_law_275 : decode cL_law 275 = .ok (.iconst 0, 1) := by decide +kernel
theorem dL_law_276 : decode cL_law 276 = .ok (.aload_n 0, 1) := by decide +kernel
theorem dL_law_277 : decode cL_law 277 = .ok (.iload_n 3, 1) := by decide +kernel
theorem dL_law_278 : decode cL_law 278 = .ok (.iconst 3, 1) := by decide +kernel
theorem dL_law_279 : decode cL_law 279 = .ok (.iadd, 1) := by decide +kernel
theorem dL_law_280 : decode cL_law 280 = .ok (.iaload, 1) := by decide +kernel
theorem dL_law_281 : decode cL_law 281 = .ok (.ifCond .eq 7, 3) := by decide +kernel
theorem dL_law_284 : decode cL_law 284 = .ok (.iconst 1, 1) := by decide +kernel
theorem dL_law_285 : decode cL_law 285 = .ok (.goto 4, 3) := by decide +kernel
theorem dL_law_288 : decode cL_law 288 = .ok (.iconst 0, 1) := by decide +kernel
theorem dL_law_289 : decode cL_law 289 = .ok (.invokevirtual 45, 3) := by decide +kernel
theorem dL_law_292 : decode cL_law 292 = .ok (.goto 143, 3) := by decide +kernel
theorem dL_law_295 : decode cL_law 295 = .ok (.aload_n 1, 1) := by decide +kernel
theorem dL_law_296 : decode cL_law 296 = .ok (.aload_n 0, 1) := by decide +kernel
theorem dL_law_297 : decode cL_law 297 = .ok (.iload_n 3, 1) := by decide +kernel
theorem dL_law_298 : decode cL_law 298 = .ok (.iconst 1, 1) := by decide +kernel
theorem dL_law_299 : decode cL_law 299 = .ok (.iadd, 1) := by decide +kernel
theorem dL_law_300 : decode cL_law 300 = .ok (.iaload, 1) := by decide +kernel
theorem dL_law_301 : decode cL_law 301 = .ok (.invokevirtual 46, 3) := by decide +kernel
theorem dL_law_304 : decode cL_law 304 = .ok (.aload_n 2, 1) := by decide +kernel
theorem dL_law_305 : decode cL_law 305 = .ok (.aload_n 0, 1) := by decide +kernel
theorem dL_law_306 : decode cL_law 306 = .ok (.iload_n 3, 1) := by decide +kernel
theorem dL_law_307 : decode cL_law 307 = .ok (.iconst 1, 1) := by decide +kernel
theorem dL_law_308 : decode cL_law 308 = .ok (.iadd, 1) := by decide +kernel
theorem dL_law_309 : decode cL_law 309 = .ok (.iaload, 1) := by decide +kernel
theorem dL_law_310 : decode cL_law 310 = .ok (.invokevirtual 49, 3) := by decide +kernel
theorem dL_law_313 : decode cL_law 313 = .ok (.goto 122, 3) := by decide +kernel
theorem dL_law_316 : decode cL_law 316 = .ok (.aload_n 1, 1) := by decide +kernel
theorem dL_law_317 : decode cL_law 317 = .ok (.invokevirtual 50, 3) := by decide +kernel
theorem dL_law_320 : decode cL_law 320 = .ok (.aload_n 2, 1) := by decide +kernel
theorem dL_law_321 : decode cL_law 321 = .ok (.invokevirtual 53, 3) := by decide +kernel
theorem dL_law_324 : decode cL_law 324 = .ok (.goto 111, 3) := by decide +kernel
theorem dL_law_327 : decode cL_law 327 = .ok (.aload_n 1, 1) := by decide +kernel
theorem dL_law_328 : decode cL_law 328 = .ok (.invokevirtual 54, 3) := by decide +kernel
theorem dL_law_331 : decode cL_law 331 = .ok (.aload_n 2, 1) := by decide +kernel
theorem dL_law_332 : decode cL_law 332 = .ok (.invokevirtual 57, 3) := by decide +kernel
theorem dL_law_335 : decode cL_law 335 = .ok (.if_icmp .eq 100, 3) := by decide +kernel
theorem dL_law_338 : decode cL_law 338 = .ok (.iconst 0, 1) := by decide +kernel
theorem dL_law_339 : decode cL_law 339 = .ok (.ireturn, 1) := by decide +kernel
theorem dL_law_340 : decode cL_law 340 = .ok (.aload_n 1, 1) := by decide +kernel
theorem dL_law_341 : decode cL_law 341 = .ok (.aload_n 0, 1) := by decide +kernel
theorem dL_law_342 : decode cL_law 342 = .ok (.iload_n 3, 1) := by decide +kernel
theorem dL_law_343 : decode cL_law 343 = .ok (.iconst 1, 1) := by decide +kernel
theorem dL_law_344 : decode cL_law 344 = .ok (.iadd, 1) := by decide +kernel
theorem dL_law_345 : decode cL_law 345 = .ok (.iaload, 1) := by decide +kernel
theorem dL_law_346 : decode cL_law 346 = .ok (.invokevirtual 58, 3) := by decide +kernel
theorem dL_law_349 : decode cL_law 349 = .ok (.aload_n 2, 1) := by decide +kernel
theorem dL_law_350 : decode cL_law 350 = .ok (.aload_n 0, 1) := by decide +kernel
theorem dL_law_351 : decode cL_law 351 = .ok (.iload_n 3, 1) := by decide +kernel
theorem dL_law_352 : decode cL_law 352 = .ok (.iconst 1, 1) := by decide +kernel
theorem dL_law_353 : decode cL_law 353 = .ok (.iadd, 1) := by decide +kernel
theorem dL_law_354 : decode cL_law 354 = .ok (.iaload, 1) := by decide +kernel
theorem dL_law_355 : decode cL_law 355 = .ok (.invokevirtual 61, 3) := by decide +kernel
theorem dL_law_358 : decode cL_law 358 = .ok (.if_icmp .eq 77, 3) := by decide +kernel
theorem dL_law_361 : decode cL_law 361 = .ok (.iconst 0, 1) := by decide +kernel
theorem dL_law_362 : decode cL_law 362 = .ok (.ireturn, 1) := by decide +kernel
theorem dL_law_363 : decode cL_law 363 = .ok (.aload_n 1, 1) := by decide +kernel
theorem dL_law_364 : decode cL_law 364 = .ok (.aload_n 0, 1) := by decide +kernel
theorem dL_law_365 : decode cL_law 365 = .ok (.iload_n 3, 1) := by decide +kernel
theorem dL_law_366 : decode cL_law 366 = .ok (.iconst 1, 1) := by decide +kernel
theorem dL_law_367 : decode cL_law 367 = .ok (.iadd, 1) := by decide +kernel
theorem dL_law_368 : decode cL_law 368 = .ok (.iaload, 1) := by decide +kernel
theorem dL_law_369 : decode cL_law 369 = .ok (.aload_n 0, 1) := by decide +kernel
theorem dL_law_370 : decode cL_law 370 = .ok (.iload_n 3, 1) := by decide +kernel
theorem dL_law_371 : decode cL_law 371 = .ok (.iconst 2, 1) := by decide +kernel
theorem dL_law_372 : decode cL_law 372 = .ok (.iadd, 1) := by decide +kernel
theorem dL_law_373 : decode cL_law 373 = .ok (.iaload, 1) := by decide +kernel
theorem dL_law_374 : decode cL_law 374 = .ok (.ifCond .eq 7, 3) := by decide +kernel
theorem dL_law_377 : decode cL_law 377 = .ok (.iconst 1, 1) := by decide +kernel
theorem dL_law_378 : decode cL_law 378 = .ok (.goto 4, 3) := by decide +kernel
theorem dL_law_381 : decode cL_law 381 = .ok (.iconst 0, 1) := by decide +kernel
theorem dL_law_382 : decode cL_law 382 = .ok (.invokevirtual 62, 3) := by decide +kernel
theorem dL_law_385 : decode cL_law 385 = .ok (.aload_n 2, 1) := by decide +kernel
theorem dL_law_386 : decode cL_law 386 = .ok (.aload_n 0, 1) := by decide +kernel
theorem dL_law_387 : decode cL_law 387 = .ok (.iload_n 3, 1) := by decide +kernel
theorem dL_law_388 : decode cL_law 388 = .ok (.iconst 1, 1) := by decide +kernel
theorem dL_law_389 : decode cL_law 389 = .ok (.iadd, 1) := by decide +kernel
theorem dL_law_390 : decode cL_law 390 = .ok (.iaload, 1) := by decide +kernel
theorem dL_law_391 : decode cL_law 391 = .ok (.aload_n 0, 1) := by decide +kernel
theorem dL_law_392 : decode cL_law 392 = .ok (.iload_n 3, 1) := by decide +kernel
theorem dL_law_393 : decode cL_law 393 = .ok (.iconst 2, 1) := by decide +kernel
theorem dL_law_394 : decode cL_law 394 = .ok (.iadd, 1) := by decide +kernel
theorem dL_law_395 : decode cL_law 395 = .ok (.iaload, 1) := by decide +kernel
theorem dL_law_396 : decode cL_law 396 = .ok (.ifCond .eq 7, 3) := by decide +kernel
theorem dL_law_399 : decode cL_law 399 = .ok (.iconst 1, 1) := by decide +kernel
theorem dL_law_400 : decode cL_law 400 = .ok (.goto 4, 3) := by decide +kernel
theorem dL_law_403 : decode cL_law 403 = .ok (.iconst 0, 1) := by decide +kernel
theorem dL_law_404 : decode cL_law 404 = .ok (.invokevirtual 66, 3) := by decide +kernel
theorem dL_law_407 : decode cL_law 407 = .ok (.if_icmp .eq 28, 3) := by decide +kernel
theorem dL_law_410 : decode cL_law 410 = .ok (.iconst 0, 1) := by decide +kernel
theorem dL_law_411 : decode cL_law 411 = .ok (.ireturn, 1) := by decide +kernel
theorem dL_law_412 : decode cL_law 412 = .ok (.aload_n 1, 1) := by decide +kernel
theorem dL_law_413 : decode cL_law 413 = .ok (.aload_n 0, 1) := by decide +kernel
theorem dL_law_414 : decode cL_law 414 = .ok (.iload_n 3, 1) := by decide +kernel
theorem dL_law_415 : decode cL_law 415 = .ok (.iconst 1, 1) := by decide +kernel
theorem dL_law_416 : decode cL_law 416 = .ok (.iadd, 1) := by decide +kernel
theorem dL_law_417 : decode cL_law 417 = .ok (.iaload, 1) := by decide +kernel
theorem dL_law_418 : decode cL_law 418 = .ok (.invokevirtual 67, 3) := by decide +kernel
theorem dL_law_421 : decode cL_law 421 = .ok (.aload_n 2, 1) := by decide +kernel
theorem dL_law_422 : decode cL_law 422 = .ok (.aload_n 0, 1) := by decide +kernel
theorem dL_law_423 : decode cL_law 423 = .ok (.iload_n 3, 1) := by decide +kernel
theorem dL_law_424 : decode cL_law 424 = .ok (.iconst 1, 1) := by decide +kernel
theorem dL_law_425 : decode cL_law 425 = .ok (.iadd, 1) := by decide +kernel
theorem dL_law_426 : decode cL_law 426 = .ok (.iaload, 1) := by decide +kernel
theorem dL_law_427 : decode cL_law 427 = .ok (.invokevirtual 70, 3) := by decide +kernel
theorem dL_law_430 : decode cL_law 430 = .ok (.if_icmp .eq 5, 3) := by decide +kernel
theorem dL_law_433 : decode cL_law 433 = .ok (.iconst 0, 1) := by decide +kernel
theorem dL_law_434 : decode cL_law 434 = .ok (.ireturn, 1) := by decide +kernel
theorem dL_law_435 : decode cL_law 435 = .ok (.iinc 3 4, 3) := by decide +kernel
theorem dL_law_438 : decode cL_law 438 = .ok (.goto (-420), 3) := by decide +kernel
theorem dL_law_441 : decode cL_law 441 = .ok (.iconst 1, 1) := by decide +kernel
theorem dL_law_442 : decode cL_law 442 = .ok (.ireturn, 1) := by decide +kernel
abbrev vwCl : List vw_C := [(RX0, TX0, 12), (RX1, TX1, 14)]
